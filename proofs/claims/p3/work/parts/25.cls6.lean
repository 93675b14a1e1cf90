def rm_X0_addUpSets : Room := { frames := 0, cells := 0, slots := 0, locals := 0 }
set_option maxHeartbeats 4000000 in
set_option maxRecDepth 100000 in
theorem c_X0_addUpSets (l : Launch) (dC : Nat → ClassId) (dI : Nat → Nat → Nat) (cI cZ cJ : ClassId) (h : Nat → Nat) (F : Nat → Nat → Int32) (V : Nat → Int32) (n : Nat) (hV1 : V 1 = nI n) (bV1 : n ≤ 40) (Pw : Nat → Nat) (hPw : ∀ i, i < n → F 16 i = nI (Pw i)) (bPw : ∀ i, i < n → Pw i ≤ 100) (Ow : Nat → Nat) (hOw : ∀ i, i < n → F 15 i = nI (Ow i)) (bOw : ∀ i, i < n → Ow i ≤ n - 1) (f0 : Nat) (hf0 : f0 ≤ 7) (hf1 : f0 ≤ n)   : CtV l (dC, dI) vwCl (tys3 cI cZ cJ) yX0_addUpSets wsX0_addUpSets rm_X0_addUpSets [.ref (h 2), .int (nI f0)] (wC cI cZ h F V) (S := Nat → Nat → Int32) (fun u => (∀ j, j ∉ ([21] : List Nat) → u j = F j) ∧ (True)) (fun u => wC cI cZ h u V) 0 0 := by
  refine ct_V (cc := cX0_addUpSets) (maxL := 5) (own := RX0) (by decide) rfl rfl (Nat.le_of_ble_eq_true rfl) (lv := [(0, .ref (h 2)), (1, .int (nI f0))]) rfl ?_
  intro p e s m args below meth c A Q ls hnm fx hK hP hD hA hl hret
  obtain ⟨hx, hb, hml, hown, hts⟩ := id fx
  have hS : va_S A s.heap s.heap [] := va_S.rf
  have hw0 := hts (.fieldLink RX0 43 "MirrorTower$Face" "setPowers" "[I") (by decide +kernel)
  have hin_X0 : ∀ w ∈ u_ws RX0 TX0 11, w ∈ wsX0_addUpSets := by decide +kernel
  have hw2 := hts (.fieldLink RX0 28 "MirrorTower$Face" "powers" "[I") (by decide +kernel)
  have hw3 := hts (.fieldLink RX0 25 "MirrorTower$Face" "order" "[I") (by decide +kernel)
  obtain ⟨H, hH⟩ : ∃ H, H = s.heap := ⟨_, rfl⟩
  rw [← hH] at hP ⊢
  have hS : va_S A s.heap H [] := by rw [hH]; exact hS
  generalize ([] : List Loc) = locs at hS ⊢
  refine lv_aload_n hx hb dX0_addUpSets_0 rfl (lv_at hl 0 rfl) ?_
  refine va_get (D := (dC, dI)) (ci := 0) (v := .ref (h 21)) (C := RX0) (T := TX0) (N := 11) hx hb hts hin_X0 hown hK hP 2 rfl rfl 9 (by decide) hw0 (fun _ h9 => h9) rfl dX0_addUpSets_1 ?_
  refine lv_iconst (v := 0) hx hb dX0_addUpSets_4 (by decide) ?_
  refine lv_iconst (v := 0) hx hb dX0_addUpSets_5 (by decide) ?_
  refine va_iast hx hb hK hP hD hS 21 0 rfl rfl (vp_in_nI (n := 0) (N := 128) (by decide) (by decide)) dX0_addUpSets_6 (fun H locs hP hD hS => ?_)
  obtain ⟨F_1, eF_1⟩ : ∃ z : Nat → Nat → Int32, z = va_up F 21 (upd (F 21) (0 : Int32).toNatClampNeg 0) := ⟨_, rfl⟩
  have hP : va_P (dC, dI) vwCl (wC cI cZ h F_1 V) H := by rw [eF_1]; exact hP
  have hD : va_D A (wC cI cZ h F_1 V) := by rw [eF_1]; exact hD
  have hN_2 : ∀ i, i < n → F_1 16 i = nI (Pw i) := by rw [eF_1]; exact hPw
  have hN_3 : ∀ i, i < n → F_1 15 i = nI (Ow i) := by rw [eF_1]; exact hOw
  have hE_4 : F_1 21 0 = 0 := by rw [eF_1]; rfl
  refine lv_iconst (v := 0) hx hb dX0_addUpSets_7 (by decide) ?_
  refine lv_istore_n (lv' := [(2, .int 0), (0, .ref (h 2)), (1, .int (nI f0))]) hx hb dX0_addUpSets_8 rfl hl (by decide) rfl (fun ls hl => ?_)
  have loop9 : ∀ (fu : Nat) (t : Nat) (F1 : Nat → Nat → Int32), (t ≤ f0) → (∀ j, j ∉ ([21] : List Nat) → F1 j = F j) → (f0 - t) < fu → ∀ (H : Heap) (locs : List Loc) (ls : Array Slot), va_P (dC, dI) vwCl (wC cI cZ h F1 V) H → va_D A (wC cI cZ h F1 V) → va_S A s.heap H locs → lv_has ls 5 [(0, .ref (h 2)), (1, .int (nI f0)), (2, .int (nI t))] → W p l e rm_X0_addUpSets s m args below meth c H locs 0 0 Q (F0 m 9 ls []) := by
    intro fu
    induction fu with
    | zero => intro t F1 ht hfr hn_; exact absurd hn_ (Nat.not_lt_zero _)
    | succ fu ih9 =>
      intro t F1 ht hfr hn_ H locs ls hP hD hS hl
      have hN_5 : ∀ i, i < n → F1 16 i = nI (Pw i) := by rw [hfr 16 (by decide)]; exact hPw
      have hN_6 : ∀ i, i < n → F1 15 i = nI (Ow i) := by rw [hfr 15 (by decide)]; exact hOw
      refine lv_iload_n hx hb dX0_addUpSets_9 rfl (lv_at hl 2 rfl) ?_
      refine lv_iload_n hx hb dX0_addUpSets_10 rfl (lv_at hl 1 rfl) ?_
      refine lv_icmp_ge (tgt := 67) hx hb dX0_addUpSets_11 (by decide) (fun c_7 => ?_) (fun c_7 => ?_)
      · have c_7 : f0 ≤ t := (nI_leI (a := f0) (b := t) (by omega) (by omega)).mp c_7
        exact hret F1 H locs 67 ls dX0_addUpSets_67 (⟨hfr, trivial⟩) (hP) (hD) hS
      · have c_7 : ¬ f0 ≤ t := fun h => c_7 ((nI_leI (a := f0) (b := t) (by omega) (by omega)).mpr h)
        refine lv_iconst (v := 1) hx hb dX0_addUpSets_14 (by decide) ?_
        refine lv_iload_n hx hb dX0_addUpSets_15 rfl (lv_at hl 2 rfl) ?_
        have hp2 : 2 ^ t ≤ 2 ^ 6 := Nat.pow_le_pow_right (by omega) (by omega)
        refine lv_ishl hx hb dX0_addUpSets_16 ?_
        refine lv_topi (fun x_8 ex_8 => ?_)
        obtain rfl : x_8 = nI (2 ^ t) := ex_8.trans (shl1 (by omega))
        refine lv_istore_n (lv' := [(3, .int (nI (2 ^ t))), (0, .ref (h 2)), (1, .int (nI f0)), (2, .int (nI t))]) hx hb dX0_addUpSets_17 rfl hl (by decide) rfl (fun ls hl => ?_)
        refine lv_iconst (v := 0) hx hb dX0_addUpSets_18 (by decide) ?_
        refine lv_istore (lv' := [(4, .int 0), (3, .int (nI (2 ^ t))), (0, .ref (h 2)), (1, .int (nI f0)), (2, .int (nI t))]) hx hb dX0_addUpSets_19 hl (by decide) rfl (fun ls hl => ?_)
        have loop21 : ∀ (fu : Nat) (q : Nat) (F2 : Nat → Nat → Int32), (q ≤ 2 ^ t) → (∀ j, j ∉ ([21] : List Nat) → F2 j = F j) → (2 ^ t - q) < fu → ∀ (H : Heap) (locs : List Loc) (ls : Array Slot), va_P (dC, dI) vwCl (wC cI cZ h F2 V) H → va_D A (wC cI cZ h F2 V) → va_S A s.heap H locs → lv_has ls 5 [(0, .ref (h 2)), (1, .int (nI f0)), (2, .int (nI t)), (3, .int (nI (2 ^ t))), (4, .int (nI q))] → W p l e rm_X0_addUpSets s m args below meth c H locs 0 0 Q (F0 m 21 ls []) := by
          intro fu
          induction fu with
          | zero => intro q F2 hq hfr2 hn_; exact absurd hn_ (Nat.not_lt_zero _)
          | succ fu ih21 =>
            intro q F2 hq hfr2 hn_ H locs ls hP hD hS hl
            have hN_9 : ∀ i, i < n → F2 16 i = nI (Pw i) := by rw [hfr2 16 (by decide)]; exact hPw
            have hN_10 : ∀ i, i < n → F2 15 i = nI (Ow i) := by rw [hfr2 15 (by decide)]; exact hOw
            refine lv_iload hx hb dX0_addUpSets_21 (lv_at hl 4 rfl) ?_
            refine lv_iload_n hx hb dX0_addUpSets_23 rfl (lv_at hl 3 rfl) ?_
            refine lv_icmp_ge (tgt := 61) hx hb dX0_addUpSets_24 (by decide) (fun c_11 => ?_) (fun c_11 => ?_)
            · have c_11 : (2 ^ t) ≤ q := (nI_leI (a := 2 ^ t) (b := q) (by omega) (by omega)).mp c_11
              refine lv_iinc (v := nI (t + 1)) (lv' := [(2, .int (nI (t + 1))), (0, .ref (h 2)), (1, .int (nI f0)), (3, .int (nI (2 ^ t))), (4, .int (nI q))]) hx hb dX0_addUpSets_61 hl (k := 2) rfl (nI_1 _) (by decide) rfl (fun ls hl => ?_)
              refine lv_goto (tgt := 9) hx hb dX0_addUpSets_64 (by decide) ?_
              exact ih9 (t + 1) F2 (by omega) (fun j hj => (hfr2 j hj)) (by omega) H locs ls hP hD hS (lv_sub hl [1, 2, 0] rfl)
            · have c_11 : ¬ (2 ^ t) ≤ q := fun h => c_11 ((nI_leI (a := 2 ^ t) (b := q) (by omega) (by omega)).mpr h)
              refine lv_aload_n hx hb dX0_addUpSets_27 rfl (lv_at hl 0 rfl) ?_
              refine va_get (D := (dC, dI)) (ci := 0) (v := .ref (h 21)) (C := RX0) (T := TX0) (N := 11) hx hb hts hin_X0 hown hK hP 2 rfl rfl 9 (by decide) hw0 (fun _ h9 => h9) rfl dX0_addUpSets_28 ?_
              refine lv_iload hx hb dX0_addUpSets_31 (lv_at hl 4 rfl) ?_
              refine lv_iload_n hx hb dX0_addUpSets_33 rfl (lv_at hl 3 rfl) ?_
              refine lv_ior hx hb dX0_addUpSets_34 ?_
              refine lv_topi (fun x_12 ex_12 => ?_)
              obtain rfl : x_12 = nI (q + (2 ^ t)) := ex_12.trans (or_add (by omega))
              refine lv_aload_n hx hb dX0_addUpSets_35 rfl (lv_at hl 0 rfl) ?_
              refine va_get (D := (dC, dI)) (ci := 0) (v := .ref (h 21)) (C := RX0) (T := TX0) (N := 11) hx hb hts hin_X0 hown hK hP 2 rfl rfl 9 (by decide) hw0 (fun _ h9 => h9) rfl dX0_addUpSets_36 ?_
              refine lv_iload hx hb dX0_addUpSets_39 (lv_at hl 4 rfl) ?_
              refine va_iald hx hb hK hP 21 0 rfl rfl (vp_in_nI (n := q) (N := 128) (by omega) (by decide)) dX0_addUpSets_41 ?_
              refine lv_topi (fun x_13 ex_13 => ?_)
              rw [nI_clamp (n := q) (by omega)] at ex_13
              refine lv_aload_n hx hb dX0_addUpSets_42 rfl (lv_at hl 0 rfl) ?_
              refine va_get (D := (dC, dI)) (ci := 0) (v := .ref (h 16)) (C := RX0) (T := TX0) (N := 11) hx hb hts hin_X0 hown hK hP 2 rfl rfl 3 (by decide) hw2 (fun _ h9 => h9) rfl dX0_addUpSets_43 ?_
              refine lv_aload_n hx hb dX0_addUpSets_46 rfl (lv_at hl 0 rfl) ?_
              refine va_get (D := (dC, dI)) (ci := 0) (v := .ref (h 15)) (C := RX0) (T := TX0) (N := 11) hx hb hts hin_X0 hown hK hP 2 rfl rfl 2 (by decide) hw3 (fun _ h9 => h9) rfl dX0_addUpSets_47 ?_
              refine lv_iload_n hx hb dX0_addUpSets_50 rfl (lv_at hl 2 rfl) ?_
              refine va_iald hx hb hK hP 15 0 rfl rfl (vp_in_nI (n := t) (N := 40) (by omega) (by decide)) dX0_addUpSets_51 ?_
              have hb_14 := bOw t (by omega)
              refine lv_topi (fun x_15 ex_15 => ?_)
              obtain rfl : x_15 = nI (Ow t) := ex_15.trans ((congrArg (F2 15) (nI_clamp (n := t) (by omega))).trans (hN_10 t (by omega)))
              refine va_iald hx hb hK hP 16 0 rfl rfl (vp_in_nI (n := Ow t) (N := 40) (by omega) (by decide)) dX0_addUpSets_52 ?_
              have hb_16 := bPw (Ow t) (by omega)
              refine lv_topi (fun x_17 ex_17 => ?_)
              obtain rfl : x_17 = nI (Pw (Ow t)) := ex_17.trans ((congrArg (F2 16) (nI_clamp (n := Ow t) (by omega))).trans (hN_9 (Ow t) (by omega)))
              refine lv_iadd hx hb dX0_addUpSets_53 ?_
              refine va_iast hx hb hK hP hD hS 21 0 rfl rfl (vp_in_nI (n := q + (2 ^ t)) (N := 128) (by omega) (by decide)) dX0_addUpSets_54 (fun H locs hP hD hS => ?_)
              obtain ⟨F_18, eF_18⟩ : ∃ z : Nat → Nat → Int32, z = va_up F2 21 (upd (F2 21) (nI (q + (2 ^ t))).toNatClampNeg (x_13 + (nI (Pw (Ow t))))) := ⟨_, rfl⟩
              have hP : va_P (dC, dI) vwCl (wC cI cZ h F_18 V) H := by rw [eF_18]; exact hP
              have hD : va_D A (wC cI cZ h F_18 V) := by rw [eF_18]; exact hD
              have hN_19 : ∀ i, i < n → F_18 16 i = nI (Pw i) := by rw [eF_18]; exact hN_9
              have hN_20 : ∀ i, i < n → F_18 15 i = nI (Ow i) := by rw [eF_18]; exact hN_10
              refine lv_iinc (v := nI (q + 1)) (lv' := [(4, .int (nI (q + 1))), (0, .ref (h 2)), (1, .int (nI f0)), (2, .int (nI t)), (3, .int (nI (2 ^ t)))]) hx hb dX0_addUpSets_55 hl (k := 4) rfl (nI_1 _) (by decide) rfl (fun ls hl => ?_)
              refine lv_goto (tgt := 21) hx hb dX0_addUpSets_58 (by decide) ?_
              exact ih21 (q + 1) F_18 (by omega) (fun j hj => ((va_ne eF_18 (fun h => hj (by rw [h]; decide))).trans (hfr2 j hj))) (by omega) H locs ls hP hD hS (lv_sub hl [1, 2, 3, 4, 0] rfl)
        exact loop21 _ 0 F1 (Nat.zero_le _) (fun j hj => (hfr j hj)) (Nat.lt_succ_self _) H locs ls hP hD hS (lv_sub hl [2, 3, 4, 1, 0] rfl)
  exact loop9 _ 0 F_1 (by omega) (fun j hj => (va_ne eF_1 (fun h => hj (by rw [h]; decide)))) (Nat.lt_succ_self _) H locs ls hP hD hS (lv_sub hl [1, 2, 0] rfl)
def rm_X0_widen : Room := { frames := 0, cells := 0, slots := 0, locals := 0 }
set_option maxHeartbeats 4000000 in
set_option maxRecDepth 100000 in
theorem c_X0_widen (l : Launch) (dC : Nat → ClassId) (dI : Nat → Nat → Nat) (cI cZ cJ : ClassId) (h : Nat → Nat) (F : Nat → Nat → Int32) (V : Nat → Int32)  (s0 : Nat) (p1 : Int32) (hs0 : 1 ≤ s0) (hs1 : s0 ≤ 128)   : CtV l (dC, dI) vwCl (tys3 cI cZ cJ) yX0_widen wsX0_widen rm_X0_widen [.ref (h 2), .int (nI s0), .int p1] (wC cI cZ h F V) (S := Nat → Nat → Int32) (fun u => (∀ j, j ∉ ([22] : List Nat) → u j = F j) ∧ (True)) (fun u => wC cI cZ h u V) 0 0 := by
  refine ct_V (cc := cX0_widen) (maxL := 5) (own := RX0) (by decide) rfl rfl (Nat.le_of_ble_eq_true rfl) (lv := [(0, .ref (h 2)), (1, .int (nI s0)), (2, .int p1)]) rfl ?_
  intro p e s m args below meth c A Q ls hnm fx hK hP hD hA hl hret
  obtain ⟨hx, hb, hml, hown, hts⟩ := id fx
  have hS : va_S A s.heap s.heap [] := va_S.rf
  have hw0 := hts (.fieldLink RX0 46 "MirrorTower$Face" "fits" "[Z") (by decide +kernel)
  have hin_X0 : ∀ w ∈ u_ws RX0 TX0 11, w ∈ wsX0_widen := by decide +kernel
  have hw2 := hts (.fieldLink RX0 43 "MirrorTower$Face" "setPowers" "[I") (by decide +kernel)
  obtain ⟨H, hH⟩ : ∃ H, H = s.heap := ⟨_, rfl⟩
  rw [← hH] at hP ⊢
  have hS : va_S A s.heap H [] := by rw [hH]; exact hS
  generalize ([] : List Loc) = locs at hS ⊢
  refine lv_iload_n hx hb dX0_widen_0 rfl (lv_at hl 1 rfl) ?_
  refine lv_iconst (v := 1) hx hb dX0_widen_1 (by decide) ?_
  refine lv_isub hx hb dX0_widen_2 ?_
  refine lv_topi (fun x_1 ex_1 => ?_)
  obtain rfl : x_1 = nI (s0 - 1) := ex_1.trans (pk_sub (a := s0) (b := 1) (by omega))
  refine lv_istore_n (lv' := [(3, .int (nI (s0 - 1))), (0, .ref (h 2)), (1, .int (nI s0)), (2, .int p1)]) hx hb dX0_widen_3 rfl hl (by decide) rfl (fun ls hl => ?_)
  have loop4 : ∀ (fu : Nat) (zz : Nat) (F1 : Nat → Nat → Int32), (zz < 128) → (∀ j, j ∉ ([22] : List Nat) → F1 j = F j) → (zz) < fu → ∀ (H : Heap) (locs : List Loc) (ls : Array Slot), va_P (dC, dI) vwCl (wC cI cZ h F1 V) H → va_D A (wC cI cZ h F1 V) → va_S A s.heap H locs → lv_has ls 5 [(0, .ref (h 2)), (1, .int (nI s0)), (2, .int p1), (3, .int (nI zz))] → W p l e rm_X0_widen s m args below meth c H locs 0 0 Q (F0 m 4 ls []) := by
    intro fu
    induction fu with
    | zero => intro zz F1 hz hfr hn_; exact absurd hn_ (Nat.not_lt_zero _)
    | succ fu ih4 =>
      intro zz F1 hz hfr hn_ H locs ls hP hD hS hl
      refine lv_iload_n hx hb dX0_widen_4 rfl (lv_at hl 3 rfl) ?_
      refine lv_if_le (tgt := 76) hx hb dX0_widen_5 (by decide) (fun c_2 => ?_) (fun c_2 => ?_)
      · have c_2 : zz ≤ 0 := (nI_leI (a := zz) (b := 0) (by omega) (by omega)).mp c_2
        exact hret F1 H locs 76 ls dX0_widen_76 (⟨hfr, trivial⟩) (hP) (hD) hS
      · have c_2 : ¬ zz ≤ 0 := fun h => c_2 ((nI_leI (a := zz) (b := 0) (by omega) (by omega)).mpr h)
        refine lv_iload_n hx hb dX0_widen_8 rfl (lv_at hl 3 rfl) ?_
        refine lv_istore (lv' := [(4, .int (nI zz)), (0, .ref (h 2)), (1, .int (nI s0)), (2, .int p1), (3, .int (nI zz))]) hx hb dX0_widen_9 hl (by decide) rfl (fun ls hl => ?_)
        have loop11 : ∀ (fu : Nat) (q : Nat) (F2 : Nat → Nat → Int32), (q < 128) → (∀ j, j ∉ ([22] : List Nat) → F2 j = F j) → (q) < fu → ∀ (H : Heap) (locs : List Loc) (ls : Array Slot), va_P (dC, dI) vwCl (wC cI cZ h F2 V) H → va_D A (wC cI cZ h F2 V) → va_S A s.heap H locs → lv_has ls 5 [(0, .ref (h 2)), (1, .int (nI s0)), (2, .int p1), (3, .int (nI zz)), (4, .int (nI q))] → W p l e rm_X0_widen s m args below meth c H locs 0 0 Q (F0 m 11 ls []) := by
          intro fu
          induction fu with
          | zero => intro q F2 hq hfr2 hn_; exact absurd hn_ (Nat.not_lt_zero _)
          | succ fu ih11 =>
            intro q F2 hq hfr2 hn_ H locs ls hP hD hS hl
            refine lv_iload hx hb dX0_widen_11 (lv_at hl 4 rfl) ?_
            refine lv_if_le (tgt := 70) hx hb dX0_widen_13 (by decide) (fun c_3 => ?_) (fun c_3 => ?_)
            · have c_3 : q ≤ 0 := (nI_leI (a := q) (b := 0) (by omega) (by omega)).mp c_3
              refine lv_iinc (v := nI (zz - 1)) (lv' := [(3, .int (nI (zz - 1))), (0, .ref (h 2)), (1, .int (nI s0)), (2, .int p1), (4, .int (nI q))]) hx hb dX0_widen_70 hl (k := 3) rfl (dec_nI (by omega)) (by decide) rfl (fun ls hl => ?_)
              refine lv_goto (tgt := 4) hx hb dX0_widen_73 (by decide) ?_
              exact ih4 (zz - 1) F2 (by omega) (fun j hj => (hfr2 j hj)) (by omega) H locs ls hP hD hS (lv_sub hl [1, 2, 3, 0] rfl)
            · have c_3 : ¬ q ≤ 0 := fun h => c_3 ((nI_leI (a := q) (b := 0) (by omega) (by omega)).mpr h)
              refine lv_aload_n hx hb dX0_widen_16 rfl (lv_at hl 0 rfl) ?_
              refine va_get (D := (dC, dI)) (ci := 0) (v := .ref (h 22)) (C := RX0) (T := TX0) (N := 11) hx hb hts hin_X0 hown hK hP 2 rfl rfl 10 (by decide) hw0 (fun _ h9 => h9) rfl dX0_widen_17 ?_
              refine lv_iload_n hx hb dX0_widen_20 rfl (lv_at hl 3 rfl) ?_
              refine va_zald hx hb hK hP 22 1 rfl rfl (vp_in_nI (n := zz) (N := 128) (by omega) (by decide)) dX0_widen_21 ?_
              refine lv_topi (fun x_4 ex_4 => ?_)
              rw [nI_clamp (n := zz) (by omega)] at ex_4
              refine lv_if_ne (tgt := 70) hx hb dX0_widen_22 (by decide) (fun c_5 => ?_) (fun c_5 => ?_)
              · have c_5 : eqI x_4 0 = false := decide_eq_false c_5
                refine lv_iinc (v := nI (zz - 1)) (lv' := [(3, .int (nI (zz - 1))), (0, .ref (h 2)), (1, .int (nI s0)), (2, .int p1), (4, .int (nI q))]) hx hb dX0_widen_70 hl (k := 3) rfl (dec_nI (by omega)) (by decide) rfl (fun ls hl => ?_)
                refine lv_goto (tgt := 4) hx hb dX0_widen_73 (by decide) ?_
                exact ih4 (zz - 1) F2 (by omega) (fun j hj => (hfr2 j hj)) (by omega) H locs ls hP hD hS (lv_sub hl [1, 2, 3, 0] rfl)
              · have c_5 : eqI x_4 0 = true := decide_eq_true c_5
                refine lv_aload_n hx hb dX0_widen_25 rfl (lv_at hl 0 rfl) ?_
                refine va_get (D := (dC, dI)) (ci := 0) (v := .ref (h 22)) (C := RX0) (T := TX0) (N := 11) hx hb hts hin_X0 hown hK hP 2 rfl rfl 10 (by decide) hw0 (fun _ h9 => h9) rfl dX0_widen_26 ?_
                refine lv_iload_n hx hb dX0_widen_29 rfl (lv_at hl 3 rfl) ?_
                refine lv_aload_n hx hb dX0_widen_30 rfl (lv_at hl 0 rfl) ?_
                refine va_get (D := (dC, dI)) (ci := 0) (v := .ref (h 21)) (C := RX0) (T := TX0) (N := 11) hx hb hts hin_X0 hown hK hP 2 rfl rfl 9 (by decide) hw2 (fun _ h9 => h9) rfl dX0_widen_31 ?_
                refine lv_iload hx hb dX0_widen_34 (lv_at hl 4 rfl) ?_
                refine va_iald hx hb hK hP 21 0 rfl rfl (vp_in_nI (n := q) (N := 128) (by omega) (by decide)) dX0_widen_36 ?_
                refine lv_topi (fun x_6 ex_6 => ?_)
                rw [nI_clamp (n := q) (by omega)] at ex_6
                refine lv_iload_n hx hb dX0_widen_37 rfl (lv_at hl 2 rfl) ?_
                refine lv_icmp_gt (tgt := 57) hx hb dX0_widen_38 (by decide) (fun c_7 => ?_) (fun c_7 => ?_)
                · have c_7 : ltI p1 x_6 = true := decide_eq_true c_7
                  refine lv_iconst (v := 0) hx hb dX0_widen_57 (by decide) ?_
                  refine va_zast hx hb hK hP hD hS 22 1 rfl rfl (vp_in_nI (n := zz) (N := 128) (by omega) (by decide)) dX0_widen_58 (fun H locs hP hD hS => ?_)
                  obtain ⟨F_8, eF_8⟩ : ∃ z : Nat → Nat → Int32, z = va_up F2 22 (upd (F2 22) (nI zz).toNatClampNeg (vp_nar .boolean 0)) := ⟨_, rfl⟩
                  have hP : va_P (dC, dI) vwCl (wC cI cZ h F_8 V) H := by rw [eF_8]; exact hP
                  have hD : va_D A (wC cI cZ h F_8 V) := by rw [eF_8]; exact hD
                  have hE_9 : F_8 22 zz = 0 := by rw [eF_8]; show upd _ (nI zz).toNatClampNeg _ _ = _; rw [nI_clamp (by omega)]; exact pk_us.trans (by decide)
                  refine lv_iload hx hb dX0_widen_59 (lv_at hl 4 rfl) ?_
                  refine lv_iconst (v := 1) hx hb dX0_widen_61 (by decide) ?_
                  refine lv_isub hx hb dX0_widen_62 ?_
                  refine lv_topi (fun x_10 ex_10 => ?_)
                  obtain rfl : x_10 = nI (q - 1) := ex_10.trans (pk_sub (a := q) (b := 1) (by omega))
                  refine lv_iload_n hx hb dX0_widen_63 rfl (lv_at hl 3 rfl) ?_
                  refine lv_iand hx hb dX0_widen_64 ?_
                  refine lv_topi (fun x_11 ex_11 => ?_)
                  obtain rfl : x_11 = nI ((q - 1) &&& zz) := ex_11.trans (nI_and (q - 1) zz)
                  have hb_12 : (q - 1) &&& zz ≤ (q - 1) := Nat.and_le_left
                  refine lv_istore (lv' := [(4, .int (nI ((q - 1) &&& zz))), (0, .ref (h 2)), (1, .int (nI s0)), (2, .int p1), (3, .int (nI zz))]) hx hb dX0_widen_65 hl (by decide) rfl (fun ls hl => ?_)
                  refine lv_goto (tgt := 11) hx hb dX0_widen_67 (by decide) ?_
                  exact ih11 ((q - 1) &&& zz) F_8 (by omega) (fun j hj => ((va_ne eF_8 (fun h => hj (by rw [h]; decide))).trans (hfr2 j hj))) (by omega) H locs ls hP hD hS (lv_sub hl [1, 2, 3, 4, 0] rfl)
                · have c_7 : ltI p1 x_6 = false := decide_eq_false c_7
                  refine lv_aload_n hx hb dX0_widen_41 rfl (lv_at hl 0 rfl) ?_
                  refine va_get (D := (dC, dI)) (ci := 0) (v := .ref (h 22)) (C := RX0) (T := TX0) (N := 11) hx hb hts hin_X0 hown hK hP 2 rfl rfl 10 (by decide) hw0 (fun _ h9 => h9) rfl dX0_widen_42 ?_
                  refine lv_iload_n hx hb dX0_widen_45 rfl (lv_at hl 3 rfl) ?_
                  refine lv_iload hx hb dX0_widen_46 (lv_at hl 4 rfl) ?_
                  refine lv_ixor hx hb dX0_widen_48 ?_
                  refine lv_topi (fun x_13 ex_13 => ?_)
                  obtain rfl : x_13 = nI (zz ^^^ q) := ex_13.trans (nI_xor zz q)
                  have hb_14 : zz ^^^ q < 128 := Nat.xor_lt_two_pow (n := 7) (by omega) (by omega)
                  refine va_zald hx hb hK hP 22 1 rfl rfl (vp_in_nI (n := zz ^^^ q) (N := 128) (by omega) (by decide)) dX0_widen_49 ?_
                  refine lv_topi (fun x_15 ex_15 => ?_)
                  rw [nI_clamp (n := zz ^^^ q) (by omega)] at ex_15
                  refine lv_if_eq (tgt := 57) hx hb dX0_widen_50 (by decide) (fun c_16 => ?_) (fun c_16 => ?_)
                  · have c_16 : eqI x_15 0 = true := decide_eq_true c_16
                    refine lv_iconst (v := 0) hx hb dX0_widen_57 (by decide) ?_
                    refine va_zast hx hb hK hP hD hS 22 1 rfl rfl (vp_in_nI (n := zz) (N := 128) (by omega) (by decide)) dX0_widen_58 (fun H locs hP hD hS => ?_)
                    obtain ⟨F_17, eF_17⟩ : ∃ z : Nat → Nat → Int32, z = va_up F2 22 (upd (F2 22) (nI zz).toNatClampNeg (vp_nar .boolean 0)) := ⟨_, rfl⟩
                    have hP : va_P (dC, dI) vwCl (wC cI cZ h F_17 V) H := by rw [eF_17]; exact hP
                    have hD : va_D A (wC cI cZ h F_17 V) := by rw [eF_17]; exact hD
                    have hE_18 : F_17 22 zz = 0 := by rw [eF_17]; show upd _ (nI zz).toNatClampNeg _ _ = _; rw [nI_clamp (by omega)]; exact pk_us.trans (by decide)
                    refine lv_iload hx hb dX0_widen_59 (lv_at hl 4 rfl) ?_
                    refine lv_iconst (v := 1) hx hb dX0_widen_61 (by decide) ?_
                    refine lv_isub hx hb dX0_widen_62 ?_
                    refine lv_topi (fun x_19 ex_19 => ?_)
                    obtain rfl : x_19 = nI (q - 1) := ex_19.trans (pk_sub (a := q) (b := 1) (by omega))
                    refine lv_iload_n hx hb dX0_widen_63 rfl (lv_at hl 3 rfl) ?_
                    refine lv_iand hx hb dX0_widen_64 ?_
                    refine lv_topi (fun x_20 ex_20 => ?_)
                    obtain rfl : x_20 = nI ((q - 1) &&& zz) := ex_20.trans (nI_and (q - 1) zz)
                    have hb_21 : (q - 1) &&& zz ≤ (q - 1) := Nat.and_le_left
                    refine lv_istore (lv' := [(4, .int (nI ((q - 1) &&& zz))), (0, .ref (h 2)), (1, .int (nI s0)), (2, .int p1), (3, .int (nI zz))]) hx hb dX0_widen_65 hl (by decide) rfl (fun ls hl => ?_)
                    refine lv_goto (tgt := 11) hx hb dX0_widen_67 (by decide) ?_
                    exact ih11 ((q - 1) &&& zz) F_17 (by omega) (fun j hj => ((va_ne eF_17 (fun h => hj (by rw [h]; decide))).trans (hfr2 j hj))) (by omega) H locs ls hP hD hS (lv_sub hl [1, 2, 3, 4, 0] rfl)
                  · have c_16 : eqI x_15 0 = false := decide_eq_false c_16
                    refine lv_iconst (v := 1) hx hb dX0_widen_53 (by decide) ?_
                    refine lv_goto (tgt := 58) hx hb dX0_widen_54 (by decide) ?_
                    refine va_zast hx hb hK hP hD hS 22 1 rfl rfl (vp_in_nI (n := zz) (N := 128) (by omega) (by decide)) dX0_widen_58 (fun H locs hP hD hS => ?_)
                    obtain ⟨F_22, eF_22⟩ : ∃ z : Nat → Nat → Int32, z = va_up F2 22 (upd (F2 22) (nI zz).toNatClampNeg (vp_nar .boolean 1)) := ⟨_, rfl⟩
                    have hP : va_P (dC, dI) vwCl (wC cI cZ h F_22 V) H := by rw [eF_22]; exact hP
                    have hD : va_D A (wC cI cZ h F_22 V) := by rw [eF_22]; exact hD
                    have hE_23 : F_22 22 zz = 1 := by rw [eF_22]; show upd _ (nI zz).toNatClampNeg _ _ = _; rw [nI_clamp (by omega)]; exact pk_us.trans (by decide)
                    refine lv_iload hx hb dX0_widen_59 (lv_at hl 4 rfl) ?_
                    refine lv_iconst (v := 1) hx hb dX0_widen_61 (by decide) ?_
                    refine lv_isub hx hb dX0_widen_62 ?_
                    refine lv_topi (fun x_24 ex_24 => ?_)
                    obtain rfl : x_24 = nI (q - 1) := ex_24.trans (pk_sub (a := q) (b := 1) (by omega))
                    refine lv_iload_n hx hb dX0_widen_63 rfl (lv_at hl 3 rfl) ?_
                    refine lv_iand hx hb dX0_widen_64 ?_
                    refine lv_topi (fun x_25 ex_25 => ?_)
                    obtain rfl : x_25 = nI ((q - 1) &&& zz) := ex_25.trans (nI_and (q - 1) zz)
                    have hb_26 : (q - 1) &&& zz ≤ (q - 1) := Nat.and_le_left
                    refine lv_istore (lv' := [(4, .int (nI ((q - 1) &&& zz))), (0, .ref (h 2)), (1, .int (nI s0)), (2, .int p1), (3, .int (nI zz))]) hx hb dX0_widen_65 hl (by decide) rfl (fun ls hl => ?_)
                    refine lv_goto (tgt := 11) hx hb dX0_widen_67 (by decide) ?_
                    exact ih11 ((q - 1) &&& zz) F_22 (by omega) (fun j hj => ((va_ne eF_22 (fun h => hj (by rw [h]; decide))).trans (hfr2 j hj))) (by omega) H locs ls hP hD hS (lv_sub hl [1, 2, 3, 4, 0] rfl)
        exact loop11 _ zz F1 (by omega) hfr (Nat.lt_succ_self _) H locs ls hP hD hS (lv_sub hl [1, 2, 3, 4, 0] rfl)
  exact loop4 _ (s0 - 1) F (by omega) (fun _ _ => rfl) (Nat.lt_succ_self _) H locs ls hP hD hS (lv_sub hl [1, 2, 3, 0] rfl)
