def rm_X0_addUpSets : Room := { frames := 0, cells := 0, slots := 0, locals := 0 }
set_option maxHeartbeats 4000000 in
set_option maxRecDepth 100000 in
theorem c_X0_addUpSets (l : Launch) (dC : Nat → ClassId) (dI : Nat → Nat → Nat) (cI cZ cJ : ClassId) (h : Nat → Nat) (F : Nat → Nat → Int32) (V : Nat → Int32) (n : Nat) (hV1 : V 1 = nI n) (bV1 : n ≤ 40) (Pw : Nat → Nat) (hPw : ∀ i, i < n → F 16 i = nI (Pw i)) (bPw : ∀ i, i < n → Pw i ≤ 100) (Ow : Nat → Nat) (hOw : ∀ i, i < n → F 15 i = nI (Ow i)) (bOw : ∀ i, i < n → Ow i ≤ n - 1) (f0 : Nat) (hf0 : f0 ≤ 7) (hf1 : f0 ≤ n)   : CtV l (dC, dI) vwCl (tys3 cI cZ cJ) yX0_addUpSets wsX0_addUpSets rm_X0_addUpSets [.ref (h 2), .int (nI f0)] (wC cI cZ h F V) (S := Nat → Nat → Int32) (fun u => (∀ j, j ∉ ([21] : List Nat) → u j = F j) ∧ (True)) (fun u => wC cI cZ h u V) 0 0 := by
  refine ct_V (cc := cX0_addUpSets) (maxL := 5) (own := RX0) (by decide) rfl rfl (Nat.le_of_ble_eq_true rfl) (lv := [(0, .ref (h 2)), (1, .int (nI f0))]) rfl ?_
  intro p e s m args below meth c A Q ls hnm fx hK hP hD hA hl hret
  obtain ⟨hx, hb, hml, hown, hts⟩ := id fx
  have hS : va_S A s.heap s.heap [] := va_S.rf
  have hw0 := hts (.fieldLink RX0 43 "MirrorTower$Face" "setPowers" "[I") (by decide +kernel)
  have hin_X0 : ∀ w ∈ u_ws RX0 TX0 11, w ∈ wsX0_addUpSets := by decide +kernel
  have hw2 := hts (.fieldLink RX0 28 "MirrorTower$Face" "powers" "[I") (by decide +kernel)
  have hw3 := hts (.fieldLink RX0 25 "MirrorTower$Face" "order" "[I") (by decide +kernel)
  obtain ⟨H, hH⟩ : ∃ H, H = s.heap := ⟨_, rfl⟩
  rw [← hH] at hP ⊢
  have hS : va_S A s.heap H [] := by rw [hH]; exact hS
  generalize ([] : List Loc) = locs at hS ⊢
  refine lv_aload_n hx hb dX0_addUpSets_0 rfl (lv_at hl 0 rfl) ?_
  refine va_get (D := (dC, dI)) (ci := 0) (v := .ref (h 21)) (C := RX0) (T := TX0) (N := 11) hx hb hts hin_X0 hown hK hP 2 rfl rfl 9 (by decide) hw0 (fun _ h9 => h9) rfl dX0_addUpSets_1 ?_
  refine lv_iconst (v := 0) hx hb dX0_addUpSets_4 (by decide) ?_
  refine lv_iconst (v := 0) hx hb dX0_addUpSets_5 (by decide) ?_
  refine va_iast hx hb hK hP hD hS 21 0 rfl rfl (vp_in_nI (n := 0) (N := 128) (by decide) (by decide)) dX0_addUpSets_6 (fun H locs hP hD hS => ?_)
  obtain ⟨F_1, eF_1⟩ : ∃ z : Nat → Nat → Int32, z = va_up F 21 (upd (F 21) (0 : Int32).toNatClampNeg 0) := ⟨_, rfl⟩
  have hP : va_P (dC, dI) vwCl (wC cI cZ h F_1 V) H := by rw [eF_1]; exact hP
  have hD : va_D A (wC cI cZ h F_1 V) := by rw [eF_1]; exact hD
  have hN_2 : ∀ i, i < n → F_1 16 i = nI (Pw i) := by rw [eF_1]; exact hPw
  have hN_3 : ∀ i, i < n → F_1 15 i = nI (Ow i) := by rw [eF_1]; exact hOw
  have hE_4 : F_1 21 0 = 0 := by rw [eF_1]; rfl
  refine lv_iconst (v := 0) hx hb dX0_addUpSets_7 (by decide) ?_
  refine lv_istore_n (lv' := [(2, .int 0), (0, .ref (h 2)), (1, .int (nI f0))]) hx hb dX0_addUpSets_8 rfl hl (by decide) rfl (fun ls hl => ?_)
  have loop9 : ∀ (fu : Nat) (t : Nat) (F1 : Nat → Nat → Int32), (t ≤ f0) → (∀ j, j ∉ ([21] : List Nat) → F1 j = F j) → (f0 - t) < fu → ∀ (H : Heap) (locs : List Loc) (ls : Array Slot), va_P (dC, dI) vwCl (wC cI cZ h F1 V) H → va_D A (wC cI cZ h F1 V) → va_S A s.heap H locs → lv_has ls 5 [(0, .ref (h 2)), (1, .int (nI f0)), (2, .int (nI t))] → W p l e rm_X0_addUpSets s m args below meth c H locs 0 0 Q (F0 m 9 ls []) := by
    intro fu
    induction fu with
    | zero => intro t F1 ht hfr hn_; exact absurd hn_ (Nat.not_lt_zero _)
    | succ fu ih9 =>
      intro t F1 ht hfr hn_ H locs ls hP hD hS hl
      have hN_5 : ∀ i, i < n → F1 16 i = nI (Pw i) := by rw [hfr 16 (by decide)]; exact hPw
      have hN_6 : ∀ i, i < n → F1 15 i = nI (Ow i) := by rw [hfr 15 (by decide)]; exact hOw
      refine lv_iload_n hx hb dX0_addUpSets_9 rfl (lv_at hl 2 rfl) ?_
      refine lv_iload_n hx hb dX0_addUpSets_10 rfl (lv_at hl 1 rfl) ?_
      refine lv_icmp_ge (tgt := 67) hx hb dX0_addUpSets_11 (by decide) (fun c_7 => ?_) (fun c_7 => ?_)
      · have c_7 : f0 ≤ t := (nI_leI (a := f0) (b := t) (by omega) (by omega)).mp c_7
        exact hret F1 H locs 67 ls dX0_addUpSets_67 (⟨hfr, trivial⟩) (hP) (hD) hS
      · have c_7 : ¬ f0 ≤ t := fun h => c_7 ((nI_leI (a := f0) (b := t) (by omega) (by omega)).mpr h)
        refine lv_iconst (v := 1) hx hb dX0_addUpSets_14 (by decide) ?_
        refine lv_iload_n hx hb dX0_addUpSets_15 rfl (lv_at hl 2 rfl) ?_
        have hp2 : 2 ^ t ≤ 2 ^ 6 := Nat.pow_le_pow_right (by omega) (by omega)
        refine lv_ishl hx hb dX0_addUpSets_16 ?_
        refine lv_topi (fun x_8 ex_8 => ?_)
        obtain rfl : x_8 = nI (2 ^ t) := ex_8.trans (shl1 (by omega))
        refine lv_istore_n (lv' := [(3, .int (nI (2 ^ t))), (0, .ref (h 2)), (1, .int (nI f0)), (2, .int (nI t))]) hx hb dX0_addUpSets_17 rfl hl (by decide) rfl (fun ls hl => ?_)
        refine lv_iconst (v := 0) hx hb dX0_addUpSets_18 (by decide) ?_
        refine lv_istore (lv' := [(4, .int 0), (3, .int (nI (2 ^ t))), (0, .ref (h 2)), (1, .int (nI f0)), (2, .int (nI t))]) hx hb dX0_addUpSets_19 hl (by decide) rfl (fun ls hl => ?_)
        have loop21 : ∀ (fu : Nat) (q : Nat) (F2 : Nat → Nat → Int32), (q ≤ 2 ^ t) → (∀ j, j ∉ ([21] : List Nat) → F2 j = F j) → (2 ^ t - q) < fu → ∀ (H : Heap) (locs : List Loc) (ls : Array Slot), va_P (dC, dI) vwCl (wC cI cZ h F2 V) H → va_D A (wC cI cZ h F2 V) → va_S A s.heap H locs → lv_has ls 5 [(0, .ref (h 2)), (1, .int (nI f0)), (2, .int (nI t)), (3, .int (nI (2 ^ t))), (4, .int (nI q))] → W p l e rm_X0_addUpSets s m args below meth c H locs 0 0 Q (F0 m 21 ls []) := by
          intro fu
          induction fu with
          | zero => intro q F2 hq hfr2 hn_; exact absurd hn_ (Nat.not_lt_zero _)
          | succ fu ih21 =>
            intro q F2 hq hfr2 hn_ H locs ls hP hD hS hl
            have hN_9 : ∀ i, i < n → F2 16 i = nI (Pw i) := by rw [hfr2 16 (by decide)]; exact hPw
            have hN_10 : ∀ i, i < n → F2 15 i = nI (Ow i) := by rw [hfr2 15 (by decide)]; exact hOw
            refine lv_iload hx hb dX0_addUpSets_21 (lv_at hl 4 rfl) ?_
            refine lv_iload_n hx hb dX0_addUpSets_23 rfl (lv_at hl 3 rfl) ?_
            refine lv_icmp_ge (tgt := 61) hx hb dX0_addUpSets_24 (by decide) (fun c_11 => ?_) (fun c_11 => ?_)
            · have c_11 : (2 ^ t) ≤ q := (nI_leI (a := 2 ^ t) (b := q) (by omega) (by omega)).mp c_11
              refine lv_iinc (v := nI (t + 1)) (lv' := [(2, .int (nI (t + 1))), (0, .ref (h 2)), (1, .int (nI f0)), (3, .int (nI (2 ^ t))), (4, .int (nI q))]) hx hb dX0_addUpSets_61 hl (k := 2) rfl (nI_1 _) (by decide) rfl (fun ls hl => ?_)
              refine lv_goto (tgt := 9) hx hb dX0_addUpSets_64 (by decide) ?_
              exact ih9 (t + 1) F2 (by omega) (fun j hj => (hfr2 j hj)) (by omega) H locs ls hP hD hS (lv_sub hl [1, 2, 0] rfl)
            · have c_11 : ¬ (2 ^ t) ≤ q := fun h => c_11 ((nI_leI (a := 2 ^ t) (b := q) (by omega) (by omega)).mpr h)
              refine lv_aload_n hx hb dX0_addUpSets_27 rfl (lv_at hl 0 rfl) ?_
              refine va_get (D := (dC, dI)) (ci := 0) (v := .ref (h 21)) (C := RX0) (T := TX0) (N := 11) hx hb hts hin_X0 hown hK hP 2 rfl rfl 9 (by decide) hw0 (fun _ h9 => h9) rfl dX0_addUpSets_28 ?_
              refine lv_iload hx hb dX0_addUpSets_31 (lv_at hl 4 rfl) ?_
              refine lv_iload_n hx hb dX0_addUpSets_33 rfl (lv_at hl 3 rfl) ?_
              refine lv_ior hx hb dX0_addUpSets_34 ?_
              refine lv_topi (fun x_12 ex_12 => ?_)
              obtain rfl : x_12 = nI (q + (2 ^ t)) := ex_12.trans (or_add (by omega))
              refine lv_aload_n hx hb dX0_addUpSets_35 rfl (lv_at hl 0 rfl) ?_
              refine va_get (D := (dC, dI)) (ci := 0) (v := .ref (h 21)) (C := RX0) (T := TX0) (N := 11) hx hb hts hin_X0 hown hK hP 2 rfl rfl 9 (by decide) hw0 (fun _ h9 => h9) rfl dX0_addUpSets_36 ?_
              refine lv_iload hx hb dX0_addUpSets_39 (lv_at hl 4 rfl) ?_
              refine va_iald hx hb hK hP 21 0 rfl rfl (vp_in_nI (n := q) (N := 128) (by omega) (by decide)) dX0_addUpSets_41 ?_
              refine lv_topi (fun x_13 ex_13 => ?_)
              rw [nI_clamp (n := q) (by omega)] at ex_13
              refine lv_aload_n hx hb dX0_addUpSets_42 rfl (lv_at hl 0 rfl) ?_
              refine va_get (D := (dC, dI)) (ci := 0) (v := .ref (h 16)) (C := RX0) (T := TX0) (N := 11) hx hb hts hin_X0 hown hK hP 2 rfl rfl 3 (by decide) hw2 (fun _ h9 => h9) rfl dX0_addUpSets_43 ?_
              refine lv_aload_n hx hb dX0_addUpSets_46 rfl (lv_at hl 0 rfl) ?_
              refine va_get (D := (dC, dI)) (ci := 0) (v := .ref (h 15)) (C := RX0) (T := TX0) (N := 11) hx hb hts hin_X0 hown hK hP 2 rfl rfl 2 (by decide) hw3 (fun _ h9 => h9) rfl dX0_addUpSets_47 ?_
              refine lv_iload_n hx hb dX0_addUpSets_50 rfl (lv_at hl 2 rfl) ?_
              refine va_iald hx hb hK hP 15 0 rfl rfl (vp_in_nI (n := t) (N := 40) (by omega) (by decide)) dX0_addUpSets_51 ?_
              have hb_14 := bOw t (by omega)
              refine lv_topi (fun x_15 ex_15 => ?_)
              obtain rfl : x_15 = nI (Ow t) := ex_15.trans ((congrArg (F2 15) (nI_clamp (n := t) (by omega))).trans (hN_10 t (by omega)))
              refine va_iald hx hb hK hP 16 0 rfl rfl (vp_in_nI (n := Ow t) (N := 40) (by omega) (by decide)) dX0_addUpSets_52 ?_
              have hb_16 := bPw (Ow t) (by omega)
              refine lv_topi (fun x_17 ex_17 => ?_)
              obtain rfl : x_17 = nI (Pw (Ow t)) := ex_17.trans ((congrArg (F2 16) (nI_clamp (n := Ow t) (by omega))).trans (hN_9 (Ow t) (by omega)))
              refine lv_iadd hx hb dX0_addUpSets_53 ?_
              refine va_iast hx hb hK hP hD hS 21 0 rfl rfl (vp_in_nI (n := q + (2 ^ t)) (N := 128) (by omega) (by decide)) dX0_addUpSets_54 (fun H locs hP hD hS => ?_)
              obtain ⟨F_18, eF_18⟩ : ∃ z : Nat → Nat → Int32, z = va_up F2 21 (upd (F2 21) (nI (q + (2 ^ t))).toNatClampNeg (x_13 + (nI (Pw (Ow t))))) := ⟨_, rfl⟩
              have hP : va_P (dC, dI) vwCl (wC cI cZ h F_18 V) H := by rw [eF_18]; exact hP
              have hD : va_D A (wC cI cZ h F_18 V) := by rw [eF_18]; exact hD
              have hN_19 : ∀ i, i < n → F_18 16 i = nI (Pw i) := by rw [eF_18]; exact hN_9
              have hN_20 : ∀ i, i < n → F_18 15 i = nI (Ow i) := by rw [eF_18]; exact hN_10
              refine lv_iinc (v := nI (q + 1)) (lv' := [(4, .int (nI (q + 1))), (0, .ref (h 2)), (1, .int (nI f0)), (2, .int (nI t)), (3, .int (nI (2 ^ t)))]) hx hb dX0_addUpSets_55 hl (k := 4) rfl (nI_1 _) (by decide) rfl (fun ls hl => ?_)
              refine lv_goto (tgt := 21) hx hb dX0_addUpSets_58 (by decide) ?_
              exact ih21 (q + 1) F_18 (by omega) (fun j hj => ((va_ne eF_18 (fun h => hj (by rw [h]; decide))).trans (hfr2 j hj))) (by omega) H locs ls hP hD hS (lv_sub hl [1, 2, 3, 4, 0] rfl)
        exact loop21 _ 0 F1 (Nat.zero_le _) (fun j hj => (hfr j hj)) (Nat.lt_succ_self _) H locs ls hP hD hS (lv_sub hl [2, 3, 4, 1, 0] rfl)
  exact loop9 _ 0 F_1 (by omega) (fun j hj => (va_ne eF_1 (fun h => hj (by rw [h]; decide)))) (Nat.lt_succ_self _) H locs ls hP hD hS (lv_sub hl [1, 2, 0] rfl)
def rm_X0_widen : Room := { frames := 0, cells := 0, slots := 0, locals := 0 }
set_option maxHeartbeats 4000000 in
set_option maxRecDepth 100000 in
theorem c_X0_widen (l : Launch) (dC : Nat → ClassId) (dI : Nat → Nat → Nat) (cI cZ cJ : ClassId) (h : Nat → Nat) (F : Nat → Nat → Int32) (V : Nat → Int32)  (s0 : Nat) (p1 : Int32) (hs0 : 1 ≤ s0) (hs1 : s0 ≤ 128)   : CtV l (dC, dI) vwCl (tys3 cI cZ cJ) yX0_widen wsX0_widen rm_X0_widen [.ref (h 2), .int (nI s0), .int p1] (wC cI cZ h F V) (S := Nat → Nat → Int32) (fun u => (∀ j, j ∉ ([22] : List Nat) → u j = F j) ∧ (True)) (fun u => wC cI cZ h u V) 0 0 := by
  refine ct_V (cc := cX0_widen) (maxL := 5) (own := RX0) (by decide) rfl rfl (Nat.le_of_ble_eq_true rfl) (lv := [(0, .ref (h 2)), (1, .int (nI s0)), (2, .int p1)]) rfl ?_
  intro p e s m args below meth c A Q ls hnm fx hK hP hD hA hl hret
  obtain ⟨hx, hb, hml, hown, hts⟩ := id fx
  have hS : va_S A s.heap s.heap [] := va_S.rf
  have hw0 := hts (.fieldLink RX0 46 "MirrorTower$Face" "fits" "[Z") (by decide +kernel)
  have hin_X0 : ∀ w ∈ u_ws RX0 TX0 11, w ∈ wsX0_widen := by decide +kernel
  have hw2 := hts (.fieldLink RX0 43 "MirrorTower$Face" "setPowers" "[I") (by decide +kernel)
  obtain ⟨H, hH⟩ : ∃ H, H = s.heap := ⟨_, rfl⟩
  rw [← hH] at hP ⊢
  have hS : va_S A s.heap H [] := by rw [hH]; exact hS
  generalize ([] : List Loc) = locs at hS ⊢
  refine lv_iload_n hx hb dX0_widen_0 rfl (lv_at hl 1 rfl) ?_
  refine lv_iconst (v := 1) hx hb dX0_widen_1 (by decide) ?_
  refine lv_isub hx hb dX0_widen_2 ?_
  refine lv_topi (fun x_1 ex_1 => ?_)
  obtain rfl : x_1 = nI (s0 - 1) := ex_1.trans (pk_sub (a := s0) (b := 1) (by omega))
  refine lv_istore_n (lv' := [(3, .int (nI (s0 - 1))), (0, .ref (h 2)), (1, .int (nI s0)), (2, .int p1)]) hx hb dX0_widen_3 rfl hl (by decide) rfl (fun ls hl => ?_)
  have loop4 : ∀ (fu : Nat) (zz : Nat) (F1 : Nat → Nat → Int32), (zz < 128) → (∀ j, j ∉ ([22] : List Nat) → F1 j = F j) → (zz) < fu → ∀ (H : Heap) (locs : List Loc) (ls : Array Slot), va_P (dC, dI) vwCl (wC cI cZ h F1 V) H → va_D A (wC cI cZ h F1 V) → va_S A s.heap H locs → lv_has ls 5 [(0, .ref (h 2)), (1, .int (nI s0)), (2, .int p1), (3, .int (nI zz))] → W p l e rm_X0_widen s m args below meth c H locs 0 0 Q (F0 m 4 ls []) := by
    intro fu
    induction fu with
    | zero => intro zz F1 hz hfr hn_; exact absurd hn_ (Nat.not_lt_zero _)
    | succ fu ih4 =>
      intro zz F1 hz hfr hn_ H locs ls hP hD hS hl
      refine lv_iload_n hx hb dX0_widen_4 rfl (lv_at hl 3 rfl) ?_
      refine lv_if_le (tgt := 76) hx hb dX0_widen_5 (by decide) (fun c_2 => ?_) (fun c_2 => ?_)
      · have c_2 : zz ≤ 0 := (nI_leI (a := zz) (b := 0) (by omega) (by omega)).mp c_2
        exact hret F1 H locs 76 ls dX0_widen_76 (⟨hfr, trivial⟩) (hP) (hD) hS
      · have c_2 : ¬ zz ≤ 0 := fun h => c_2 ((nI_leI (a := zz) (b := 0) (by omega) (by omega)).mpr h)
        refine lv_iload_n hx hb dX0_widen_8 rfl (lv_at hl 3 rfl) ?_
        refine lv_istore (lv' := [(4, .int (nI zz)), (0, .ref (h 2)), (1, .int (nI s0)), (2, .int p1), (3, .int (nI zz))]) hx hb dX0_widen_9 hl (by decide) rfl (fun ls hl => ?_)
        have loop11 : ∀ (fu : Nat) (q : Nat) (F2 : Nat → Nat → Int32), (q < 128) → (∀ j, j ∉ ([22] : List Nat) → F2 j = F j) → (q) < fu → ∀ (H : Heap) (locs : List Loc) (ls : Array Slot), va_P (dC, dI) vwCl (wC cI cZ h F2 V) H → va_D A (wC cI cZ h F2 V) → va_S A s.heap H locs → lv_has ls 5 [(0, .ref (h 2)), (1, .int (nI s0)), (2, .int p1), (3, .int (nI zz)), (4, .int (nI q))] → W p l e rm_X0_widen s m args below meth c H locs 0 0 Q (F0 m 11 ls []) := by
          intro fu
          induction fu with
          | zero => intro q F2 hq hfr2 hn_; exact absurd hn_ (Nat.not_lt_zero _)
          | succ fu ih11 =>
            intro q F2 hq hfr2 hn_ H locs ls hP hD hS hl
            refine lv_iload hx hb dX0_widen_11 (lv_at hl 4 rfl) ?_
            refine lv_if_le (tgt := 70) hx hb dX0_widen_13 (by decide) (fun c_3 => ?_) (fun c_3 => ?_)
            · have c_3 : q ≤ 0 := (nI_leI (a := q) (b := 0) (by omega) (by omega)).mp c_3
              refine lv_iinc (v := nI (zz - 1)) (lv' := [(3, .int (nI (zz - 1))), (0, .ref (h 2)), (1, .int (nI s0)), (2, .int p1), (4, .int (nI q))]) hx hb dX0_widen_70 hl (k := 3) rfl (dec_nI (by omega)) (by decide) rfl (fun ls hl => ?_)
              refine lv_goto (tgt := 4) hx hb dX0_widen_73 (by decide) ?_
              exact ih4 (zz - 1) F2 (by omega) (fun j hj => (hfr2 j hj)) (by omega) H locs ls hP hD hS (lv_sub hl [1, 2, 3, 0] rfl)
            · have c_3 : ¬ q ≤ 0 := fun h => c_3 ((nI_leI (a := q) (b := 0) (by omega) (by omega)).mpr h)
              refine lv_aload_n hx hb dX0_widen_16 rfl (lv_at hl 0 rfl) ?_
              refine va_get (D := (dC, dI)) (ci := 0) (v := .ref (h 22)) (C := RX0) (T := TX0) (N := 11) hx hb hts hin_X0 hown hK hP 2 rfl rfl 10 (by decide) hw0 (fun _ h9 => h9) rfl dX0_widen_17 ?_
              refine lv_iload_n hx hb dX0_widen_20 rfl (lv_at hl 3 rfl) ?_
              refine va_zald hx hb hK hP 22 1 rfl rfl (vp_in_nI (n := zz) (N := 128) (by omega) (by decide)) dX0_widen_21 ?_
              refine lv_topi (fun x_4 ex_4 => ?_)
              rw [nI_clamp (n := zz) (by omega)] at ex_4
              refine lv_if_ne (tgt := 70) hx hb dX0_widen_22 (by decide) (fun c_5 => ?_) (fun c_5 => ?_)
              · have c_5 : eqI x_4 0 = false := decide_eq_false c_5
                refine lv_iinc (v := nI (zz - 1)) (lv' := [(3, .int (nI (zz - 1))), (0, .ref (h 2)), (1, .int (nI s0)), (2, .int p1), (4, .int (nI q))]) hx hb dX0_widen_70 hl (k := 3) rfl (dec_nI (by omega)) (by decide) rfl (fun ls hl => ?_)
                refine lv_goto (tgt := 4) hx hb dX0_widen_73 (by decide) ?_
                exact ih4 (zz - 1) F2 (by omega) (fun j hj => (hfr2 j hj)) (by omega) H locs ls hP hD hS (lv_sub hl [1, 2, 3, 0] rfl)
              · have c_5 : eqI x_4 0 = true := decide_eq_true c_5
                refine lv_aload_n hx hb dX0_widen_25 rfl (lv_at hl 0 rfl) ?_
                refine va_get (D := (dC, dI)) (ci := 0) (v := .ref (h 22)) (C := RX0) (T := TX0) (N := 11) hx hb hts hin_X0 hown hK hP 2 rfl rfl 10 (by decide) hw0 (fun _ h9 => h9) rfl dX0_widen_26 ?_
                refine lv_iload_n hx hb dX0_widen_29 rfl (lv_at hl 3 rfl) ?_
                refine lv_aload_n hx hb dX0_widen_30 rfl (lv_at hl 0 rfl) ?_
                refine va_get (D := (dC, dI)) (ci := 0) (v := .ref (h 21)) (C := RX0) (T := TX0) (N := 11) hx hb hts hin_X0 hown hK hP 2 rfl rfl 9 (by decide) hw2 (fun _ h9 => h9) rfl dX0_widen_31 ?_
                refine lv_iload hx hb dX0_widen_34 (lv_at hl 4 rfl) ?_
                refine va_iald hx hb hK hP 21 0 rfl rfl (vp_in_nI (n := q) (N := 128) (by omega) (by decide)) dX0_widen_36 ?_
                refine lv_topi (fun x_6 ex_6 => ?_)
                rw [nI_clamp (n := q) (by omega)] at ex_6
                refine lv_iload_n hx hb dX0_widen_37 rfl (lv_at hl 2 rfl) ?_
                refine lv_icmp_gt (tgt := 57) hx hb dX0_widen_38 (by decide) (fun c_7 => ?_) (fun c_7 => ?_)
                · have c_7 : ltI p1 x_6 = true := decide_eq_true c_7
                  refine lv_iconst (v := 0) hx hb dX0_widen_57 (by decide) ?_
                  refine va_zast hx hb hK hP hD hS 22 1 rfl rfl (vp_in_nI (n := zz) (N := 128) (by omega) (by decide)) dX0_widen_58 (fun H locs hP hD hS => ?_)
                  obtain ⟨F_8, eF_8⟩ : ∃ z : Nat → Nat → Int32, z = va_up F2 22 (upd (F2 22) (nI zz).toNatClampNeg (vp_nar .boolean 0)) := ⟨_, rfl⟩
                  have hP : va_P (dC, dI) vwCl (wC cI cZ h F_8 V) H := by rw [eF_8]; exact hP
                  have hD : va_D A (wC cI cZ h F_8 V) := by rw [eF_8]; exact hD
                  have hE_9 : F_8 22 zz = 0 := by rw [eF_8]; show upd _ (nI zz).toNatClampNeg _ _ = _; rw [nI_clamp (by omega)]; exact pk_us.trans (by decide)
                  refine lv_iload hx hb dX0_widen_59 (lv_at hl 4 rfl) ?_
                  refine lv_iconst (v := 1) hx hb dX0_widen_61 (by decide) ?_
                  refine lv_isub hx hb dX0_widen_62 ?_
                  refine lv_topi (fun x_10 ex_10 => ?_)
                  obtain rfl : x_10 = nI (q - 1) := ex_10.trans (pk_sub (a := q) (b := 1) (by omega))
                  refine lv_iload_n hx hb dX0_widen_63 rfl (lv_at hl 3 rfl) ?_
                  refine lv_iand hx hb dX0_widen_64 ?_
                  refine lv_topi (fun x_11 ex_11 => ?_)
                  obtain rfl : x_11 = nI ((q - 1) &&& zz) := ex_11.trans (nI_and (q - 1) zz)
                  have hb_12 : (q - 1) &&& zz ≤ (q - 1) := Nat.and_le_left
                  refine lv_istore (lv' := [(4, .int (nI ((q - 1) &&& zz))), (0, .ref (h 2)), (1, .int (nI s0)), (2, .int p1), (3, .int (nI zz))]) hx hb dX0_widen_65 hl (by decide) rfl (fun ls hl => ?_)
                  refine lv_goto (tgt := 11) hx hb dX0_widen_67 (by decide) ?_
                  exact ih11 ((q - 1) &&& zz) F_8 (by omega) (fun j hj => ((va_ne eF_8 (fun h => hj (by rw [h]; decide))).trans (hfr2 j hj))) (by omega) H locs ls hP hD hS (lv_sub hl [1, 2, 3, 4, 0] rfl)
                · have c_7 : ltI p1 x_6 = false := decide_eq_false c_7
                  refine lv_aload_n hx hb dX0_widen_41 rfl (lv_at hl 0 rfl) ?_
                  refine va_get (D := (dC, dI)) (ci := 0) (v := .ref (h 22)) (C := RX0) (T := TX0) (N := 11) hx hb hts hin_X0 hown hK hP 2 rfl rfl 10 (by decide) hw0 (fun _ h9 => h9) rfl dX0_widen_42 ?_
                  refine lv_iload_n hx hb dX0_widen_45 rfl (lv_at hl 3 rfl) ?_
                  refine lv_iload hx hb dX0_widen_46 (lv_at hl 4 rfl) ?_
                  refine lv_ixor hx hb dX0_widen_48 ?_
                  refine lv_topi (fun x_13 ex_13 => ?_)
                  obtain rfl : x_13 = nI (zz ^^^ q) := ex_13.trans (nI_xor zz q)
                  have hb_14 : zz ^^^ q < 128 := Nat.xor_lt_two_pow (n := 7) (by omega) (by omega)
                  refine va_zald hx hb hK hP 22 1 rfl rfl (vp_in_nI (n := zz ^^^ q) (N := 128) (by omega) (by decide)) dX0_widen_49 ?_
                  refine lv_topi (fun x_15 ex_15 => ?_)
                  rw [nI_clamp (n := zz ^^^ q) (by omega)] at ex_15
                  refine lv_if_eq (tgt := 57) hx hb dX0_widen_50 (by decide) (fun c_16 => ?_) (fun c_16 => ?_)
                  · have c_16 : eqI x_15 0 = true := decide_eq_true c_16
                    refine lv_iconst (v := 0) hx hb dX0_widen_57 (by decide) ?_
                    refine va_zast hx hb hK hP hD hS 22 1 rfl rfl (vp_in_nI (n := zz) (N := 128) (by omega) (by decide)) dX0_widen_58 (fun H locs hP hD hS => ?_)
                    obtain ⟨F_17, eF_17⟩ : ∃ z : Nat → Nat → Int32, z = va_up F2 22 (upd (F2 22) (nI zz).toNatClampNeg (vp_nar .boolean 0)) := ⟨_, rfl⟩
                    have hP : va_P (dC, dI) vwCl (wC cI cZ h F_17 V) H := by rw [eF_17]; exact hP
                    have hD : va_D A (wC cI cZ h F_17 V) := by rw [eF_17]; exact hD
                    have hE_18 : F_17 22 zz = 0 := by rw [eF_17]; show upd _ (nI zz).toNatClampNeg _ _ = _; rw [nI_clamp (by omega)]; exact pk_us.trans (by decide)
                    refine lv_iload hx hb dX0_widen_59 (lv_at hl 4 rfl) ?_
                    refine lv_iconst (v := 1) hx hb dX0_widen_61 (by decide) ?_
                    refine lv_isub hx hb dX0_widen_62 ?_
                    refine lv_topi (fun x_19 ex_19 => ?_)
                    obtain rfl : x_19 = nI (q - 1) := ex_19.trans (pk_sub (a := q) (b := 1) (by omega))
                    refine lv_iload_n hx hb dX0_widen_63 rfl (lv_at hl 3 rfl) ?_
                    refine lv_iand hx hb dX0_widen_64 ?_
                    refine lv_topi (fun x_20 ex_20 => ?_)
                    obtain rfl : x_20 = nI ((q - 1) &&& zz) := ex_20.trans (nI_and (q - 1) zz)
                    have hb_21 : (q - 1) &&& zz ≤ (q - 1) := Nat.and_le_left
                    refine lv_istore (lv' := [(4, .int (nI ((q - 1) &&& zz))), (0, .ref (h 2)), (1, .int (nI s0)), (2, .int p1), (3, .int (nI zz))]) hx hb dX0_widen_65 hl (by decide) rfl (fun ls hl => ?_)
                    refine lv_goto (tgt := 11) hx hb dX0_widen_67 (by decide) ?_
                    exact ih11 ((q - 1) &&& zz) F_17 (by omega) (fun j hj => ((va_ne eF_17 (fun h => hj (by rw [h]; decide))).trans (hfr2 j hj))) (by omega) H locs ls hP hD hS (lv_sub hl [1, 2, 3, 4, 0] rfl)
                  · have c_16 : eqI x_15 0 = false := decide_eq_false c_16
                    refine lv_iconst (v := 1) hx hb dX0_widen_53 (by decide) ?_
                    refine lv_goto (tgt := 58) hx hb dX0_widen_54 (by decide) ?_
                    refine va_zast hx hb hK hP hD hS 22 1 rfl rfl (vp_in_nI (n := zz) (N := 128) (by omega) (by decide)) dX0_widen_58 (fun H locs hP hD hS => ?_)
                    obtain ⟨F_22, eF_22⟩ : ∃ z : Nat → Nat → Int32, z = va_up F2 22 (upd (F2 22) (nI zz).toNatClampNeg (vp_nar .boolean 1)) := ⟨_, rfl⟩
                    have hP : va_P (dC, dI) vwCl (wC cI cZ h F_22 V) H := by rw [eF_22]; exact hP
                    have hD : va_D A (wC cI cZ h F_22 V) := by rw [eF_22]; exact hD
                    have hE_23 : F_22 22 zz = 1 := by rw [eF_22]; show upd _ (nI zz).toNatClampNeg _ _ = _; rw [nI_clamp (by omega)]; exact pk_us.trans (by decide)
                    refine lv_iload hx hb dX0_widen_59 (lv_at hl 4 rfl) ?_
                    refine lv_iconst (v := 1) hx hb dX0_widen_61 (by decide) ?_
                    refine lv_isub hx hb dX0_widen_62 ?_
                    refine lv_topi (fun x_24 ex_24 => ?_)
                    obtain rfl : x_24 = nI (q - 1) := ex_24.trans (pk_sub (a := q) (b := 1) (by omega))
                    refine lv_iload_n hx hb dX0_widen_63 rfl (lv_at hl 3 rfl) ?_
                    refine lv_iand hx hb dX0_widen_64 ?_
                    refine lv_topi (fun x_25 ex_25 => ?_)
                    obtain rfl : x_25 = nI ((q - 1) &&& zz) := ex_25.trans (nI_and (q - 1) zz)
                    have hb_26 : (q - 1) &&& zz ≤ (q - 1) := Nat.and_le_left
                    refine lv_istore (lv' := [(4, .int (nI ((q - 1) &&& zz))), (0, .ref (h 2)), (1, .int (nI s0)), (2, .int p1), (3, .int (nI zz))]) hx hb dX0_widen_65 hl (by decide) rfl (fun ls hl => ?_)
                    refine lv_goto (tgt := 11) hx hb dX0_widen_67 (by decide) ?_
                    exact ih11 ((q - 1) &&& zz) F_22 (by omega) (fun j hj => ((va_ne eF_22 (fun h => hj (by rw [h]; decide))).trans (hfr2 j hj))) (by omega) H locs ls hP hD hS (lv_sub hl [1, 2, 3, 4, 0] rfl)
        exact loop11 _ zz F1 (by omega) hfr (Nat.lt_succ_self _) H locs ls hP hD hS (lv_sub hl [1, 2, 3, 4, 0] rfl)
  exact loop4 _ (s0 - 1) F (by omega) (fun _ _ => rfl) (Nat.lt_succ_self _) H locs ls hP hD hS (lv_sub hl [1, 2, 3, 0] rfl)
def rm_X0_bestHeat : Room := { frames := 4, cells := 0, slots := 0, locals := 83 }
set_option maxHeartbeats 4000000 in
set_option maxRecDepth 100000 in
theorem c_X0_bestHeat (l : Launch) (dC : Nat → ClassId) (dI : Nat → Nat → Nat) (cI cZ cJ : ClassId) (h : Nat → Nat) (F : Nat → Nat → Int32) (V : Nat → Int32) (n : Nat) (hV1 : V 1 = nI n) (bV1 : n ≤ 40) (d : Nat) (hV2 : V 2 = nI d) (bV2 : d ≤ 20) (So : Nat → Nat) (hSo : ∀ i, i < 40 → F 9 i = nI (So i)) (bSo : ∀ i, i < 40 → So i ≤ 90) (Hh : Nat → Nat) (hHh : ∀ i, i < 24 → F 12 i = nI (Hh i)) (bHh : ∀ i, i < 24 → Hh i ≤ 9) (Wd : Nat → Nat) (hWd : ∀ i, i < 24 → F 13 i = nI (Wd i)) (bWd : ∀ i, i < 24 → Wd i ≤ 99) (k0 : Nat) (hk0 : k0 < 24)   : CtI l (dC, dI) vwCl (tys3 cI cZ cJ) yX0_bestHeat wsX0_bestHeat rm_X0_bestHeat [.ref (h 2), .int (nI k0)] (wC cI cZ h F V) (S := Nat → Nat → Int32) (fun r u => (True) ∧ (∀ j, j ∉ ([15, 16, 21, 22] : List Nat) → u j = F j) ∧ (True)) (fun u => wC cI cZ h u V) 0 0 := by
  refine ct_I (cc := cX0_bestHeat) (maxL := 6) (ty := .int) (own := RX0) (by decide) rfl rfl (Nat.le_of_ble_eq_true rfl) (lv := [(0, .ref (h 2)), (1, .int (nI k0))]) rfl ?_
  intro p e s m args below meth c A Q ls fx hK hP hD hA hl hret
  obtain ⟨hx, hb, hml, hown, hts⟩ := id fx
  have hS : va_S A s.heap s.heap [] := va_S.rf
  have hw0 := hts (.fieldLink RX0 11 "MirrorTower$Face" "field" "LMirrorTower$Field;") (by decide +kernel)
  have hin_X0 : ∀ w ∈ u_ws RX0 TX0 11, w ∈ wsX0_bestHeat := by decide +kernel
  have hw2 := hts (.methodLink RX0 84 Lib.Math.min.name) (by decide +kernel)
  have hw3 := hts (.static Lib.Math.min.name) (by decide +kernel)
  have hw4 := hts (.initialized "java/lang/Math") (by decide +kernel)
  have hw5 := hts (.code Lib.Math.min.name Lib.Math.min.code 2 (some .int)) (by decide +kernel)
  have hw6 := hts (.fieldLink RX0 15 "MirrorTower$Face" "limits" "[I") (by decide +kernel)
  have hw7 := hts (.fieldLink RX0 46 "MirrorTower$Face" "fits" "[Z") (by decide +kernel)
  have hw8 := hts (.fieldLink RX0 43 "MirrorTower$Face" "setPowers" "[I") (by decide +kernel)
  have hw9 := hts (.methodLink RX0 96 Lib.Math.max.name) (by decide +kernel)
  have hw10 := hts (.static Lib.Math.max.name) (by decide +kernel)
  have hw11 := hts (.code Lib.Math.max.name Lib.Math.max.code 2 (some .int)) (by decide +kernel)
  obtain ⟨H, hH⟩ : ∃ H, H = s.heap := ⟨_, rfl⟩
  rw [← hH] at hP ⊢
  have hS : va_S A s.heap H [] := by rw [hH]; exact hS
  generalize ([] : List Loc) = locs at hS ⊢
  refine lv_aload_n hx hb dX0_bestHeat_0 rfl (lv_at hl 0 rfl) ?_
  refine lv_iload_n hx hb dX0_bestHeat_1 rfl (lv_at hl 1 rfl) ?_
  refine lv_iconst (v := 0) hx hb dX0_bestHeat_2 (by decide) ?_
  refine cw_Vv (As := [.int (nI k0), .int 0]) (rest := []) (c_X0_readPowers l dC dI cI cZ cJ h F V n hV1 (by omega) d hV2 (by omega) So hSo bSo Hh hHh bHh Wd hWd bWd k0 0 (by omega) (by omega)) fx (cwV 2 hts gX0_bestHeat_X0_readPowers rfl rfl rfl (by decide +kernel) ⟨Nat.le_of_ble_eq_true rfl, Nat.le_of_ble_eq_true rfl⟩) hK hP hD hS hA 2 rfl rfl rfl rfl hl.1 rfl (Nat.le_of_ble_eq_true rfl) dX0_bestHeat_3 ⟨Nat.le_of_ble_eq_true rfl, Nat.le_of_ble_eq_true rfl⟩ (fun u_2 H locs hw_3 hP hD hS => ?_)
  obtain ⟨F_4, rfl⟩ : ∃ z, z = u_2 := ⟨_, rfl⟩
  have hf_5 : ∀ j, j ∉ ([16] : List Nat) → F_4 j = F j := hw_3.1
  have hP : va_P (dC, dI) vwCl (wC cI cZ h F_4 V) H := hP
  have hD : va_D A (wC cI cZ h F_4 V) := hD
  have hN_6 : ∀ i, i < 40 → F_4 9 i = nI (So i) := by rw [hf_5 9 (by decide)]; exact hSo
  have hN_7 : ∀ i, i < 24 → F_4 12 i = nI (Hh i) := by rw [hf_5 12 (by decide)]; exact hHh
  have hN_8 : ∀ i, i < 24 → F_4 13 i = nI (Wd i) := by rw [hf_5 13 (by decide)]; exact hWd
  obtain ⟨Pq_11, ePq_11⟩ : ∃ z : Nat → Nat, z = pwF F Hh So Wd d k0 0 := ⟨_, rfl⟩
  have hN_9 : ∀ i, i < n → F_4 16 i = nI (Pq_11 i) := by rw [ePq_11]; exact hw_3.2
  have bN_10 : ∀ i, i < n → Pq_11 i ≤ 100 := by rw [ePq_11]; exact fun i _ => (pwN_eq (bHh k0 (by omega))).2
  refine lv_aload_n hx hb dX0_bestHeat_6 rfl (lv_at hl 0 rfl) ?_
  refine cw_Vv (As := []) (rest := []) (c_X0_rank l dC dI cI cZ cJ h F_4 V n hV1 (by omega) Pq_11 hN_9 bN_10) fx (cwV 0 hts gX0_bestHeat_X0_rank rfl rfl rfl (by decide +kernel) ⟨Nat.le_of_ble_eq_true rfl, Nat.le_of_ble_eq_true rfl⟩) hK hP hD hS hA 2 rfl rfl rfl rfl hl.1 rfl (Nat.le_of_ble_eq_true rfl) dX0_bestHeat_7 ⟨Nat.le_of_ble_eq_true rfl, Nat.le_of_ble_eq_true rfl⟩ (fun u_13 H locs hw_14 hP hD hS => ?_)
  obtain ⟨F_15, rfl⟩ : ∃ z, z = u_13 := ⟨_, rfl⟩
  have hf_16 : ∀ j, j ∉ ([15] : List Nat) → F_15 j = F_4 j := hw_14.1
  have hP : va_P (dC, dI) vwCl (wC cI cZ h F_15 V) H := hP
  have hD : va_D A (wC cI cZ h F_15 V) := hD
  have hN_17 : ∀ i, i < 40 → F_15 9 i = nI (So i) := by rw [hf_16 9 (by decide)]; exact hN_6
  have hN_18 : ∀ i, i < 24 → F_15 12 i = nI (Hh i) := by rw [hf_16 12 (by decide)]; exact hN_7
  have hN_19 : ∀ i, i < 24 → F_15 13 i = nI (Wd i) := by rw [hf_16 13 (by decide)]; exact hN_8
  have hN_20 : ∀ i, i < n → F_15 16 i = nI (Pq_11 i) := by rw [hf_16 16 (by decide)]; exact hN_9
  obtain ⟨Oq_23, eOq_23⟩ : ∃ z : Nat → Nat, z = ordn Pq_11 n := ⟨_, rfl⟩
  have hN_21 : ∀ i, i < n → F_15 15 i = nI (Oq_23 i) := by rw [eOq_23]; exact hw_14.2
  have bN_22 : ∀ i, i < n → Oq_23 i ≤ n - 1 := by rw [eOq_23]; exact fun i hi => by have := ordn_lt Pq_11 n i hi; omega
  refine lv_bipush (v := 7) hx hb dX0_bestHeat_10 (by decide) ?_
  refine lv_aload_n hx hb dX0_bestHeat_12 rfl (lv_at hl 0 rfl) ?_
  refine va_get (D := (dC, dI)) (ci := 0) (v := .ref (h 1)) (C := RX0) (T := TX0) (N := 11) hx hb hts hin_X0 hown hK hP 2 rfl rfl 0 (by decide) hw0 (fun _ h9 => h9) rfl dX0_bestHeat_13 ?_
  refine cw_Vi (As := []) (rest := [.int 7]) (c_X1_size l dC dI cI cZ cJ h F_15 V) fx (cwV 0 hts gX0_bestHeat_X1_size rfl rfl rfl (by decide +kernel) ⟨Nat.le_of_ble_eq_true rfl, Nat.le_of_ble_eq_true rfl⟩) hK hP hD hS hA 1 rfl rfl rfl rfl hl.1 rfl (Nat.le_of_ble_eq_true rfl) dX0_bestHeat_16 ⟨Nat.le_of_ble_eq_true rfl, Nat.le_of_ble_eq_true rfl⟩ (fun r_24 u_25 H locs hw_26 hP hD hS => ?_)
  have hP : va_P (dC, dI) vwCl (wC cI cZ h F_15 V) H := hP
  have hD : va_D A (wC cI cZ h F_15 V) := hD
  obtain rfl : r_24 = nI n := Eq.trans hw_26 hV1
  refine va_mmin hx hb (hml.trans hl.1.symm) hown hw2 hw3 hw4 hw5 (Nat.le_of_ble_eq_true rfl) (Nat.le_of_ble_eq_true rfl) (Nat.le_of_ble_eq_true rfl) (Nat.le_of_ble_eq_true rfl) dX0_bestHeat_19 ?_
  refine lv_topi (fun x_27 ex_27 => ?_)
  obtain rfl : x_27 = nI (min 7 n) := ex_27.trans (mm_min (a := 7) (b := n) (by omega) (by omega))
  refine lv_istore_n (lv' := [(2, .int (nI (min 7 n))), (0, .ref (h 2)), (1, .int (nI k0))]) hx hb dX0_bestHeat_22 rfl hl (by decide) rfl (fun ls hl => ?_)
  refine lv_iconst (v := 1) hx hb dX0_bestHeat_23 (by decide) ?_
  refine lv_iload_n hx hb dX0_bestHeat_24 rfl (lv_at hl 0 rfl) ?_
  have hp2 : 2 ^ (min 7 n) ≤ 2 ^ 7 := Nat.pow_le_pow_right (by omega) (by omega)
  have hp3 : 1 ≤ 2 ^ (min 7 n) := Nat.one_le_two_pow
  refine lv_ishl hx hb dX0_bestHeat_25 ?_
  refine lv_topi (fun x_28 ex_28 => ?_)
  obtain rfl : x_28 = nI (2 ^ (min 7 n)) := ex_28.trans (shl1 (by omega))
  refine lv_istore_n (lv' := [(3, .int (nI (2 ^ (min 7 n)))), (2, .int (nI (min 7 n))), (0, .ref (h 2)), (1, .int (nI k0))]) hx hb dX0_bestHeat_26 rfl hl (by decide) rfl (fun ls hl => ?_)
  refine lv_aload_n hx hb dX0_bestHeat_27 rfl (lv_at hl 2 rfl) ?_
  refine lv_iload_n hx hb dX0_bestHeat_28 rfl (lv_at hl 1 rfl) ?_
  refine cw_Vv (As := [.int (nI (min 7 n))]) (rest := []) (c_X0_addUpSets l dC dI cI cZ cJ h F_15 V n hV1 (by omega) Pq_11 hN_20 bN_10 Oq_23 hN_21 bN_22 (min 7 n) (by omega) (by omega)) fx (cwV 1 hts gX0_bestHeat_X0_addUpSets rfl rfl rfl (by decide +kernel) ⟨Nat.le_of_ble_eq_true rfl, Nat.le_of_ble_eq_true rfl⟩) hK hP hD hS hA 2 rfl rfl rfl rfl hl.1 rfl (Nat.le_of_ble_eq_true rfl) dX0_bestHeat_29 ⟨Nat.le_of_ble_eq_true rfl, Nat.le_of_ble_eq_true rfl⟩ (fun u_30 H locs hw_31 hP hD hS => ?_)
  obtain ⟨F_32, rfl⟩ : ∃ z, z = u_30 := ⟨_, rfl⟩
  have hf_33 : ∀ j, j ∉ ([21] : List Nat) → F_32 j = F_15 j := hw_31.1
  have hP : va_P (dC, dI) vwCl (wC cI cZ h F_32 V) H := hP
  have hD : va_D A (wC cI cZ h F_32 V) := hD
  have hN_34 : ∀ i, i < 40 → F_32 9 i = nI (So i) := by rw [hf_33 9 (by decide)]; exact hN_17
  have hN_35 : ∀ i, i < 24 → F_32 12 i = nI (Hh i) := by rw [hf_33 12 (by decide)]; exact hN_18
  have hN_36 : ∀ i, i < 24 → F_32 13 i = nI (Wd i) := by rw [hf_33 13 (by decide)]; exact hN_19
  have hN_37 : ∀ i, i < n → F_32 16 i = nI (Pq_11 i) := by rw [hf_33 16 (by decide)]; exact hN_20
  have hN_38 : ∀ i, i < n → F_32 15 i = nI (Oq_23 i) := by rw [hf_33 15 (by decide)]; exact hN_21
  have hfb : ∀ j, j ∉ ([15, 16, 21, 22] : List Nat) → F_32 j = F j := fun j hj => ((hf_33 j (fun h => hj ((by decide : ∀ x ∈ ([21] : List Nat), x ∈ ([15, 16, 21, 22] : List Nat)) j h))).trans ((hf_16 j (fun h => hj ((by decide : ∀ x ∈ ([15] : List Nat), x ∈ ([15, 16, 21, 22] : List Nat)) j h))).trans (hf_5 j (fun h => hj ((by decide : ∀ x ∈ ([16] : List Nat), x ∈ ([15, 16, 21, 22] : List Nat)) j h)))))
  refine lv_iconst (v := 0) hx hb dX0_bestHeat_32 (by decide) ?_
  refine lv_istore (lv' := [(4, .int 0), (3, .int (nI (2 ^ (min 7 n)))), (2, .int (nI (min 7 n))), (0, .ref (h 2)), (1, .int (nI k0))]) hx hb dX0_bestHeat_33 hl (by decide) rfl (fun ls hl => ?_)
  have loop35 : ∀ (fu : Nat) (k : Nat) (F1 : Nat → Nat → Int32), (k ≤ 2 ^ (min 7 n)) → (∀ j, j ∉ ([22] : List Nat) → F1 j = F_32 j) → (2 ^ (min 7 n) - k) < fu → ∀ (H : Heap) (locs : List Loc) (ls : Array Slot), va_P (dC, dI) vwCl (wC cI cZ h F1 V) H → va_D A (wC cI cZ h F1 V) → va_S A s.heap H locs → lv_has ls 6 [(0, .ref (h 2)), (1, .int (nI k0)), (2, .int (nI (min 7 n))), (3, .int (nI (2 ^ (min 7 n)))), (4, .int (nI k))] → W p l e rm_X0_bestHeat s m args below meth c H locs 0 0 Q (F0 m 35 ls []) := by
    intro fu
    induction fu with
    | zero => intro k F1 hk hfr hn_; exact absurd hn_ (Nat.not_lt_zero _)
    | succ fu ih35 =>
      intro k F1 hk hfr hn_ H locs ls hP hD hS hl
      refine lv_iload hx hb dX0_bestHeat_35 (lv_at hl 4 rfl) ?_
      refine lv_iload_n hx hb dX0_bestHeat_37 rfl (lv_at hl 3 rfl) ?_
      refine lv_icmp_ge (tgt := 64) hx hb dX0_bestHeat_38 (by decide) (fun c_39 => ?_) (fun c_39 => ?_)
      · have c_39 : (2 ^ (min 7 n)) ≤ k := (nI_leI (a := 2 ^ (min 7 n)) (b := k) (by omega) (by omega)).mp c_39
        refine lv_iconst (v := 0) hx hb dX0_bestHeat_64 (by decide) ?_
        refine lv_istore (lv' := [(4, .int 0), (0, .ref (h 2)), (1, .int (nI k0)), (2, .int (nI (min 7 n))), (3, .int (nI (2 ^ (min 7 n))))]) hx hb dX0_bestHeat_65 hl (by decide) rfl (fun ls hl => ?_)
        refine lv_iload hx hb dX0_bestHeat_67 (lv_at hl 0 rfl) ?_
        refine lv_iconst (v := 4) hx hb dX0_bestHeat_69 (by decide) ?_
        refine lv_icmp_ge (tgt := 91) hx hb dX0_bestHeat_70 (by decide) (fun c_40 => ?_) (fun c_40 => ?_)
        · exact absurd c_40 (by decide)
        · refine lv_aload_n hx hb dX0_bestHeat_73 rfl (lv_at hl 1 rfl) ?_
          refine lv_iload_n hx hb dX0_bestHeat_74 rfl (lv_at hl 4 rfl) ?_
          refine lv_aload_n hx hb dX0_bestHeat_75 rfl (lv_at hl 1 rfl) ?_
          refine va_get (D := (dC, dI)) (ci := 0) (v := .ref (h 14)) (C := RX0) (T := TX0) (N := 11) hx hb hts hin_X0 hown hK hP 2 rfl rfl 1 (by decide) hw6 (fun _ h9 => h9) rfl dX0_bestHeat_76 ?_
          refine lv_iload hx hb dX0_bestHeat_79 (lv_at hl 0 rfl) ?_
          refine va_iald hx hb hK hP 14 0 rfl rfl (vp_in_nI (n := 0) (N := 4) (by decide) (by decide)) dX0_bestHeat_81 ?_
          refine lv_topi (fun x_41 ex_41 => ?_)
          rw [show (0 : Int32).toNatClampNeg = 0 from by decide] at ex_41
          refine cw_Vv (As := [.int (nI (2 ^ (min 7 n))), .int x_41]) (rest := []) (c_X0_widen l dC dI cI cZ cJ h F1 V (2 ^ (min 7 n)) x_41 (by omega) (by omega)) fx (cwV 2 hts gX0_bestHeat_X0_widen rfl rfl rfl (by decide +kernel) ⟨Nat.le_of_ble_eq_true rfl, Nat.le_of_ble_eq_true rfl⟩) hK hP hD hS hA 2 rfl rfl rfl rfl hl.1 rfl (Nat.le_of_ble_eq_true rfl) dX0_bestHeat_82 ⟨Nat.le_of_ble_eq_true rfl, Nat.le_of_ble_eq_true rfl⟩ (fun u_43 H locs hw_44 hP hD hS => ?_)
          obtain ⟨F_45, rfl⟩ : ∃ z, z = u_43 := ⟨_, rfl⟩
          have hf_46 : ∀ j, j ∉ ([22] : List Nat) → F_45 j = F1 j := hw_44.1
          have hP : va_P (dC, dI) vwCl (wC cI cZ h F_45 V) H := hP
          have hD : va_D A (wC cI cZ h F_45 V) := hD
          refine lv_iinc (v := 1) (lv' := [(4, .int 1), (0, .ref (h 2)), (1, .int (nI k0)), (2, .int (nI (min 7 n))), (3, .int (nI (2 ^ (min 7 n))))]) hx hb dX0_bestHeat_85 hl (k := 0) rfl (by decide) (by decide) rfl (fun ls hl => ?_)
          refine lv_goto (tgt := 67) hx hb dX0_bestHeat_88 (by decide) ?_
          refine lv_iload hx hb dX0_bestHeat_67 (lv_at hl 0 rfl) ?_
          refine lv_iconst (v := 4) hx hb dX0_bestHeat_69 (by decide) ?_
          refine lv_icmp_ge (tgt := 91) hx hb dX0_bestHeat_70 (by decide) (fun c_47 => ?_) (fun c_47 => ?_)
          · exact absurd c_47 (by decide)
          · refine lv_aload_n hx hb dX0_bestHeat_73 rfl (lv_at hl 1 rfl) ?_
            refine lv_iload_n hx hb dX0_bestHeat_74 rfl (lv_at hl 4 rfl) ?_
            refine lv_aload_n hx hb dX0_bestHeat_75 rfl (lv_at hl 1 rfl) ?_
            refine va_get (D := (dC, dI)) (ci := 0) (v := .ref (h 14)) (C := RX0) (T := TX0) (N := 11) hx hb hts hin_X0 hown hK hP 2 rfl rfl 1 (by decide) hw6 (fun _ h9 => h9) rfl dX0_bestHeat_76 ?_
            refine lv_iload hx hb dX0_bestHeat_79 (lv_at hl 0 rfl) ?_
            refine va_iald hx hb hK hP 14 0 rfl rfl (vp_in_nI (n := 1) (N := 4) (by decide) (by decide)) dX0_bestHeat_81 ?_
            refine lv_topi (fun x_48 ex_48 => ?_)
            rw [show (1 : Int32).toNatClampNeg = 1 from by decide] at ex_48
            refine cw_Vv (As := [.int (nI (2 ^ (min 7 n))), .int x_48]) (rest := []) (c_X0_widen l dC dI cI cZ cJ h F_45 V (2 ^ (min 7 n)) x_48 (by omega) (by omega)) fx (cwV 2 hts gX0_bestHeat_X0_widen rfl rfl rfl (by decide +kernel) ⟨Nat.le_of_ble_eq_true rfl, Nat.le_of_ble_eq_true rfl⟩) hK hP hD hS hA 2 rfl rfl rfl rfl hl.1 rfl (Nat.le_of_ble_eq_true rfl) dX0_bestHeat_82 ⟨Nat.le_of_ble_eq_true rfl, Nat.le_of_ble_eq_true rfl⟩ (fun u_50 H locs hw_51 hP hD hS => ?_)
            obtain ⟨F_52, rfl⟩ : ∃ z, z = u_50 := ⟨_, rfl⟩
            have hf_53 : ∀ j, j ∉ ([22] : List Nat) → F_52 j = F_45 j := hw_51.1
            have hP : va_P (dC, dI) vwCl (wC cI cZ h F_52 V) H := hP
            have hD : va_D A (wC cI cZ h F_52 V) := hD
            refine lv_iinc (v := 2) (lv' := [(4, .int 2), (0, .ref (h 2)), (1, .int (nI k0)), (2, .int (nI (min 7 n))), (3, .int (nI (2 ^ (min 7 n))))]) hx hb dX0_bestHeat_85 hl (k := 0) rfl (by decide) (by decide) rfl (fun ls hl => ?_)
            refine lv_goto (tgt := 67) hx hb dX0_bestHeat_88 (by decide) ?_
            refine lv_iload hx hb dX0_bestHeat_67 (lv_at hl 0 rfl) ?_
            refine lv_iconst (v := 4) hx hb dX0_bestHeat_69 (by decide) ?_
            refine lv_icmp_ge (tgt := 91) hx hb dX0_bestHeat_70 (by decide) (fun c_54 => ?_) (fun c_54 => ?_)
            · exact absurd c_54 (by decide)
            · refine lv_aload_n hx hb dX0_bestHeat_73 rfl (lv_at hl 1 rfl) ?_
              refine lv_iload_n hx hb dX0_bestHeat_74 rfl (lv_at hl 4 rfl) ?_
              refine lv_aload_n hx hb dX0_bestHeat_75 rfl (lv_at hl 1 rfl) ?_
              refine va_get (D := (dC, dI)) (ci := 0) (v := .ref (h 14)) (C := RX0) (T := TX0) (N := 11) hx hb hts hin_X0 hown hK hP 2 rfl rfl 1 (by decide) hw6 (fun _ h9 => h9) rfl dX0_bestHeat_76 ?_
              refine lv_iload hx hb dX0_bestHeat_79 (lv_at hl 0 rfl) ?_
              refine va_iald hx hb hK hP 14 0 rfl rfl (vp_in_nI (n := 2) (N := 4) (by decide) (by decide)) dX0_bestHeat_81 ?_
              refine lv_topi (fun x_55 ex_55 => ?_)
              rw [show (2 : Int32).toNatClampNeg = 2 from by decide] at ex_55
              refine cw_Vv (As := [.int (nI (2 ^ (min 7 n))), .int x_55]) (rest := []) (c_X0_widen l dC dI cI cZ cJ h F_52 V (2 ^ (min 7 n)) x_55 (by omega) (by omega)) fx (cwV 2 hts gX0_bestHeat_X0_widen rfl rfl rfl (by decide +kernel) ⟨Nat.le_of_ble_eq_true rfl, Nat.le_of_ble_eq_true rfl⟩) hK hP hD hS hA 2 rfl rfl rfl rfl hl.1 rfl (Nat.le_of_ble_eq_true rfl) dX0_bestHeat_82 ⟨Nat.le_of_ble_eq_true rfl, Nat.le_of_ble_eq_true rfl⟩ (fun u_57 H locs hw_58 hP hD hS => ?_)
              obtain ⟨F_59, rfl⟩ : ∃ z, z = u_57 := ⟨_, rfl⟩
              have hf_60 : ∀ j, j ∉ ([22] : List Nat) → F_59 j = F_52 j := hw_58.1
              have hP : va_P (dC, dI) vwCl (wC cI cZ h F_59 V) H := hP
              have hD : va_D A (wC cI cZ h F_59 V) := hD
              refine lv_iinc (v := 3) (lv' := [(4, .int 3), (0, .ref (h 2)), (1, .int (nI k0)), (2, .int (nI (min 7 n))), (3, .int (nI (2 ^ (min 7 n))))]) hx hb dX0_bestHeat_85 hl (k := 0) rfl (by decide) (by decide) rfl (fun ls hl => ?_)
              refine lv_goto (tgt := 67) hx hb dX0_bestHeat_88 (by decide) ?_
              refine lv_iload hx hb dX0_bestHeat_67 (lv_at hl 0 rfl) ?_
              refine lv_iconst (v := 4) hx hb dX0_bestHeat_69 (by decide) ?_
              refine lv_icmp_ge (tgt := 91) hx hb dX0_bestHeat_70 (by decide) (fun c_61 => ?_) (fun c_61 => ?_)
              · exact absurd c_61 (by decide)
              · refine lv_aload_n hx hb dX0_bestHeat_73 rfl (lv_at hl 1 rfl) ?_
                refine lv_iload_n hx hb dX0_bestHeat_74 rfl (lv_at hl 4 rfl) ?_
                refine lv_aload_n hx hb dX0_bestHeat_75 rfl (lv_at hl 1 rfl) ?_
                refine va_get (D := (dC, dI)) (ci := 0) (v := .ref (h 14)) (C := RX0) (T := TX0) (N := 11) hx hb hts hin_X0 hown hK hP 2 rfl rfl 1 (by decide) hw6 (fun _ h9 => h9) rfl dX0_bestHeat_76 ?_
                refine lv_iload hx hb dX0_bestHeat_79 (lv_at hl 0 rfl) ?_
                refine va_iald hx hb hK hP 14 0 rfl rfl (vp_in_nI (n := 3) (N := 4) (by decide) (by decide)) dX0_bestHeat_81 ?_
                refine lv_topi (fun x_62 ex_62 => ?_)
                rw [show (3 : Int32).toNatClampNeg = 3 from by decide] at ex_62
                refine cw_Vv (As := [.int (nI (2 ^ (min 7 n))), .int x_62]) (rest := []) (c_X0_widen l dC dI cI cZ cJ h F_59 V (2 ^ (min 7 n)) x_62 (by omega) (by omega)) fx (cwV 2 hts gX0_bestHeat_X0_widen rfl rfl rfl (by decide +kernel) ⟨Nat.le_of_ble_eq_true rfl, Nat.le_of_ble_eq_true rfl⟩) hK hP hD hS hA 2 rfl rfl rfl rfl hl.1 rfl (Nat.le_of_ble_eq_true rfl) dX0_bestHeat_82 ⟨Nat.le_of_ble_eq_true rfl, Nat.le_of_ble_eq_true rfl⟩ (fun u_64 H locs hw_65 hP hD hS => ?_)
                obtain ⟨F_66, rfl⟩ : ∃ z, z = u_64 := ⟨_, rfl⟩
                have hf_67 : ∀ j, j ∉ ([22] : List Nat) → F_66 j = F_59 j := hw_65.1
                have hP : va_P (dC, dI) vwCl (wC cI cZ h F_66 V) H := hP
                have hD : va_D A (wC cI cZ h F_66 V) := hD
                refine lv_iinc (v := 4) (lv' := [(4, .int 4), (0, .ref (h 2)), (1, .int (nI k0)), (2, .int (nI (min 7 n))), (3, .int (nI (2 ^ (min 7 n))))]) hx hb dX0_bestHeat_85 hl (k := 0) rfl (by decide) (by decide) rfl (fun ls hl => ?_)
                refine lv_goto (tgt := 67) hx hb dX0_bestHeat_88 (by decide) ?_
                refine lv_iload hx hb dX0_bestHeat_67 (lv_at hl 0 rfl) ?_
                refine lv_iconst (v := 4) hx hb dX0_bestHeat_69 (by decide) ?_
                refine lv_icmp_ge (tgt := 91) hx hb dX0_bestHeat_70 (by decide) (fun c_68 => ?_) (fun c_68 => ?_)
                · refine lv_iconst (v := 0) hx hb dX0_bestHeat_91 (by decide) ?_
                  refine lv_istore (lv' := [(4, .int 0), (0, .ref (h 2)), (1, .int (nI k0)), (2, .int (nI (min 7 n))), (3, .int (nI (2 ^ (min 7 n))))]) hx hb dX0_bestHeat_92 hl (by decide) rfl (fun ls hl => ?_)
                  refine lv_iconst (v := 0) hx hb dX0_bestHeat_94 (by decide) ?_
                  refine lv_istore (lv' := [(5, .int 0), (4, .int 0), (0, .ref (h 2)), (1, .int (nI k0)), (2, .int (nI (min 7 n))), (3, .int (nI (2 ^ (min 7 n))))]) hx hb dX0_bestHeat_95 hl (by decide) rfl (fun ls hl => ?_)
                  have loop97 : ∀ (fu : Nat) (x : Int32) (k2 : Nat), (k2 ≤ 2 ^ (min 7 n)) → (2 ^ (min 7 n) - k2) < fu → ∀ (H : Heap) (locs : List Loc) (ls : Array Slot), va_P (dC, dI) vwCl (wC cI cZ h F_66 V) H → va_D A (wC cI cZ h F_66 V) → va_S A s.heap H locs → lv_has ls 6 [(0, .ref (h 2)), (1, .int (nI k0)), (2, .int (nI (min 7 n))), (3, .int (nI (2 ^ (min 7 n)))), (4, .int x), (5, .int (nI k2))] → W p l e rm_X0_bestHeat s m args below meth c H locs 0 0 Q (F0 m 97 ls []) := by
                    intro fu
                    induction fu with
                    | zero => intro x k2 hk2 hn_; exact absurd hn_ (Nat.not_lt_zero _)
                    | succ fu ih97 =>
                      intro x k2 hk2 hn_ H locs ls hP hD hS hl
                      refine lv_iload hx hb dX0_bestHeat_97 (lv_at hl 5 rfl) ?_
                      refine lv_iload_n hx hb dX0_bestHeat_99 rfl (lv_at hl 3 rfl) ?_
                      refine lv_icmp_ge (tgt := 133) hx hb dX0_bestHeat_100 (by decide) (fun c_69 => ?_) (fun c_69 => ?_)
                      · have c_69 : (2 ^ (min 7 n)) ≤ k2 := (nI_leI (a := 2 ^ (min 7 n)) (b := k2) (by omega) (by omega)).mp c_69
                        refine lv_iload hx hb dX0_bestHeat_133 (lv_at hl 4 rfl) ?_
                        exact hret x F_66 H locs 135 ls rfl dX0_bestHeat_135 (⟨trivial, fun j hj => ((show ∀ j, j ∉ ([22] : List Nat) → F_66 j = F_32 j from fun j hj => ((hf_67 j (fun h => hj ((by decide : ∀ x ∈ ([22] : List Nat), x ∈ ([22] : List Nat)) j h))).trans ((hf_60 j (fun h => hj ((by decide : ∀ x ∈ ([22] : List Nat), x ∈ ([22] : List Nat)) j h))).trans ((hf_53 j (fun h => hj ((by decide : ∀ x ∈ ([22] : List Nat), x ∈ ([22] : List Nat)) j h))).trans ((hf_46 j (fun h => hj ((by decide : ∀ x ∈ ([22] : List Nat), x ∈ ([22] : List Nat)) j h))).trans (hfr j hj)))))) j (fun z => hj ((by decide : ∀ x ∈ ([22] : List Nat), x ∈ ([15, 16, 21, 22] : List Nat)) j z))).trans (hfb j hj), trivial⟩) (hP) (hD) hS
                      · have c_69 : ¬ (2 ^ (min 7 n)) ≤ k2 := fun h => c_69 ((nI_leI (a := 2 ^ (min 7 n)) (b := k2) (by omega) (by omega)).mpr h)
                        refine lv_aload_n hx hb dX0_bestHeat_103 rfl (lv_at hl 0 rfl) ?_
                        refine va_get (D := (dC, dI)) (ci := 0) (v := .ref (h 22)) (C := RX0) (T := TX0) (N := 11) hx hb hts hin_X0 hown hK hP 2 rfl rfl 10 (by decide) hw7 (fun _ h9 => h9) rfl dX0_bestHeat_104 ?_
                        refine lv_iload hx hb dX0_bestHeat_107 (lv_at hl 5 rfl) ?_
                        refine va_zald hx hb hK hP 22 1 rfl rfl (vp_in_nI (n := k2) (N := 128) (by omega) (by decide)) dX0_bestHeat_109 ?_
                        refine lv_topi (fun x_70 ex_70 => ?_)
                        rw [nI_clamp (n := k2) (by omega)] at ex_70
                        refine lv_if_eq (tgt := 127) hx hb dX0_bestHeat_110 (by decide) (fun c_71 => ?_) (fun c_71 => ?_)
                        · have c_71 : eqI x_70 0 = true := decide_eq_true c_71
                          refine lv_iinc (v := nI (k2 + 1)) (lv' := [(5, .int (nI (k2 + 1))), (0, .ref (h 2)), (1, .int (nI k0)), (2, .int (nI (min 7 n))), (3, .int (nI (2 ^ (min 7 n)))), (4, .int x)]) hx hb dX0_bestHeat_127 hl (k := 5) rfl (nI_1 _) (by decide) rfl (fun ls hl => ?_)
                          refine lv_goto (tgt := 97) hx hb dX0_bestHeat_130 (by decide) ?_
                          exact ih97 x (k2 + 1) (by omega) (by omega) H locs ls hP hD hS (lv_sub hl [1, 2, 3, 4, 5, 0] rfl)
                        · have c_71 : eqI x_70 0 = false := decide_eq_false c_71
                          refine lv_iload hx hb dX0_bestHeat_113 (lv_at hl 4 rfl) ?_
                          refine lv_aload_n hx hb dX0_bestHeat_115 rfl (lv_at hl 0 rfl) ?_
                          refine va_get (D := (dC, dI)) (ci := 0) (v := .ref (h 21)) (C := RX0) (T := TX0) (N := 11) hx hb hts hin_X0 hown hK hP 2 rfl rfl 9 (by decide) hw8 (fun _ h9 => h9) rfl dX0_bestHeat_116 ?_
                          refine lv_iload hx hb dX0_bestHeat_119 (lv_at hl 5 rfl) ?_
                          refine va_iald hx hb hK hP 21 0 rfl rfl (vp_in_nI (n := k2) (N := 128) (by omega) (by decide)) dX0_bestHeat_121 ?_
                          refine lv_topi (fun x_72 ex_72 => ?_)
                          rw [nI_clamp (n := k2) (by omega)] at ex_72
                          refine va_mmax hx hb (hml.trans hl.1.symm) hown hw9 hw10 hw4 hw11 (Nat.le_of_ble_eq_true rfl) (Nat.le_of_ble_eq_true rfl) (Nat.le_of_ble_eq_true rfl) (Nat.le_of_ble_eq_true rfl) dX0_bestHeat_122 ?_
                          refine lv_topi (fun x_73 ex_73 => ?_)
                          refine lv_istore (lv' := [(4, .int x_73), (0, .ref (h 2)), (1, .int (nI k0)), (2, .int (nI (min 7 n))), (3, .int (nI (2 ^ (min 7 n)))), (5, .int (nI k2))]) hx hb dX0_bestHeat_125 hl (by decide) rfl (fun ls hl => ?_)
                          refine lv_iinc (v := nI (k2 + 1)) (lv' := [(5, .int (nI (k2 + 1))), (4, .int x_73), (0, .ref (h 2)), (1, .int (nI k0)), (2, .int (nI (min 7 n))), (3, .int (nI (2 ^ (min 7 n))))]) hx hb dX0_bestHeat_127 hl (k := 5) rfl (nI_1 _) (by decide) rfl (fun ls hl => ?_)
                          refine lv_goto (tgt := 97) hx hb dX0_bestHeat_130 (by decide) ?_
                          exact ih97 x_73 (k2 + 1) (by omega) (by omega) H locs ls hP hD hS (lv_sub hl [2, 3, 4, 5, 1, 0] rfl)
                  exact loop97 _ 0 0 (Nat.zero_le _) (Nat.lt_succ_self _) H locs ls hP hD hS (lv_sub hl [2, 3, 4, 5, 1, 0] rfl)
                · exact absurd c_68 (by decide)
      · have c_39 : ¬ (2 ^ (min 7 n)) ≤ k := fun h => c_39 ((nI_leI (a := 2 ^ (min 7 n)) (b := k) (by omega) (by omega)).mpr h)
        refine lv_aload_n hx hb dX0_bestHeat_41 rfl (lv_at hl 0 rfl) ?_
        refine va_get (D := (dC, dI)) (ci := 0) (v := .ref (h 22)) (C := RX0) (T := TX0) (N := 11) hx hb hts hin_X0 hown hK hP 2 rfl rfl 10 (by decide) hw7 (fun _ h9 => h9) rfl dX0_bestHeat_42 ?_
        refine lv_iload hx hb dX0_bestHeat_45 (lv_at hl 4 rfl) ?_
        refine lv_iload hx hb dX0_bestHeat_47 (lv_at hl 4 rfl) ?_
        refine lv_if_ne (tgt := 56) hx hb dX0_bestHeat_49 (by decide) (fun c_74 => ?_) (fun c_74 => ?_)
        · have c_74 : ¬ k = 0 := fun h => c_74 ((nI_eq (a := k) (b := 0) (by omega) (by omega)).mpr h)
          refine lv_iconst (v := 0) hx hb dX0_bestHeat_56 (by decide) ?_
          refine va_zast hx hb hK hP hD hS 22 1 rfl rfl (vp_in_nI (n := k) (N := 128) (by omega) (by decide)) dX0_bestHeat_57 (fun H locs hP hD hS => ?_)
          obtain ⟨F_75, eF_75⟩ : ∃ z : Nat → Nat → Int32, z = va_up F1 22 (upd (F1 22) (nI k).toNatClampNeg (vp_nar .boolean 0)) := ⟨_, rfl⟩
          have hP : va_P (dC, dI) vwCl (wC cI cZ h F_75 V) H := by rw [eF_75]; exact hP
          have hD : va_D A (wC cI cZ h F_75 V) := by rw [eF_75]; exact hD
          have hE_76 : F_75 22 k = 0 := by rw [eF_75]; show upd _ (nI k).toNatClampNeg _ _ = _; rw [nI_clamp (by omega)]; exact pk_us.trans (by decide)
          refine lv_iinc (v := nI (k + 1)) (lv' := [(4, .int (nI (k + 1))), (0, .ref (h 2)), (1, .int (nI k0)), (2, .int (nI (min 7 n))), (3, .int (nI (2 ^ (min 7 n))))]) hx hb dX0_bestHeat_58 hl (k := 4) rfl (nI_1 _) (by decide) rfl (fun ls hl => ?_)
          refine lv_goto (tgt := 35) hx hb dX0_bestHeat_61 (by decide) ?_
          exact ih35 (k + 1) F_75 (by omega) (fun j hj => ((va_ne eF_75 (fun h => hj (by rw [h]; decide))).trans (hfr j hj))) (by omega) H locs ls hP hD hS (lv_sub hl [1, 2, 3, 4, 0] rfl)
        · have c_74 : k = 0 := (nI_eq (a := k) (b := 0) (by omega) (by omega)).mp c_74
          refine lv_iconst (v := 1) hx hb dX0_bestHeat_52 (by decide) ?_
          refine lv_goto (tgt := 57) hx hb dX0_bestHeat_53 (by decide) ?_
          refine va_zast hx hb hK hP hD hS 22 1 rfl rfl (vp_in_nI (n := k) (N := 128) (by omega) (by decide)) dX0_bestHeat_57 (fun H locs hP hD hS => ?_)
          obtain ⟨F_77, eF_77⟩ : ∃ z : Nat → Nat → Int32, z = va_up F1 22 (upd (F1 22) (nI k).toNatClampNeg (vp_nar .boolean 1)) := ⟨_, rfl⟩
          have hP : va_P (dC, dI) vwCl (wC cI cZ h F_77 V) H := by rw [eF_77]; exact hP
          have hD : va_D A (wC cI cZ h F_77 V) := by rw [eF_77]; exact hD
          have hE_78 : F_77 22 k = 1 := by rw [eF_77]; show upd _ (nI k).toNatClampNeg _ _ = _; rw [nI_clamp (by omega)]; exact pk_us.trans (by decide)
          refine lv_iinc (v := nI (k + 1)) (lv' := [(4, .int (nI (k + 1))), (0, .ref (h 2)), (1, .int (nI k0)), (2, .int (nI (min 7 n))), (3, .int (nI (2 ^ (min 7 n))))]) hx hb dX0_bestHeat_58 hl (k := 4) rfl (nI_1 _) (by decide) rfl (fun ls hl => ?_)
          refine lv_goto (tgt := 35) hx hb dX0_bestHeat_61 (by decide) ?_
          exact ih35 (k + 1) F_77 (by omega) (fun j hj => ((va_ne eF_77 (fun h => hj (by rw [h]; decide))).trans (hfr j hj))) (by omega) H locs ls hP hD hS (lv_sub hl [1, 2, 3, 4, 0] rfl)
  exact loop35 _ 0 F_32 (Nat.zero_le _) (fun _ _ => rfl) (Nat.lt_succ_self _) H locs ls hP hD hS (lv_sub hl [3, 4, 2, 1, 0] rfl)
