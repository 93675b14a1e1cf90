def rm_X0_addUpSets : Room := { frames := 0, cells := 0, slots := 0, locals := 0 }
set_option maxHeartbeats 4000000 in
set_option maxRecDepth 100000 in
theorem c_X0_addUpSets (l : Launch) (dC : Nat → ClassId) (dI : Nat → Nat → Nat) (cI cZ cJ : ClassId) (h : Nat → Nat) (F : Nat → Nat → Int32) (V : Nat → Int32) (n : Nat) (hV1 : V 1 = nI n) (bV1 : n ≤ 40) (Pw : Nat → Nat) (hPw : ∀ i, i < n → F 16 i = nI (Pw i)) (bPw : ∀ i, i < n → Pw i ≤ 100) (Ow : Nat → Nat) (hOw : ∀ i, i < n → F 15 i = nI (Ow i)) (bOw : ∀ i, i < n → Ow i ≤ n - 1) (f0 : Nat) (hf0 : f0 ≤ 7) (hf1 : f0 ≤ n)   : CtV l (dC, dI) vwCl (tys3 cI cZ cJ) yX0_addUpSets wsX0_addUpSets rm_X0_addUpSets [.ref (h 2), .int (nI f0)] (wC cI cZ h F V) (S := Nat → Nat → Int32) (fun u => (∀ j, j ∉ ([21] : List Nat) → u j = F j) ∧ (∀ S, S < 2 ^ f0 → u 21 S = nI (spS (fun i => Pw (Ow i)) f0 S))) (fun u => wC cI cZ h u V) 0 0 := by
  refine ct_V (cc := cX0_addUpSets) (maxL := 5) (own := RX0) (by decide) rfl rfl (Nat.le_of_ble_eq_true rfl) (lv := [(0, .ref (h 2)), (1, .int (nI f0))]) rfl ?_
  intro p e s m args below meth c A Q ls hnm fx hK hP hD hA hl hret
  obtain ⟨hx, hb, hml, hown, hts⟩ := id fx
  have hS : va_S A s.heap s.heap [] := va_S.rf
  have hw0 := hts (.fieldLink RX0 43 "MirrorTower$Face" "setPowers" "[I") (by decide +kernel)
  have hin_X0 : ∀ w ∈ u_ws RX0 TX0 11, w ∈ wsX0_addUpSets := by decide +kernel
  have hw2 := hts (.fieldLink RX0 28 "MirrorTower$Face" "powers" "[I") (by decide +kernel)
  have hw3 := hts (.fieldLink RX0 25 "MirrorTower$Face" "order" "[I") (by decide +kernel)
  obtain ⟨H, hH⟩ : ∃ H, H = s.heap := ⟨_, rfl⟩
  rw [← hH] at hP ⊢
  have hS : va_S A s.heap H [] := by rw [hH]; exact hS
  generalize ([] : List Loc) = locs at hS ⊢
  refine lv_aload_n hx hb dX0_addUpSets_0 rfl (lv_at hl 0 rfl) ?_
  refine va_get (D := (dC, dI)) (ci := 0) (v := .ref (h 21)) (C := RX0) (T := TX0) (N := 11) hx hb hts hin_X0 hown hK hP 2 rfl rfl 9 (by decide) hw0 (fun _ h9 => h9) rfl dX0_addUpSets_1 ?_
  refine lv_iconst (v := 0) hx hb dX0_addUpSets_4 (by decide) ?_
  refine lv_iconst (v := 0) hx hb dX0_addUpSets_5 (by decide) ?_
  refine va_iast hx hb hK hP hD hS 21 0 rfl rfl (vp_in_nI (n := 0) (N := 128) (by decide) (by decide)) dX0_addUpSets_6 (fun H locs hP hD hS => ?_)
  obtain ⟨F_1, eF_1⟩ : ∃ z : Nat → Nat → Int32, z = va_up F 21 (upd (F 21) (0 : Int32).toNatClampNeg 0) := ⟨_, rfl⟩
  have hP : va_P (dC, dI) vwCl (wC cI cZ h F_1 V) H := by rw [eF_1]; exact hP
  have hD : va_D A (wC cI cZ h F_1 V) := by rw [eF_1]; exact hD
  have hN_2 : ∀ i, i < n → F_1 16 i = nI (Pw i) := by rw [eF_1]; exact hPw
  have hN_3 : ∀ i, i < n → F_1 15 i = nI (Ow i) := by rw [eF_1]; exact hOw
  have hE_4 : F_1 21 0 = 0 := by rw [eF_1]; rfl
  refine lv_iconst (v := 0) hx hb dX0_addUpSets_7 (by decide) ?_
  refine lv_istore_n (lv' := [(2, .int 0), (0, .ref (h 2)), (1, .int (nI f0))]) hx hb dX0_addUpSets_8 rfl hl (by decide) rfl (fun ls hl => ?_)
  have loop9 : ∀ (fu : Nat) (t : Nat) (F1 : Nat → Nat → Int32), (t ≤ f0) → (∀ S, S < 2 ^ t → F1 21 S = nI (spS (fun i => Pw (Ow i)) t S)) → (∀ j, j ∉ ([21] : List Nat) → F1 j = F j) → (f0 - t) < fu → ∀ (H : Heap) (locs : List Loc) (ls : Array Slot), va_P (dC, dI) vwCl (wC cI cZ h F1 V) H → va_D A (wC cI cZ h F1 V) → va_S A s.heap H locs → lv_has ls 5 [(0, .ref (h 2)), (1, .int (nI f0)), (2, .int (nI t))] → W p l e rm_X0_addUpSets s m args below meth c H locs 0 0 Q (F0 m 9 ls []) := by
    intro fu
    induction fu with
    | zero => intro t F1 ht hSu hfr hn_; exact absurd hn_ (Nat.not_lt_zero _)
    | succ fu ih9 =>
      intro t F1 ht hSu hfr hn_ H locs ls hP hD hS hl
      have hN_5 : ∀ i, i < n → F1 16 i = nI (Pw i) := by rw [hfr 16 (by decide)]; exact hPw
      have hN_6 : ∀ i, i < n → F1 15 i = nI (Ow i) := by rw [hfr 15 (by decide)]; exact hOw
      refine lv_iload_n hx hb dX0_addUpSets_9 rfl (lv_at hl 2 rfl) ?_
      refine lv_iload_n hx hb dX0_addUpSets_10 rfl (lv_at hl 1 rfl) ?_
      refine lv_icmp_ge (tgt := 67) hx hb dX0_addUpSets_11 (by decide) (fun c_7 => ?_) (fun c_7 => ?_)
      · have c_7 : f0 ≤ t := (nI_leI (a := f0) (b := t) (by omega) (by omega)).mp c_7
        exact hret F1 H locs 67 ls dX0_addUpSets_67 (by
                    have e_ : t = f0 := by omega
                    rw [e_] at hSu
                    exact ⟨hfr, hSu⟩) (hP) (hD) hS
      · have c_7 : ¬ f0 ≤ t := fun h => c_7 ((nI_leI (a := f0) (b := t) (by omega) (by omega)).mpr h)
        refine lv_iconst (v := 1) hx hb dX0_addUpSets_14 (by decide) ?_
        refine lv_iload_n hx hb dX0_addUpSets_15 rfl (lv_at hl 2 rfl) ?_
        have hp2 : 2 ^ t ≤ 2 ^ 6 := Nat.pow_le_pow_right (by omega) (by omega)
        refine lv_ishl hx hb dX0_addUpSets_16 ?_
        refine lv_topi (fun x_8 ex_8 => ?_)
        obtain rfl : x_8 = nI (2 ^ t) := ex_8.trans (shl1 (by omega))
        refine lv_istore_n (lv' := [(3, .int (nI (2 ^ t))), (0, .ref (h 2)), (1, .int (nI f0)), (2, .int (nI t))]) hx hb dX0_addUpSets_17 rfl hl (by decide) rfl (fun ls hl => ?_)
        refine lv_iconst (v := 0) hx hb dX0_addUpSets_18 (by decide) ?_
        refine lv_istore (lv' := [(4, .int 0), (3, .int (nI (2 ^ t))), (0, .ref (h 2)), (1, .int (nI f0)), (2, .int (nI t))]) hx hb dX0_addUpSets_19 hl (by decide) rfl (fun ls hl => ?_)
        have loop21 : ∀ (fu : Nat) (q : Nat) (F2 : Nat → Nat → Int32), (q ≤ 2 ^ t) → (∀ S, S < 2 ^ t → F2 21 S = nI (spS (fun i => Pw (Ow i)) t S)) → (∀ S, S < q → F2 21 (S + 2 ^ t) = nI (spS (fun i => Pw (Ow i)) (t + 1) (S + 2 ^ t))) → (∀ j, j ∉ ([21] : List Nat) → F2 j = F j) → (2 ^ t - q) < fu → ∀ (H : Heap) (locs : List Loc) (ls : Array Slot), va_P (dC, dI) vwCl (wC cI cZ h F2 V) H → va_D A (wC cI cZ h F2 V) → va_S A s.heap H locs → lv_has ls 5 [(0, .ref (h 2)), (1, .int (nI f0)), (2, .int (nI t)), (3, .int (nI (2 ^ t))), (4, .int (nI q))] → W p l e rm_X0_addUpSets s m args below meth c H locs 0 0 Q (F0 m 21 ls []) := by
          intro fu
          induction fu with
          | zero => intro q F2 hq hS2 hS3 hfr2 hn_; exact absurd hn_ (Nat.not_lt_zero _)
          | succ fu ih21 =>
            intro q F2 hq hS2 hS3 hfr2 hn_ H locs ls hP hD hS hl
            have hN_9 : ∀ i, i < n → F2 16 i = nI (Pw i) := by rw [hfr2 16 (by decide)]; exact hPw
            have hN_10 : ∀ i, i < n → F2 15 i = nI (Ow i) := by rw [hfr2 15 (by decide)]; exact hOw
            have hvb_ : ∀ i, i < t → (fun i => Pw (Ow i)) i ≤ 100 := fun i hi => bPw _ (by have := bOw i (by omega); omega)
            refine lv_iload hx hb dX0_addUpSets_21 (lv_at hl 4 rfl) ?_
            refine lv_iload_n hx hb dX0_addUpSets_23 rfl (lv_at hl 3 rfl) ?_
            refine lv_icmp_ge (tgt := 61) hx hb dX0_addUpSets_24 (by decide) (fun c_11 => ?_) (fun c_11 => ?_)
            · have c_11 : (2 ^ t) ≤ q := (nI_leI (a := 2 ^ t) (b := q) (by omega) (by omega)).mp c_11
              refine lv_iinc (v := nI (t + 1)) (lv' := [(2, .int (nI (t + 1))), (0, .ref (h 2)), (1, .int (nI f0)), (3, .int (nI (2 ^ t))), (4, .int (nI q))]) hx hb dX0_addUpSets_61 hl (k := 2) rfl (nI_1 _) (by decide) rfl (fun ls hl => ?_)
              refine lv_goto (tgt := 9) hx hb dX0_addUpSets_64 (by decide) ?_
              exact ih9 (t + 1) F2 (by omega) (fun S hS_ => by
                by_cases z : S < 2 ^ t
                · rw [spS_lo z]; exact hS2 S z
                · have y := hS3 (S - 2 ^ t) (by rw [Nat.pow_succ] at hS_; omega)
                  rw [Nat.sub_add_cancel (by omega)] at y; exact y) (fun j hj => (hfr2 j hj)) (by omega) H locs ls hP hD hS (lv_sub hl [1, 2, 0] rfl)
            · have c_11 : ¬ (2 ^ t) ≤ q := fun h => c_11 ((nI_leI (a := 2 ^ t) (b := q) (by omega) (by omega)).mpr h)
              refine lv_aload_n hx hb dX0_addUpSets_27 rfl (lv_at hl 0 rfl) ?_
              refine va_get (D := (dC, dI)) (ci := 0) (v := .ref (h 21)) (C := RX0) (T := TX0) (N := 11) hx hb hts hin_X0 hown hK hP 2 rfl rfl 9 (by decide) hw0 (fun _ h9 => h9) rfl dX0_addUpSets_28 ?_
              refine lv_iload hx hb dX0_addUpSets_31 (lv_at hl 4 rfl) ?_
              refine lv_iload_n hx hb dX0_addUpSets_33 rfl (lv_at hl 3 rfl) ?_
              refine lv_ior hx hb dX0_addUpSets_34 ?_
              refine lv_topi (fun x_12 ex_12 => ?_)
              obtain rfl : x_12 = nI (q + (2 ^ t)) := ex_12.trans (or_add (by omega))
              refine lv_aload_n hx hb dX0_addUpSets_35 rfl (lv_at hl 0 rfl) ?_
              refine va_get (D := (dC, dI)) (ci := 0) (v := .ref (h 21)) (C := RX0) (T := TX0) (N := 11) hx hb hts hin_X0 hown hK hP 2 rfl rfl 9 (by decide) hw0 (fun _ h9 => h9) rfl dX0_addUpSets_36 ?_
              refine lv_iload hx hb dX0_addUpSets_39 (lv_at hl 4 rfl) ?_
              refine va_iald hx hb hK hP 21 0 rfl rfl (vp_in_nI (n := q) (N := 128) (by omega) (by decide)) dX0_addUpSets_41 ?_
              have hb_13 : spS (fun i => Pw (Ow i)) t q ≤ 7 * 100 := Nat.le_trans (spS_le hvb_) (Nat.mul_le_mul_right 100 (by omega))
              refine lv_topi (fun x_14 ex_14 => ?_)
              obtain rfl : x_14 = nI (spS (fun i => Pw (Ow i)) t q) := ex_14.trans ((congrArg (F2 21) (nI_clamp (n := q) (by omega))).trans (hS2 q (by omega)))
              refine lv_aload_n hx hb dX0_addUpSets_42 rfl (lv_at hl 0 rfl) ?_
              refine va_get (D := (dC, dI)) (ci := 0) (v := .ref (h 16)) (C := RX0) (T := TX0) (N := 11) hx hb hts hin_X0 hown hK hP 2 rfl rfl 3 (by decide) hw2 (fun _ h9 => h9) rfl dX0_addUpSets_43 ?_
              refine lv_aload_n hx hb dX0_addUpSets_46 rfl (lv_at hl 0 rfl) ?_
              refine va_get (D := (dC, dI)) (ci := 0) (v := .ref (h 15)) (C := RX0) (T := TX0) (N := 11) hx hb hts hin_X0 hown hK hP 2 rfl rfl 2 (by decide) hw3 (fun _ h9 => h9) rfl dX0_addUpSets_47 ?_
              refine lv_iload_n hx hb dX0_addUpSets_50 rfl (lv_at hl 2 rfl) ?_
              refine va_iald hx hb hK hP 15 0 rfl rfl (vp_in_nI (n := t) (N := 40) (by omega) (by decide)) dX0_addUpSets_51 ?_
              have hb_15 := bOw t (by omega)
              refine lv_topi (fun x_16 ex_16 => ?_)
              obtain rfl : x_16 = nI (Ow t) := ex_16.trans ((congrArg (F2 15) (nI_clamp (n := t) (by omega))).trans (hN_10 t (by omega)))
              refine va_iald hx hb hK hP 16 0 rfl rfl (vp_in_nI (n := Ow t) (N := 40) (by omega) (by decide)) dX0_addUpSets_52 ?_
              have hb_17 := bPw (Ow t) (by omega)
              refine lv_topi (fun x_18 ex_18 => ?_)
              obtain rfl : x_18 = nI (Pw (Ow t)) := ex_18.trans ((congrArg (F2 16) (nI_clamp (n := Ow t) (by omega))).trans (hN_9 (Ow t) (by omega)))
              refine lv_iadd hx hb dX0_addUpSets_53 ?_
              refine lv_topi (fun x_19 ex_19 => ?_)
              obtain rfl : x_19 = nI ((spS (fun i => Pw (Ow i)) t q) + (Pw (Ow t))) := ex_19.trans (nI_add (spS (fun i => Pw (Ow i)) t q) (Pw (Ow t)))
              refine va_iast hx hb hK hP hD hS 21 0 rfl rfl (vp_in_nI (n := q + (2 ^ t)) (N := 128) (by omega) (by decide)) dX0_addUpSets_54 (fun H locs hP hD hS => ?_)
              obtain ⟨F_20, eF_20⟩ : ∃ z : Nat → Nat → Int32, z = va_up F2 21 (upd (F2 21) (nI (q + (2 ^ t))).toNatClampNeg (nI ((spS (fun i => Pw (Ow i)) t q) + (Pw (Ow t))))) := ⟨_, rfl⟩
              have hP : va_P (dC, dI) vwCl (wC cI cZ h F_20 V) H := by rw [eF_20]; exact hP
              have hD : va_D A (wC cI cZ h F_20 V) := by rw [eF_20]; exact hD
              have hN_21 : ∀ i, i < n → F_20 16 i = nI (Pw i) := by rw [eF_20]; exact hN_9
              have hN_22 : ∀ i, i < n → F_20 15 i = nI (Ow i) := by rw [eF_20]; exact hN_10
              refine lv_iinc (v := nI (q + 1)) (lv' := [(4, .int (nI (q + 1))), (0, .ref (h 2)), (1, .int (nI f0)), (2, .int (nI t)), (3, .int (nI (2 ^ t)))]) hx hb dX0_addUpSets_55 hl (k := 4) rfl (nI_1 _) (by decide) rfl (fun ls hl => ?_)
              refine lv_goto (tgt := 21) hx hb dX0_addUpSets_58 (by decide) ?_
              exact ih21 (q + 1) F_20 (by omega) (fun S hS_ => by
                rw [eF_20]
                show upd (F2 21) (nI (q + 2 ^ t)).toNatClampNeg _ S = _
                rw [nI_clamp (by omega), pk_un (by omega)]; exact hS2 S hS_) (fun S hS_ => by
                rw [eF_20]
                show upd (F2 21) (nI (q + 2 ^ t)).toNatClampNeg _ (S + 2 ^ t) = _
                rw [nI_clamp (by omega)]
                by_cases z : S = q
                · rw [z]; exact pk_us.trans (congrArg nI (spS_hi (v := (fun i => Pw (Ow i))) (show q < 2 ^ t by omega)).symm)
                · rw [pk_un (by omega)]; exact hS3 S (by omega)) (fun j hj => ((va_ne eF_20 (fun h => hj (by rw [h]; decide))).trans (hfr2 j hj))) (by omega) H locs ls hP hD hS (lv_sub hl [1, 2, 3, 4, 0] rfl)
        exact loop21 _ 0 F1 (Nat.zero_le _) hSu (fun S h => absurd h (Nat.not_lt_zero S)) hfr (Nat.lt_succ_self _) H locs ls hP hD hS (lv_sub hl [2, 3, 4, 1, 0] rfl)
  exact loop9 _ 0 F_1 (by omega) (fun S hS_ => by
    have y : (2 : Nat) ^ 0 = 1 := rfl
    have z : S = 0 := by omega
    rw [z]; exact hE_4) (fun j hj => (va_ne eF_1 (fun h => hj (by rw [h]; decide)))) (Nat.lt_succ_self _) H locs ls hP hD hS (lv_sub hl [1, 2, 0] rfl)
def rm_X0_widen : Room := { frames := 0, cells := 0, slots := 0, locals := 0 }
set_option maxHeartbeats 4000000 in
set_option maxRecDepth 100000 in
theorem c_X0_widen (l : Launch) (dC : Nat → ClassId) (dI : Nat → Nat → Nat) (cI cZ cJ : ClassId) (h : Nat → Nat) (F : Nat → Nat → Int32) (V : Nat → Int32)  (s0 l0 : Nat) (hs0 : 1 ≤ s0) (hs1 : s0 ≤ 128) (hl0 : l0 ≤ 10000)  (v : Nat → Nat) (f : Nat) (g : Nat → Bool) (hvb : ∀ i, i < f → v i ≤ 100) (hf7 : f ≤ 7) (hSP : ∀ S, S < s0 → F 21 S = nI (spS v f S)) (hFI : ∀ S, S < s0 → F 22 S = bI (g S)) : CtV l (dC, dI) vwCl (tys3 cI cZ cJ) yX0_widen wsX0_widen rm_X0_widen [.ref (h 2), .int (nI s0), .int (nI l0)] (wC cI cZ h F V) (S := Nat → Nat → Int32) (fun u => (∀ j, j ∉ ([22] : List Nat) → u j = F j) ∧ (∀ S, S < s0 → u 22 S = bI (wdn v f l0 g S))) (fun u => wC cI cZ h u V) 0 0 := by
  refine ct_V (cc := cX0_widen) (maxL := 5) (own := RX0) (by decide) rfl rfl (Nat.le_of_ble_eq_true rfl) (lv := [(0, .ref (h 2)), (1, .int (nI s0)), (2, .int (nI l0))]) rfl ?_
  intro p e s m args below meth c A Q ls hnm fx hK hP hD hA hl hret
  obtain ⟨hx, hb, hml, hown, hts⟩ := id fx
  have hS : va_S A s.heap s.heap [] := va_S.rf
  have hw0 := hts (.fieldLink RX0 46 "MirrorTower$Face" "fits" "[Z") (by decide +kernel)
  have hin_X0 : ∀ w ∈ u_ws RX0 TX0 11, w ∈ wsX0_widen := by decide +kernel
  have hw2 := hts (.fieldLink RX0 43 "MirrorTower$Face" "setPowers" "[I") (by decide +kernel)
  obtain ⟨H, hH⟩ : ∃ H, H = s.heap := ⟨_, rfl⟩
  rw [← hH] at hP ⊢
  have hS : va_S A s.heap H [] := by rw [hH]; exact hS
  generalize ([] : List Loc) = locs at hS ⊢
  refine lv_iload_n hx hb dX0_widen_0 rfl (lv_at hl 1 rfl) ?_
  refine lv_iconst (v := 1) hx hb dX0_widen_1 (by decide) ?_
  refine lv_isub hx hb dX0_widen_2 ?_
  refine lv_topi (fun x_1 ex_1 => ?_)
  obtain rfl : x_1 = nI (s0 - 1) := ex_1.trans (pk_sub (a := s0) (b := 1) (by omega))
  refine lv_istore_n (lv' := [(3, .int (nI (s0 - 1))), (0, .ref (h 2)), (1, .int (nI s0)), (2, .int (nI l0))]) hx hb dX0_widen_3 rfl hl (by decide) rfl (fun ls hl => ?_)
  have loop4 : ∀ (fu : Nat) (zz : Nat) (F1 : Nat → Nat → Int32), (zz < s0) → (∀ S, S < s0 → F1 22 S = bI (if zz < S then wdn v f l0 g S else g S)) → (∀ j, j ∉ ([22] : List Nat) → F1 j = F j) → (zz) < fu → ∀ (H : Heap) (locs : List Loc) (ls : Array Slot), va_P (dC, dI) vwCl (wC cI cZ h F1 V) H → va_D A (wC cI cZ h F1 V) → va_S A s.heap H locs → lv_has ls 5 [(0, .ref (h 2)), (1, .int (nI s0)), (2, .int (nI l0)), (3, .int (nI zz))] → W p l e rm_X0_widen s m args below meth c H locs 0 0 Q (F0 m 4 ls []) := by
    intro fu
    induction fu with
    | zero => intro zz F1 hz hW hfr hn_; exact absurd hn_ (Nat.not_lt_zero _)
    | succ fu ih4 =>
      intro zz F1 hz hW hfr hn_ H locs ls hP hD hS hl
      refine lv_iload_n hx hb dX0_widen_4 rfl (lv_at hl 3 rfl) ?_
      refine lv_if_le (tgt := 76) hx hb dX0_widen_5 (by decide) (fun c_2 => ?_) (fun c_2 => ?_)
      · have c_2 : zz ≤ 0 := (nI_leI (a := zz) (b := 0) (by omega) (by omega)).mp c_2
        exact hret F1 H locs 76 ls dX0_widen_76 (⟨hfr, fun S hS_ => by
                    rw [hW S hS_]
                    by_cases z : zz < S
                    · rw [if_pos z]
                    · rw [if_neg z, show S = 0 by omega, wdn_00]⟩) (hP) (hD) hS
      · have c_2 : ¬ zz ≤ 0 := fun h => c_2 ((nI_leI (a := zz) (b := 0) (by omega) (by omega)).mpr h)
        refine lv_iload_n hx hb dX0_widen_8 rfl (lv_at hl 3 rfl) ?_
        refine lv_istore (lv' := [(4, .int (nI zz)), (0, .ref (h 2)), (1, .int (nI s0)), (2, .int (nI l0)), (3, .int (nI zz))]) hx hb dX0_widen_9 hl (by decide) rfl (fun ls hl => ?_)
        have loop11 : ∀ (fu : Nat) (q : Nat) (F2 : Nat → Nat → Int32), (q ≤ zz) → (q &&& zz = q) → (∀ S, S < s0 → S ≠ zz → F2 22 S = bI (if zz < S then wdn v f l0 g S else g S)) → ((F2 22 zz = 1 ∧ wdn v f l0 g zz = true) ∨ (F2 22 zz = 0 ∧ g zz = false ∧ ∀ t, t &&& zz = t → q < t → ¬ (spS v f t ≤ l0 ∧ g (zz ^^^ t) = true))) → (∀ j, j ∉ ([22] : List Nat) → F2 j = F j) → (q) < fu → ∀ (H : Heap) (locs : List Loc) (ls : Array Slot), va_P (dC, dI) vwCl (wC cI cZ h F2 V) H → va_D A (wC cI cZ h F2 V) → va_S A s.heap H locs → lv_has ls 5 [(0, .ref (h 2)), (1, .int (nI s0)), (2, .int (nI l0)), (3, .int (nI zz)), (4, .int (nI q))] → W p l e rm_X0_widen s m args below meth c H locs 0 0 Q (F0 m 11 ls []) := by
          intro fu
          induction fu with
          | zero => intro q F2 hq hqz h22 hzz hfr2 hn_; exact absurd hn_ (Nat.not_lt_zero _)
          | succ fu ih11 =>
            intro q F2 hq hqz h22 hzz hfr2 hn_ H locs ls hP hD hS hl
            rcases hzz with ⟨hE1_, hw1_⟩ | ⟨hE0_, hg0_, hno_⟩
            · refine lv_iload hx hb dX0_widen_11 (lv_at hl 4 rfl) ?_
              refine lv_if_le (tgt := 70) hx hb dX0_widen_13 (by decide) (fun c_3 => ?_) (fun c_3 => ?_)
              · have c_3 : q ≤ 0 := (nI_leI (a := q) (b := 0) (by omega) (by omega)).mp c_3
                refine lv_iinc (v := nI (zz - 1)) (lv' := [(3, .int (nI (zz - 1))), (0, .ref (h 2)), (1, .int (nI s0)), (2, .int (nI l0)), (4, .int (nI q))]) hx hb dX0_widen_70 hl (k := 3) rfl (dec_nI (by omega)) (by decide) rfl (fun ls hl => ?_)
                refine lv_goto (tgt := 4) hx hb dX0_widen_73 (by decide) ?_
                exact ih4 (zz - 1) F2 (by omega) (fun S hS_ => by
                  by_cases z : S = zz
                  · rw [z, if_pos (by omega), hw1_]; exact hE1_
                  · rw [h22 S hS_ z]
                    by_cases y : zz < S
                    · rw [if_pos y, if_pos (by omega)]
                    · rw [if_neg y, if_neg (by omega)]) (fun j hj => (hfr2 j hj)) (by omega) H locs ls hP hD hS (lv_sub hl [1, 2, 3, 0] rfl)
              · have c_3 : ¬ q ≤ 0 := fun h => c_3 ((nI_leI (a := q) (b := 0) (by omega) (by omega)).mpr h)
                refine lv_aload_n hx hb dX0_widen_16 rfl (lv_at hl 0 rfl) ?_
                refine va_get (D := (dC, dI)) (ci := 0) (v := .ref (h 22)) (C := RX0) (T := TX0) (N := 11) hx hb hts hin_X0 hown hK hP 2 rfl rfl 10 (by decide) hw0 (fun _ h9 => h9) rfl dX0_widen_17 ?_
                refine lv_iload_n hx hb dX0_widen_20 rfl (lv_at hl 3 rfl) ?_
                refine va_zald hx hb hK hP 22 1 rfl rfl (vp_in_nI (n := zz) (N := 128) (by omega) (by decide)) dX0_widen_21 ?_
                refine lv_topi (fun x_4 ex_4 => ?_)
                obtain rfl : x_4 = 1 := ex_4.trans ((congrArg (F2 22) (nI_clamp (n := zz) (by omega))).trans hE1_)
                refine lv_if_ne (tgt := 70) hx hb dX0_widen_22 (by decide) (fun c_5 => ?_) (fun c_5 => ?_)
                · refine lv_iinc (v := nI (zz - 1)) (lv' := [(3, .int (nI (zz - 1))), (0, .ref (h 2)), (1, .int (nI s0)), (2, .int (nI l0)), (4, .int (nI q))]) hx hb dX0_widen_70 hl (k := 3) rfl (dec_nI (by omega)) (by decide) rfl (fun ls hl => ?_)
                  refine lv_goto (tgt := 4) hx hb dX0_widen_73 (by decide) ?_
                  exact ih4 (zz - 1) F2 (by omega) (fun S hS_ => by
                    by_cases z : S = zz
                    · rw [z, if_pos (by omega), hw1_]; exact hE1_
                    · rw [h22 S hS_ z]
                      by_cases y : zz < S
                      · rw [if_pos y, if_pos (by omega)]
                      · rw [if_neg y, if_neg (by omega)]) (fun j hj => (hfr2 j hj)) (by omega) H locs ls hP hD hS (lv_sub hl [1, 2, 3, 0] rfl)
                · exact absurd c_5 (by decide)
            · refine lv_iload hx hb dX0_widen_11 (lv_at hl 4 rfl) ?_
              refine lv_if_le (tgt := 70) hx hb dX0_widen_13 (by decide) (fun c_6 => ?_) (fun c_6 => ?_)
              · have c_6 : q ≤ 0 := (nI_leI (a := q) (b := 0) (by omega) (by omega)).mp c_6
                refine lv_iinc (v := nI (zz - 1)) (lv' := [(3, .int (nI (zz - 1))), (0, .ref (h 2)), (1, .int (nI s0)), (2, .int (nI l0)), (4, .int (nI q))]) hx hb dX0_widen_70 hl (k := 3) rfl (dec_nI (by omega)) (by decide) rfl (fun ls hl => ?_)
                refine lv_goto (tgt := 4) hx hb dX0_widen_73 (by decide) ?_
                have hw1_ : wdn v f l0 g zz = false := b_nt (fun w_ => by
                  rcases wdn_iff.mp w_ with y | ⟨t, t0, t1, t2, t3⟩
                  · rw [hg0_] at y; exact absurd y (by decide)
                  · exact hno_ t t1 (by omega) ⟨t2, t3⟩)
                exact ih4 (zz - 1) F2 (by omega) (fun S hS_ => by
                  by_cases z : S = zz
                  · rw [z, if_pos (by omega), hw1_]; exact hE0_
                  · rw [h22 S hS_ z]
                    by_cases y : zz < S
                    · rw [if_pos y, if_pos (by omega)]
                    · rw [if_neg y, if_neg (by omega)]) (fun j hj => (hfr2 j hj)) (by omega) H locs ls hP hD hS (lv_sub hl [1, 2, 3, 0] rfl)
              · have c_6 : ¬ q ≤ 0 := fun h => c_6 ((nI_leI (a := q) (b := 0) (by omega) (by omega)).mpr h)
                refine lv_aload_n hx hb dX0_widen_16 rfl (lv_at hl 0 rfl) ?_
                refine va_get (D := (dC, dI)) (ci := 0) (v := .ref (h 22)) (C := RX0) (T := TX0) (N := 11) hx hb hts hin_X0 hown hK hP 2 rfl rfl 10 (by decide) hw0 (fun _ h9 => h9) rfl dX0_widen_17 ?_
                refine lv_iload_n hx hb dX0_widen_20 rfl (lv_at hl 3 rfl) ?_
                refine va_zald hx hb hK hP 22 1 rfl rfl (vp_in_nI (n := zz) (N := 128) (by omega) (by decide)) dX0_widen_21 ?_
                refine lv_topi (fun x_7 ex_7 => ?_)
                obtain rfl : x_7 = 0 := ex_7.trans ((congrArg (F2 22) (nI_clamp (n := zz) (by omega))).trans hE0_)
                refine lv_if_ne (tgt := 70) hx hb dX0_widen_22 (by decide) (fun c_8 => ?_) (fun c_8 => ?_)
                · exact absurd c_8 (by decide)
                · refine lv_aload_n hx hb dX0_widen_25 rfl (lv_at hl 0 rfl) ?_
                  refine va_get (D := (dC, dI)) (ci := 0) (v := .ref (h 22)) (C := RX0) (T := TX0) (N := 11) hx hb hts hin_X0 hown hK hP 2 rfl rfl 10 (by decide) hw0 (fun _ h9 => h9) rfl dX0_widen_26 ?_
                  refine lv_iload_n hx hb dX0_widen_29 rfl (lv_at hl 3 rfl) ?_
                  refine lv_aload_n hx hb dX0_widen_30 rfl (lv_at hl 0 rfl) ?_
                  refine va_get (D := (dC, dI)) (ci := 0) (v := .ref (h 21)) (C := RX0) (T := TX0) (N := 11) hx hb hts hin_X0 hown hK hP 2 rfl rfl 9 (by decide) hw2 (fun _ h9 => h9) rfl dX0_widen_31 ?_
                  refine lv_iload hx hb dX0_widen_34 (lv_at hl 4 rfl) ?_
                  refine va_iald hx hb hK hP 21 0 rfl rfl (vp_in_nI (n := q) (N := 128) (by omega) (by decide)) dX0_widen_36 ?_
                  have hb_9 : spS v f q ≤ 7 * 100 := Nat.le_trans (spS_le hvb) (Nat.mul_le_mul_right 100 hf7)
                  refine lv_topi (fun x_10 ex_10 => ?_)
                  obtain rfl : x_10 = nI (spS v f q) := ex_10.trans ((congrArg (F2 21) (nI_clamp (n := q) (by omega))).trans ((congrFun (hfr2 21 (by decide)) q).trans (hSP q (by omega))))
                  refine lv_iload_n hx hb dX0_widen_37 rfl (lv_at hl 2 rfl) ?_
                  refine lv_icmp_gt (tgt := 57) hx hb dX0_widen_38 (by decide) (fun c_11 => ?_) (fun c_11 => ?_)
                  · have c_11 : l0 < (spS v f q) := (nI_ltI (a := l0) (b := spS v f q) (by omega) (by omega)).mp c_11
                    refine lv_iconst (v := 0) hx hb dX0_widen_57 (by decide) ?_
                    refine va_zast hx hb hK hP hD hS 22 1 rfl rfl (vp_in_nI (n := zz) (N := 128) (by omega) (by decide)) dX0_widen_58 (fun H locs hP hD hS => ?_)
                    obtain ⟨F_12, eF_12⟩ : ∃ z : Nat → Nat → Int32, z = va_up F2 22 (upd (F2 22) (nI zz).toNatClampNeg (vp_nar .boolean 0)) := ⟨_, rfl⟩
                    have hP : va_P (dC, dI) vwCl (wC cI cZ h F_12 V) H := by rw [eF_12]; exact hP
                    have hD : va_D A (wC cI cZ h F_12 V) := by rw [eF_12]; exact hD
                    have hE_13 : F_12 22 zz = 0 := by rw [eF_12]; show upd _ (nI zz).toNatClampNeg _ _ = _; rw [nI_clamp (by omega)]; exact pk_us.trans (by decide)
                    refine lv_iload hx hb dX0_widen_59 (lv_at hl 4 rfl) ?_
                    refine lv_iconst (v := 1) hx hb dX0_widen_61 (by decide) ?_
                    refine lv_isub hx hb dX0_widen_62 ?_
                    refine lv_topi (fun x_14 ex_14 => ?_)
                    obtain rfl : x_14 = nI (q - 1) := ex_14.trans (pk_sub (a := q) (b := 1) (by omega))
                    refine lv_iload_n hx hb dX0_widen_63 rfl (lv_at hl 3 rfl) ?_
                    refine lv_iand hx hb dX0_widen_64 ?_
                    refine lv_topi (fun x_15 ex_15 => ?_)
                    obtain rfl : x_15 = nI ((q - 1) &&& zz) := ex_15.trans (nI_and (q - 1) zz)
                    have hb_16 : (q - 1) &&& zz ≤ (q - 1) := Nat.and_le_left
                    refine lv_istore (lv' := [(4, .int (nI ((q - 1) &&& zz))), (0, .ref (h 2)), (1, .int (nI s0)), (2, .int (nI l0)), (3, .int (nI zz))]) hx hb dX0_widen_65 hl (by decide) rfl (fun ls hl => ?_)
                    refine lv_goto (tgt := 11) hx hb dX0_widen_67 (by decide) ?_
                    exact ih11 ((q - 1) &&& zz) F_12 Nat.and_le_right (by rw [Nat.and_assoc, Nat.and_self]) (fun S hS_ hn => by
                      rw [eF_12]
                      show upd (F2 22) (nI zz).toNatClampNeg _ S = _
                      rw [nI_clamp (by omega), pk_un hn]; exact h22 S hS_ hn) (Or.inr ⟨hE_13, hg0_, fun t h1 h2 h3 => by
                      by_cases z : q < t
                      · exact hno_ t h1 z h3
                      · by_cases y : t = q
                        · rw [y] at h3; exact absurd h3.1 (by omega)
                        · exact absurd (sub_next 7 q zz t (by have : (2 : Nat) ^ 7 = 128 := rfl; omega) (by omega) hqz h1 (by omega)) (by omega)⟩) (fun j hj => ((va_ne eF_12 (fun h => hj (by rw [h]; decide))).trans (hfr2 j hj))) (by omega) H locs ls hP hD hS (lv_sub hl [1, 2, 3, 4, 0] rfl)
                  · have c_11 : ¬ l0 < (spS v f q) := fun h => c_11 ((nI_ltI (a := l0) (b := spS v f q) (by omega) (by omega)).mpr h)
                    refine lv_aload_n hx hb dX0_widen_41 rfl (lv_at hl 0 rfl) ?_
                    refine va_get (D := (dC, dI)) (ci := 0) (v := .ref (h 22)) (C := RX0) (T := TX0) (N := 11) hx hb hts hin_X0 hown hK hP 2 rfl rfl 10 (by decide) hw0 (fun _ h9 => h9) rfl dX0_widen_42 ?_
                    refine lv_iload_n hx hb dX0_widen_45 rfl (lv_at hl 3 rfl) ?_
                    refine lv_iload hx hb dX0_widen_46 (lv_at hl 4 rfl) ?_
                    refine lv_ixor hx hb dX0_widen_48 ?_
                    refine lv_topi (fun x_17 ex_17 => ?_)
                    obtain rfl : x_17 = nI (zz ^^^ q) := ex_17.trans (nI_xor zz q)
                    have hb_18 : zz ^^^ q < 128 := Nat.xor_lt_two_pow (n := 7) (by omega) (by omega)
                    refine va_zald hx hb hK hP 22 1 rfl rfl (vp_in_nI (n := zz ^^^ q) (N := 128) (by omega) (by decide)) dX0_widen_49 ?_
                    have hb_20 := sub_xor 7 q zz (by have : (2 : Nat) ^ 7 = 128 := rfl; omega) hqz
                    have hb_19 := b01_le (g (zz ^^^ q))
                    refine lv_topi (fun x_21 ex_21 => ?_)
                    obtain rfl : x_21 = nI (b01 (g (zz ^^^ q))) := ex_21.trans ((congrArg (F2 22) (nI_clamp (n := zz ^^^ q) (by omega))).trans ((h22 (zz ^^^ q) (by omega) (by omega)).trans (by rw [if_neg (by omega)]; exact (b01_bI _).symm)))
                    refine lv_if_eq (tgt := 57) hx hb dX0_widen_50 (by decide) (fun c_22 => ?_) (fun c_22 => ?_)
                    · have c_22 : (b01 (g (zz ^^^ q))) = 0 := (nI_eq (a := b01 (g (zz ^^^ q))) (b := 0) (by omega) (by omega)).mp c_22
                      refine lv_iconst (v := 0) hx hb dX0_widen_57 (by decide) ?_
                      refine va_zast hx hb hK hP hD hS 22 1 rfl rfl (vp_in_nI (n := zz) (N := 128) (by omega) (by decide)) dX0_widen_58 (fun H locs hP hD hS => ?_)
                      obtain ⟨F_23, eF_23⟩ : ∃ z : Nat → Nat → Int32, z = va_up F2 22 (upd (F2 22) (nI zz).toNatClampNeg (vp_nar .boolean 0)) := ⟨_, rfl⟩
                      have hP : va_P (dC, dI) vwCl (wC cI cZ h F_23 V) H := by rw [eF_23]; exact hP
                      have hD : va_D A (wC cI cZ h F_23 V) := by rw [eF_23]; exact hD
                      have hE_24 : F_23 22 zz = 0 := by rw [eF_23]; show upd _ (nI zz).toNatClampNeg _ _ = _; rw [nI_clamp (by omega)]; exact pk_us.trans (by decide)
                      refine lv_iload hx hb dX0_widen_59 (lv_at hl 4 rfl) ?_
                      refine lv_iconst (v := 1) hx hb dX0_widen_61 (by decide) ?_
                      refine lv_isub hx hb dX0_widen_62 ?_
                      refine lv_topi (fun x_25 ex_25 => ?_)
                      obtain rfl : x_25 = nI (q - 1) := ex_25.trans (pk_sub (a := q) (b := 1) (by omega))
                      refine lv_iload_n hx hb dX0_widen_63 rfl (lv_at hl 3 rfl) ?_
                      refine lv_iand hx hb dX0_widen_64 ?_
                      refine lv_topi (fun x_26 ex_26 => ?_)
                      obtain rfl : x_26 = nI ((q - 1) &&& zz) := ex_26.trans (nI_and (q - 1) zz)
                      have hb_27 : (q - 1) &&& zz ≤ (q - 1) := Nat.and_le_left
                      refine lv_istore (lv' := [(4, .int (nI ((q - 1) &&& zz))), (0, .ref (h 2)), (1, .int (nI s0)), (2, .int (nI l0)), (3, .int (nI zz))]) hx hb dX0_widen_65 hl (by decide) rfl (fun ls hl => ?_)
                      refine lv_goto (tgt := 11) hx hb dX0_widen_67 (by decide) ?_
                      exact ih11 ((q - 1) &&& zz) F_23 Nat.and_le_right (by rw [Nat.and_assoc, Nat.and_self]) (fun S hS_ hn => by
                        rw [eF_23]
                        show upd (F2 22) (nI zz).toNatClampNeg _ S = _
                        rw [nI_clamp (by omega), pk_un hn]; exact h22 S hS_ hn) (Or.inr ⟨hE_24, hg0_, fun t h1 h2 h3 => by
                        by_cases z : q < t
                        · exact hno_ t h1 z h3
                        · by_cases y : t = q
                          · rw [y] at h3; rw [b01_0 c_22] at h3; exact absurd h3.2 (by decide)
                          · exact absurd (sub_next 7 q zz t (by have : (2 : Nat) ^ 7 = 128 := rfl; omega) (by omega) hqz h1 (by omega)) (by omega)⟩) (fun j hj => ((va_ne eF_23 (fun h => hj (by rw [h]; decide))).trans (hfr2 j hj))) (by omega) H locs ls hP hD hS (lv_sub hl [1, 2, 3, 4, 0] rfl)
                    · have c_22 : ¬ (b01 (g (zz ^^^ q))) = 0 := fun h => c_22 ((nI_eq (a := b01 (g (zz ^^^ q))) (b := 0) (by omega) (by omega)).mpr h)
                      refine lv_iconst (v := 1) hx hb dX0_widen_53 (by decide) ?_
                      refine lv_goto (tgt := 58) hx hb dX0_widen_54 (by decide) ?_
                      refine va_zast hx hb hK hP hD hS 22 1 rfl rfl (vp_in_nI (n := zz) (N := 128) (by omega) (by decide)) dX0_widen_58 (fun H locs hP hD hS => ?_)
                      obtain ⟨F_28, eF_28⟩ : ∃ z : Nat → Nat → Int32, z = va_up F2 22 (upd (F2 22) (nI zz).toNatClampNeg (vp_nar .boolean 1)) := ⟨_, rfl⟩
                      have hP : va_P (dC, dI) vwCl (wC cI cZ h F_28 V) H := by rw [eF_28]; exact hP
                      have hD : va_D A (wC cI cZ h F_28 V) := by rw [eF_28]; exact hD
                      have hE_29 : F_28 22 zz = 1 := by rw [eF_28]; show upd _ (nI zz).toNatClampNeg _ _ = _; rw [nI_clamp (by omega)]; exact pk_us.trans (by decide)
                      refine lv_iload hx hb dX0_widen_59 (lv_at hl 4 rfl) ?_
                      refine lv_iconst (v := 1) hx hb dX0_widen_61 (by decide) ?_
                      refine lv_isub hx hb dX0_widen_62 ?_
                      refine lv_topi (fun x_30 ex_30 => ?_)
                      obtain rfl : x_30 = nI (q - 1) := ex_30.trans (pk_sub (a := q) (b := 1) (by omega))
                      refine lv_iload_n hx hb dX0_widen_63 rfl (lv_at hl 3 rfl) ?_
                      refine lv_iand hx hb dX0_widen_64 ?_
                      refine lv_topi (fun x_31 ex_31 => ?_)
                      obtain rfl : x_31 = nI ((q - 1) &&& zz) := ex_31.trans (nI_and (q - 1) zz)
                      have hb_32 : (q - 1) &&& zz ≤ (q - 1) := Nat.and_le_left
                      refine lv_istore (lv' := [(4, .int (nI ((q - 1) &&& zz))), (0, .ref (h 2)), (1, .int (nI s0)), (2, .int (nI l0)), (3, .int (nI zz))]) hx hb dX0_widen_65 hl (by decide) rfl (fun ls hl => ?_)
                      refine lv_goto (tgt := 11) hx hb dX0_widen_67 (by decide) ?_
                      exact ih11 ((q - 1) &&& zz) F_28 Nat.and_le_right (by rw [Nat.and_assoc, Nat.and_self]) (fun S hS_ hn => by
                        rw [eF_28]
                        show upd (F2 22) (nI zz).toNatClampNeg _ S = _
                        rw [nI_clamp (by omega), pk_un hn]; exact h22 S hS_ hn) (Or.inl ⟨hE_29, wdn_iff.mpr (Or.inr ⟨q, by omega, hqz, by omega, b01_n c_22⟩)⟩) (fun j hj => ((va_ne eF_28 (fun h => hj (by rw [h]; decide))).trans (hfr2 j hj))) (by omega) H locs ls hP hD hS (lv_sub hl [1, 2, 3, 4, 0] rfl)
        exact loop11 _ zz F1 (by omega) (Nat.and_self zz) (fun S hS_ _ => hW S hS_) (by
          have y := hW zz hz
          rw [if_neg (Nat.lt_irrefl zz)] at y
          cases eg : g zz with
          | true => rw [eg] at y; exact Or.inl ⟨y, wdn_iff.mpr (Or.inl eg)⟩
          | false => rw [eg] at y; exact Or.inr ⟨y, rfl, fun t h1 h2 => absurd (Nat.le_trans (Nat.le_of_eq h1.symm) Nat.and_le_right) (by omega)⟩) hfr (Nat.lt_succ_self _) H locs ls hP hD hS (lv_sub hl [1, 2, 3, 4, 0] rfl)
  exact loop4 _ (s0 - 1) F (by omega) (fun S hS_ => (hFI S hS_).trans (by rw [if_neg (by omega)])) (fun _ _ => rfl) (Nat.lt_succ_self _) H locs ls hP hD hS (lv_sub hl [1, 2, 3, 0] rfl)
def rm_X0_bestHeat : Room := { frames := 4, cells := 0, slots := 0, locals := 83 }
set_option maxHeartbeats 4000000 in
set_option maxRecDepth 100000 in
theorem c_X0_bestHeat (l : Launch) (dC : Nat → ClassId) (dI : Nat → Nat → Nat) (cI cZ cJ : ClassId) (h : Nat → Nat) (F : Nat → Nat → Int32) (V : Nat → Int32) (n : Nat) (hV1 : V 1 = nI n) (bV1 : n ≤ 40) (d : Nat) (hV2 : V 2 = nI d) (bV2 : d ≤ 20) (So : Nat → Nat) (hSo : ∀ i, i < 40 → F 9 i = nI (So i)) (bSo : ∀ i, i < 40 → So i ≤ 90) (Hh : Nat → Nat) (hHh : ∀ i, i < 24 → F 12 i = nI (Hh i)) (bHh : ∀ i, i < 24 → Hh i ≤ 9) (Wd : Nat → Nat) (hWd : ∀ i, i < 24 → F 13 i = nI (Wd i)) (bWd : ∀ i, i < 24 → Wd i ≤ 99) (Lm : Nat → Nat) (hLm : ∀ i, i < 4 → F 14 i = nI (Lm i)) (bLm : ∀ i, i < 4 → Lm i ≤ 10000) (k0 : Nat) (hk0 : k0 < 24)   : CtI l (dC, dI) vwCl (tys3 cI cZ cJ) yX0_bestHeat wsX0_bestHeat rm_X0_bestHeat [.ref (h 2), .int (nI k0)] (wC cI cZ h F V) (S := Nat → Nat → Int32) (fun r u => (∃ M, r = nI M ∧ M ≤ 700 ∧ isB (fun i => pwF F Hh So Wd d k0 0 (ordn (pwF F Hh So Wd d k0 0) n i)) Lm (min 7 n) M) ∧ (∀ j, j ∉ ([15, 16, 21, 22] : List Nat) → u j = F j) ∧ (True)) (fun u => wC cI cZ h u V) 0 0 := by
  refine ct_I (cc := cX0_bestHeat) (maxL := 6) (ty := .int) (own := RX0) (by decide) rfl rfl (Nat.le_of_ble_eq_true rfl) (lv := [(0, .ref (h 2)), (1, .int (nI k0))]) rfl ?_
  intro p e s m args below meth c A Q ls fx hK hP hD hA hl hret
  obtain ⟨hx, hb, hml, hown, hts⟩ := id fx
  have hS : va_S A s.heap s.heap [] := va_S.rf
  have hw0 := hts (.fieldLink RX0 11 "MirrorTower$Face" "field" "LMirrorTower$Field;") (by decide +kernel)
  have hin_X0 : ∀ w ∈ u_ws RX0 TX0 11, w ∈ wsX0_bestHeat := by decide +kernel
  have hw2 := hts (.methodLink RX0 84 Lib.Math.min.name) (by decide +kernel)
  have hw3 := hts (.static Lib.Math.min.name) (by decide +kernel)
  have hw4 := hts (.initialized "java/lang/Math") (by decide +kernel)
  have hw5 := hts (.code Lib.Math.min.name Lib.Math.min.code 2 (some .int)) (by decide +kernel)
  have hw6 := hts (.fieldLink RX0 15 "MirrorTower$Face" "limits" "[I") (by decide +kernel)
  have hw7 := hts (.fieldLink RX0 46 "MirrorTower$Face" "fits" "[Z") (by decide +kernel)
  have hw8 := hts (.fieldLink RX0 43 "MirrorTower$Face" "setPowers" "[I") (by decide +kernel)
  have hw9 := hts (.methodLink RX0 96 Lib.Math.max.name) (by decide +kernel)
  have hw10 := hts (.static Lib.Math.max.name) (by decide +kernel)
  have hw11 := hts (.code Lib.Math.max.name Lib.Math.max.code 2 (some .int)) (by decide +kernel)
  obtain ⟨H, hH⟩ : ∃ H, H = s.heap := ⟨_, rfl⟩
  rw [← hH] at hP ⊢
  have hS : va_S A s.heap H [] := by rw [hH]; exact hS
  generalize ([] : List Loc) = locs at hS ⊢
  refine lv_aload_n hx hb dX0_bestHeat_0 rfl (lv_at hl 0 rfl) ?_
  refine lv_iload_n hx hb dX0_bestHeat_1 rfl (lv_at hl 1 rfl) ?_
  refine lv_iconst (v := 0) hx hb dX0_bestHeat_2 (by decide) ?_
  refine cw_Vv (As := [.int (nI k0), .int 0]) (rest := []) (c_X0_readPowers l dC dI cI cZ cJ h F V n hV1 (by omega) d hV2 (by omega) So hSo bSo Hh hHh bHh Wd hWd bWd k0 0 (by omega) (by omega)) fx (cwV 2 hts gX0_bestHeat_X0_readPowers rfl rfl rfl (by decide +kernel) ⟨Nat.le_of_ble_eq_true rfl, Nat.le_of_ble_eq_true rfl⟩) hK hP hD hS hA 2 rfl rfl rfl rfl hl.1 rfl (Nat.le_of_ble_eq_true rfl) dX0_bestHeat_3 ⟨Nat.le_of_ble_eq_true rfl, Nat.le_of_ble_eq_true rfl⟩ (fun u_2 H locs hw_3 hP hD hS => ?_)
  obtain ⟨F_4, rfl⟩ : ∃ z, z = u_2 := ⟨_, rfl⟩
  have hf_5 : ∀ j, j ∉ ([16] : List Nat) → F_4 j = F j := hw_3.1
  have hP : va_P (dC, dI) vwCl (wC cI cZ h F_4 V) H := hP
  have hD : va_D A (wC cI cZ h F_4 V) := hD
  have hN_6 : ∀ i, i < 40 → F_4 9 i = nI (So i) := by rw [hf_5 9 (by decide)]; exact hSo
  have hN_7 : ∀ i, i < 24 → F_4 12 i = nI (Hh i) := by rw [hf_5 12 (by decide)]; exact hHh
  have hN_8 : ∀ i, i < 24 → F_4 13 i = nI (Wd i) := by rw [hf_5 13 (by decide)]; exact hWd
  have hN_9 : ∀ i, i < 4 → F_4 14 i = nI (Lm i) := by rw [hf_5 14 (by decide)]; exact hLm
  obtain ⟨Pq_12, ePq_12⟩ : ∃ z : Nat → Nat, z = pwF F Hh So Wd d k0 0 := ⟨_, rfl⟩
  have hN_10 : ∀ i, i < n → F_4 16 i = nI (Pq_12 i) := by rw [ePq_12]; exact hw_3.2
  have bN_11 : ∀ i, i < n → Pq_12 i ≤ 100 := by rw [ePq_12]; exact fun i _ => (pwN_eq (bHh k0 (by omega))).2
  refine lv_aload_n hx hb dX0_bestHeat_6 rfl (lv_at hl 0 rfl) ?_
  refine cw_Vv (As := []) (rest := []) (c_X0_rank l dC dI cI cZ cJ h F_4 V n hV1 (by omega) Pq_12 hN_10 bN_11) fx (cwV 0 hts gX0_bestHeat_X0_rank rfl rfl rfl (by decide +kernel) ⟨Nat.le_of_ble_eq_true rfl, Nat.le_of_ble_eq_true rfl⟩) hK hP hD hS hA 2 rfl rfl rfl rfl hl.1 rfl (Nat.le_of_ble_eq_true rfl) dX0_bestHeat_7 ⟨Nat.le_of_ble_eq_true rfl, Nat.le_of_ble_eq_true rfl⟩ (fun u_14 H locs hw_15 hP hD hS => ?_)
  obtain ⟨F_16, rfl⟩ : ∃ z, z = u_14 := ⟨_, rfl⟩
  have hf_17 : ∀ j, j ∉ ([15] : List Nat) → F_16 j = F_4 j := hw_15.1
  have hP : va_P (dC, dI) vwCl (wC cI cZ h F_16 V) H := hP
  have hD : va_D A (wC cI cZ h F_16 V) := hD
  have hN_18 : ∀ i, i < 40 → F_16 9 i = nI (So i) := by rw [hf_17 9 (by decide)]; exact hN_6
  have hN_19 : ∀ i, i < 24 → F_16 12 i = nI (Hh i) := by rw [hf_17 12 (by decide)]; exact hN_7
  have hN_20 : ∀ i, i < 24 → F_16 13 i = nI (Wd i) := by rw [hf_17 13 (by decide)]; exact hN_8
  have hN_21 : ∀ i, i < 4 → F_16 14 i = nI (Lm i) := by rw [hf_17 14 (by decide)]; exact hN_9
  have hN_22 : ∀ i, i < n → F_16 16 i = nI (Pq_12 i) := by rw [hf_17 16 (by decide)]; exact hN_10
  obtain ⟨Oq_25, eOq_25⟩ : ∃ z : Nat → Nat, z = ordn Pq_12 n := ⟨_, rfl⟩
  have hN_23 : ∀ i, i < n → F_16 15 i = nI (Oq_25 i) := by rw [eOq_25]; exact hw_15.2
  have bN_24 : ∀ i, i < n → Oq_25 i ≤ n - 1 := by rw [eOq_25]; exact fun i hi => by have := ordn_lt Pq_12 n i hi; omega
  refine lv_bipush (v := 7) hx hb dX0_bestHeat_10 (by decide) ?_
  refine lv_aload_n hx hb dX0_bestHeat_12 rfl (lv_at hl 0 rfl) ?_
  refine va_get (D := (dC, dI)) (ci := 0) (v := .ref (h 1)) (C := RX0) (T := TX0) (N := 11) hx hb hts hin_X0 hown hK hP 2 rfl rfl 0 (by decide) hw0 (fun _ h9 => h9) rfl dX0_bestHeat_13 ?_
  refine cw_Vi (As := []) (rest := [.int 7]) (c_X1_size l dC dI cI cZ cJ h F_16 V) fx (cwV 0 hts gX0_bestHeat_X1_size rfl rfl rfl (by decide +kernel) ⟨Nat.le_of_ble_eq_true rfl, Nat.le_of_ble_eq_true rfl⟩) hK hP hD hS hA 1 rfl rfl rfl rfl hl.1 rfl (Nat.le_of_ble_eq_true rfl) dX0_bestHeat_16 ⟨Nat.le_of_ble_eq_true rfl, Nat.le_of_ble_eq_true rfl⟩ (fun r_26 u_27 H locs hw_28 hP hD hS => ?_)
  have hP : va_P (dC, dI) vwCl (wC cI cZ h F_16 V) H := hP
  have hD : va_D A (wC cI cZ h F_16 V) := hD
  obtain rfl : r_26 = nI n := Eq.trans hw_28 hV1
  refine va_mmin hx hb (hml.trans hl.1.symm) hown hw2 hw3 hw4 hw5 (Nat.le_of_ble_eq_true rfl) (Nat.le_of_ble_eq_true rfl) (Nat.le_of_ble_eq_true rfl) (Nat.le_of_ble_eq_true rfl) dX0_bestHeat_19 ?_
  refine lv_topi (fun x_29 ex_29 => ?_)
  obtain rfl : x_29 = nI (min 7 n) := ex_29.trans (mm_min (a := 7) (b := n) (by omega) (by omega))
  refine lv_istore_n (lv' := [(2, .int (nI (min 7 n))), (0, .ref (h 2)), (1, .int (nI k0))]) hx hb dX0_bestHeat_22 rfl hl (by decide) rfl (fun ls hl => ?_)
  refine lv_iconst (v := 1) hx hb dX0_bestHeat_23 (by decide) ?_
  refine lv_iload_n hx hb dX0_bestHeat_24 rfl (lv_at hl 0 rfl) ?_
  have hp2 : 2 ^ (min 7 n) ≤ 2 ^ 7 := Nat.pow_le_pow_right (by omega) (by omega)
  have hp3 : 1 ≤ 2 ^ (min 7 n) := Nat.one_le_two_pow
  refine lv_ishl hx hb dX0_bestHeat_25 ?_
  refine lv_topi (fun x_30 ex_30 => ?_)
  obtain rfl : x_30 = nI (2 ^ (min 7 n)) := ex_30.trans (shl1 (by omega))
  refine lv_istore_n (lv' := [(3, .int (nI (2 ^ (min 7 n)))), (2, .int (nI (min 7 n))), (0, .ref (h 2)), (1, .int (nI k0))]) hx hb dX0_bestHeat_26 rfl hl (by decide) rfl (fun ls hl => ?_)
  refine lv_aload_n hx hb dX0_bestHeat_27 rfl (lv_at hl 2 rfl) ?_
  refine lv_iload_n hx hb dX0_bestHeat_28 rfl (lv_at hl 1 rfl) ?_
  refine cw_Vv (As := [.int (nI (min 7 n))]) (rest := []) (c_X0_addUpSets l dC dI cI cZ cJ h F_16 V n hV1 (by omega) Pq_12 hN_22 bN_11 Oq_25 hN_23 bN_24 (min 7 n) (by omega) (by omega)) fx (cwV 1 hts gX0_bestHeat_X0_addUpSets rfl rfl rfl (by decide +kernel) ⟨Nat.le_of_ble_eq_true rfl, Nat.le_of_ble_eq_true rfl⟩) hK hP hD hS hA 2 rfl rfl rfl rfl hl.1 rfl (Nat.le_of_ble_eq_true rfl) dX0_bestHeat_29 ⟨Nat.le_of_ble_eq_true rfl, Nat.le_of_ble_eq_true rfl⟩ (fun u_32 H locs hw_33 hP hD hS => ?_)
  obtain ⟨F_34, rfl⟩ : ∃ z, z = u_32 := ⟨_, rfl⟩
  have hf_35 : ∀ j, j ∉ ([21] : List Nat) → F_34 j = F_16 j := hw_33.1
  have hP : va_P (dC, dI) vwCl (wC cI cZ h F_34 V) H := hP
  have hD : va_D A (wC cI cZ h F_34 V) := hD
  have hN_36 : ∀ i, i < 40 → F_34 9 i = nI (So i) := by rw [hf_35 9 (by decide)]; exact hN_18
  have hN_37 : ∀ i, i < 24 → F_34 12 i = nI (Hh i) := by rw [hf_35 12 (by decide)]; exact hN_19
  have hN_38 : ∀ i, i < 24 → F_34 13 i = nI (Wd i) := by rw [hf_35 13 (by decide)]; exact hN_20
  have hN_39 : ∀ i, i < 4 → F_34 14 i = nI (Lm i) := by rw [hf_35 14 (by decide)]; exact hN_21
  have hN_40 : ∀ i, i < n → F_34 16 i = nI (Pq_12 i) := by rw [hf_35 16 (by decide)]; exact hN_22
  have hN_41 : ∀ i, i < n → F_34 15 i = nI (Oq_25 i) := by rw [hf_35 15 (by decide)]; exact hN_23
  have hSP_ : ∀ S, S < 2 ^ (min 7 n) → F_34 21 S = nI (spS (fun i => Pq_12 (Oq_25 i)) (min 7 n) S) := hw_33.2
  have hvb_ : ∀ i, i < (min 7 n) → (fun i => Pq_12 (Oq_25 i)) i ≤ 100 := fun i hi => bN_11 _ (by have := bN_24 i (by omega); omega)
  have hfb : ∀ j, j ∉ ([15, 16, 21, 22] : List Nat) → F_34 j = F j := fun j hj => ((hf_35 j (fun h => hj ((by decide : ∀ x ∈ ([21] : List Nat), x ∈ ([15, 16, 21, 22] : List Nat)) j h))).trans ((hf_17 j (fun h => hj ((by decide : ∀ x ∈ ([15] : List Nat), x ∈ ([15, 16, 21, 22] : List Nat)) j h))).trans (hf_5 j (fun h => hj ((by decide : ∀ x ∈ ([16] : List Nat), x ∈ ([15, 16, 21, 22] : List Nat)) j h)))))
  refine lv_iconst (v := 0) hx hb dX0_bestHeat_32 (by decide) ?_
  refine lv_istore (lv' := [(4, .int 0), (3, .int (nI (2 ^ (min 7 n)))), (2, .int (nI (min 7 n))), (0, .ref (h 2)), (1, .int (nI k0))]) hx hb dX0_bestHeat_33 hl (by decide) rfl (fun ls hl => ?_)
  have loop35 : ∀ (fu : Nat) (k : Nat) (F1 : Nat → Nat → Int32), (k ≤ 2 ^ (min 7 n)) → (∀ S, S < k → F1 22 S = bI (decide (S = 0))) → (∀ j, j ∉ ([22] : List Nat) → F1 j = F_34 j) → (2 ^ (min 7 n) - k) < fu → ∀ (H : Heap) (locs : List Loc) (ls : Array Slot), va_P (dC, dI) vwCl (wC cI cZ h F1 V) H → va_D A (wC cI cZ h F1 V) → va_S A s.heap H locs → lv_has ls 6 [(0, .ref (h 2)), (1, .int (nI k0)), (2, .int (nI (min 7 n))), (3, .int (nI (2 ^ (min 7 n)))), (4, .int (nI k))] → W p l e rm_X0_bestHeat s m args below meth c H locs 0 0 Q (F0 m 35 ls []) := by
    intro fu
    induction fu with
    | zero => intro k F1 hk h22 hfr hn_; exact absurd hn_ (Nat.not_lt_zero _)
    | succ fu ih35 =>
      intro k F1 hk h22 hfr hn_ H locs ls hP hD hS hl
      have hN_42 : ∀ i, i < 4 → F1 14 i = nI (Lm i) := by rw [hfr 14 (by decide)]; exact hN_39
      have hSPk_ : ∀ S, S < 2 ^ (min 7 n) → F1 21 S = nI (spS (fun i => Pq_12 (Oq_25 i)) (min 7 n) S) := by rw [hfr 21 (by decide)]; exact hSP_
      refine lv_iload hx hb dX0_bestHeat_35 (lv_at hl 4 rfl) ?_
      refine lv_iload_n hx hb dX0_bestHeat_37 rfl (lv_at hl 3 rfl) ?_
      refine lv_icmp_ge (tgt := 64) hx hb dX0_bestHeat_38 (by decide) (fun c_43 => ?_) (fun c_43 => ?_)
      · have c_43 : (2 ^ (min 7 n)) ≤ k := (nI_leI (a := 2 ^ (min 7 n)) (b := k) (by omega) (by omega)).mp c_43
        refine lv_iconst (v := 0) hx hb dX0_bestHeat_64 (by decide) ?_
        refine lv_istore (lv' := [(4, .int 0), (0, .ref (h 2)), (1, .int (nI k0)), (2, .int (nI (min 7 n))), (3, .int (nI (2 ^ (min 7 n))))]) hx hb dX0_bestHeat_65 hl (by decide) rfl (fun ls hl => ?_)
        refine lv_iload hx hb dX0_bestHeat_67 (lv_at hl 0 rfl) ?_
        refine lv_iconst (v := 4) hx hb dX0_bestHeat_69 (by decide) ?_
        refine lv_icmp_ge (tgt := 91) hx hb dX0_bestHeat_70 (by decide) (fun c_44 => ?_) (fun c_44 => ?_)
        · exact absurd c_44 (by decide)
        · refine lv_aload_n hx hb dX0_bestHeat_73 rfl (lv_at hl 1 rfl) ?_
          refine lv_iload_n hx hb dX0_bestHeat_74 rfl (lv_at hl 4 rfl) ?_
          refine lv_aload_n hx hb dX0_bestHeat_75 rfl (lv_at hl 1 rfl) ?_
          refine va_get (D := (dC, dI)) (ci := 0) (v := .ref (h 14)) (C := RX0) (T := TX0) (N := 11) hx hb hts hin_X0 hown hK hP 2 rfl rfl 1 (by decide) hw6 (fun _ h9 => h9) rfl dX0_bestHeat_76 ?_
          refine lv_iload hx hb dX0_bestHeat_79 (lv_at hl 0 rfl) ?_
          refine va_iald hx hb hK hP 14 0 rfl rfl (vp_in_nI (n := 0) (N := 4) (by decide) (by decide)) dX0_bestHeat_81 ?_
          have hb_45 := bLm 0 (by omega)
          refine lv_topi (fun x_46 ex_46 => ?_)
          obtain rfl : x_46 = nI (Lm 0) := ex_46.trans ((congrArg (F1 14) (by decide : (0 : Int32).toNatClampNeg = 0)).trans (hN_42 0 (by omega)))
          refine cw_Vv (As := [.int (nI (2 ^ (min 7 n))), .int (nI (Lm 0))]) (rest := []) (c_X0_widen l dC dI cI cZ cJ h F1 V (2 ^ (min 7 n)) (Lm 0) (by omega) (by omega) (by omega) (fun i => Pq_12 (Oq_25 i)) (min 7 n) (fun S => decide (S = 0)) hvb_ (by omega) hSPk_ (fun S hS_ => h22 S (by omega))) fx (cwV 2 hts gX0_bestHeat_X0_widen rfl rfl rfl (by decide +kernel) ⟨Nat.le_of_ble_eq_true rfl, Nat.le_of_ble_eq_true rfl⟩) hK hP hD hS hA 2 rfl rfl rfl rfl hl.1 rfl (Nat.le_of_ble_eq_true rfl) dX0_bestHeat_82 ⟨Nat.le_of_ble_eq_true rfl, Nat.le_of_ble_eq_true rfl⟩ (fun u_48 H locs hw_49 hP hD hS => ?_)
          obtain ⟨F_50, rfl⟩ : ∃ z, z = u_48 := ⟨_, rfl⟩
          have hf_51 : ∀ j, j ∉ ([22] : List Nat) → F_50 j = F1 j := hw_49.1
          have hP : va_P (dC, dI) vwCl (wC cI cZ h F_50 V) H := hP
          have hD : va_D A (wC cI cZ h F_50 V) := hD
          have hN_52 : ∀ i, i < 4 → F_50 14 i = nI (Lm i) := by rw [hf_51 14 (by decide)]; exact hN_42
          have hG_53 : ∀ S, S < 2 ^ (min 7 n) → F_50 22 S = bI ((wdn (fun i => Pq_12 (Oq_25 i)) (min 7 n) (Lm 0) (fun S => decide (S = 0))) S) := hw_49.2
          have hSP_54 : ∀ S, S < 2 ^ (min 7 n) → F_50 21 S = nI (spS (fun i => Pq_12 (Oq_25 i)) (min 7 n) S) := by rw [hf_51 21 (by decide)]; exact hSPk_
          refine lv_iinc (v := 1) (lv' := [(4, .int 1), (0, .ref (h 2)), (1, .int (nI k0)), (2, .int (nI (min 7 n))), (3, .int (nI (2 ^ (min 7 n))))]) hx hb dX0_bestHeat_85 hl (k := 0) rfl (by decide) (by decide) rfl (fun ls hl => ?_)
          refine lv_goto (tgt := 67) hx hb dX0_bestHeat_88 (by decide) ?_
          refine lv_iload hx hb dX0_bestHeat_67 (lv_at hl 0 rfl) ?_
          refine lv_iconst (v := 4) hx hb dX0_bestHeat_69 (by decide) ?_
          refine lv_icmp_ge (tgt := 91) hx hb dX0_bestHeat_70 (by decide) (fun c_55 => ?_) (fun c_55 => ?_)
          · exact absurd c_55 (by decide)
          · refine lv_aload_n hx hb dX0_bestHeat_73 rfl (lv_at hl 1 rfl) ?_
            refine lv_iload_n hx hb dX0_bestHeat_74 rfl (lv_at hl 4 rfl) ?_
            refine lv_aload_n hx hb dX0_bestHeat_75 rfl (lv_at hl 1 rfl) ?_
            refine va_get (D := (dC, dI)) (ci := 0) (v := .ref (h 14)) (C := RX0) (T := TX0) (N := 11) hx hb hts hin_X0 hown hK hP 2 rfl rfl 1 (by decide) hw6 (fun _ h9 => h9) rfl dX0_bestHeat_76 ?_
            refine lv_iload hx hb dX0_bestHeat_79 (lv_at hl 0 rfl) ?_
            refine va_iald hx hb hK hP 14 0 rfl rfl (vp_in_nI (n := 1) (N := 4) (by decide) (by decide)) dX0_bestHeat_81 ?_
            have hb_56 := bLm 1 (by omega)
            refine lv_topi (fun x_57 ex_57 => ?_)
            obtain rfl : x_57 = nI (Lm 1) := ex_57.trans ((congrArg (F_50 14) (by decide : (1 : Int32).toNatClampNeg = 1)).trans (hN_52 1 (by omega)))
            refine cw_Vv (As := [.int (nI (2 ^ (min 7 n))), .int (nI (Lm 1))]) (rest := []) (c_X0_widen l dC dI cI cZ cJ h F_50 V (2 ^ (min 7 n)) (Lm 1) (by omega) (by omega) (by omega) (fun i => Pq_12 (Oq_25 i)) (min 7 n) (wdn (fun i => Pq_12 (Oq_25 i)) (min 7 n) (Lm 0) (fun S => decide (S = 0))) hvb_ (by omega) hSP_54 hG_53) fx (cwV 2 hts gX0_bestHeat_X0_widen rfl rfl rfl (by decide +kernel) ⟨Nat.le_of_ble_eq_true rfl, Nat.le_of_ble_eq_true rfl⟩) hK hP hD hS hA 2 rfl rfl rfl rfl hl.1 rfl (Nat.le_of_ble_eq_true rfl) dX0_bestHeat_82 ⟨Nat.le_of_ble_eq_true rfl, Nat.le_of_ble_eq_true rfl⟩ (fun u_59 H locs hw_60 hP hD hS => ?_)
            obtain ⟨F_61, rfl⟩ : ∃ z, z = u_59 := ⟨_, rfl⟩
            have hf_62 : ∀ j, j ∉ ([22] : List Nat) → F_61 j = F_50 j := hw_60.1
            have hP : va_P (dC, dI) vwCl (wC cI cZ h F_61 V) H := hP
            have hD : va_D A (wC cI cZ h F_61 V) := hD
            have hN_63 : ∀ i, i < 4 → F_61 14 i = nI (Lm i) := by rw [hf_62 14 (by decide)]; exact hN_52
            have hG_64 : ∀ S, S < 2 ^ (min 7 n) → F_61 22 S = bI ((wdn (fun i => Pq_12 (Oq_25 i)) (min 7 n) (Lm 1) (wdn (fun i => Pq_12 (Oq_25 i)) (min 7 n) (Lm 0) (fun S => decide (S = 0)))) S) := hw_60.2
            have hSP_65 : ∀ S, S < 2 ^ (min 7 n) → F_61 21 S = nI (spS (fun i => Pq_12 (Oq_25 i)) (min 7 n) S) := by rw [hf_62 21 (by decide)]; exact hSP_54
            refine lv_iinc (v := 2) (lv' := [(4, .int 2), (0, .ref (h 2)), (1, .int (nI k0)), (2, .int (nI (min 7 n))), (3, .int (nI (2 ^ (min 7 n))))]) hx hb dX0_bestHeat_85 hl (k := 0) rfl (by decide) (by decide) rfl (fun ls hl => ?_)
            refine lv_goto (tgt := 67) hx hb dX0_bestHeat_88 (by decide) ?_
            refine lv_iload hx hb dX0_bestHeat_67 (lv_at hl 0 rfl) ?_
            refine lv_iconst (v := 4) hx hb dX0_bestHeat_69 (by decide) ?_
            refine lv_icmp_ge (tgt := 91) hx hb dX0_bestHeat_70 (by decide) (fun c_66 => ?_) (fun c_66 => ?_)
            · exact absurd c_66 (by decide)
            · refine lv_aload_n hx hb dX0_bestHeat_73 rfl (lv_at hl 1 rfl) ?_
              refine lv_iload_n hx hb dX0_bestHeat_74 rfl (lv_at hl 4 rfl) ?_
              refine lv_aload_n hx hb dX0_bestHeat_75 rfl (lv_at hl 1 rfl) ?_
              refine va_get (D := (dC, dI)) (ci := 0) (v := .ref (h 14)) (C := RX0) (T := TX0) (N := 11) hx hb hts hin_X0 hown hK hP 2 rfl rfl 1 (by decide) hw6 (fun _ h9 => h9) rfl dX0_bestHeat_76 ?_
              refine lv_iload hx hb dX0_bestHeat_79 (lv_at hl 0 rfl) ?_
              refine va_iald hx hb hK hP 14 0 rfl rfl (vp_in_nI (n := 2) (N := 4) (by decide) (by decide)) dX0_bestHeat_81 ?_
              have hb_67 := bLm 2 (by omega)
              refine lv_topi (fun x_68 ex_68 => ?_)
              obtain rfl : x_68 = nI (Lm 2) := ex_68.trans ((congrArg (F_61 14) (by decide : (2 : Int32).toNatClampNeg = 2)).trans (hN_63 2 (by omega)))
              refine cw_Vv (As := [.int (nI (2 ^ (min 7 n))), .int (nI (Lm 2))]) (rest := []) (c_X0_widen l dC dI cI cZ cJ h F_61 V (2 ^ (min 7 n)) (Lm 2) (by omega) (by omega) (by omega) (fun i => Pq_12 (Oq_25 i)) (min 7 n) (wdn (fun i => Pq_12 (Oq_25 i)) (min 7 n) (Lm 1) (wdn (fun i => Pq_12 (Oq_25 i)) (min 7 n) (Lm 0) (fun S => decide (S = 0)))) hvb_ (by omega) hSP_65 hG_64) fx (cwV 2 hts gX0_bestHeat_X0_widen rfl rfl rfl (by decide +kernel) ⟨Nat.le_of_ble_eq_true rfl, Nat.le_of_ble_eq_true rfl⟩) hK hP hD hS hA 2 rfl rfl rfl rfl hl.1 rfl (Nat.le_of_ble_eq_true rfl) dX0_bestHeat_82 ⟨Nat.le_of_ble_eq_true rfl, Nat.le_of_ble_eq_true rfl⟩ (fun u_70 H locs hw_71 hP hD hS => ?_)
              obtain ⟨F_72, rfl⟩ : ∃ z, z = u_70 := ⟨_, rfl⟩
              have hf_73 : ∀ j, j ∉ ([22] : List Nat) → F_72 j = F_61 j := hw_71.1
              have hP : va_P (dC, dI) vwCl (wC cI cZ h F_72 V) H := hP
              have hD : va_D A (wC cI cZ h F_72 V) := hD
              have hN_74 : ∀ i, i < 4 → F_72 14 i = nI (Lm i) := by rw [hf_73 14 (by decide)]; exact hN_63
              have hG_75 : ∀ S, S < 2 ^ (min 7 n) → F_72 22 S = bI ((wdn (fun i => Pq_12 (Oq_25 i)) (min 7 n) (Lm 2) (wdn (fun i => Pq_12 (Oq_25 i)) (min 7 n) (Lm 1) (wdn (fun i => Pq_12 (Oq_25 i)) (min 7 n) (Lm 0) (fun S => decide (S = 0))))) S) := hw_71.2
              have hSP_76 : ∀ S, S < 2 ^ (min 7 n) → F_72 21 S = nI (spS (fun i => Pq_12 (Oq_25 i)) (min 7 n) S) := by rw [hf_73 21 (by decide)]; exact hSP_65
              refine lv_iinc (v := 3) (lv' := [(4, .int 3), (0, .ref (h 2)), (1, .int (nI k0)), (2, .int (nI (min 7 n))), (3, .int (nI (2 ^ (min 7 n))))]) hx hb dX0_bestHeat_85 hl (k := 0) rfl (by decide) (by decide) rfl (fun ls hl => ?_)
              refine lv_goto (tgt := 67) hx hb dX0_bestHeat_88 (by decide) ?_
              refine lv_iload hx hb dX0_bestHeat_67 (lv_at hl 0 rfl) ?_
              refine lv_iconst (v := 4) hx hb dX0_bestHeat_69 (by decide) ?_
              refine lv_icmp_ge (tgt := 91) hx hb dX0_bestHeat_70 (by decide) (fun c_77 => ?_) (fun c_77 => ?_)
              · exact absurd c_77 (by decide)
              · refine lv_aload_n hx hb dX0_bestHeat_73 rfl (lv_at hl 1 rfl) ?_
                refine lv_iload_n hx hb dX0_bestHeat_74 rfl (lv_at hl 4 rfl) ?_
                refine lv_aload_n hx hb dX0_bestHeat_75 rfl (lv_at hl 1 rfl) ?_
                refine va_get (D := (dC, dI)) (ci := 0) (v := .ref (h 14)) (C := RX0) (T := TX0) (N := 11) hx hb hts hin_X0 hown hK hP 2 rfl rfl 1 (by decide) hw6 (fun _ h9 => h9) rfl dX0_bestHeat_76 ?_
                refine lv_iload hx hb dX0_bestHeat_79 (lv_at hl 0 rfl) ?_
                refine va_iald hx hb hK hP 14 0 rfl rfl (vp_in_nI (n := 3) (N := 4) (by decide) (by decide)) dX0_bestHeat_81 ?_
                have hb_78 := bLm 3 (by omega)
                refine lv_topi (fun x_79 ex_79 => ?_)
                obtain rfl : x_79 = nI (Lm 3) := ex_79.trans ((congrArg (F_72 14) (by decide : (3 : Int32).toNatClampNeg = 3)).trans (hN_74 3 (by omega)))
                refine cw_Vv (As := [.int (nI (2 ^ (min 7 n))), .int (nI (Lm 3))]) (rest := []) (c_X0_widen l dC dI cI cZ cJ h F_72 V (2 ^ (min 7 n)) (Lm 3) (by omega) (by omega) (by omega) (fun i => Pq_12 (Oq_25 i)) (min 7 n) (wdn (fun i => Pq_12 (Oq_25 i)) (min 7 n) (Lm 2) (wdn (fun i => Pq_12 (Oq_25 i)) (min 7 n) (Lm 1) (wdn (fun i => Pq_12 (Oq_25 i)) (min 7 n) (Lm 0) (fun S => decide (S = 0))))) hvb_ (by omega) hSP_76 hG_75) fx (cwV 2 hts gX0_bestHeat_X0_widen rfl rfl rfl (by decide +kernel) ⟨Nat.le_of_ble_eq_true rfl, Nat.le_of_ble_eq_true rfl⟩) hK hP hD hS hA 2 rfl rfl rfl rfl hl.1 rfl (Nat.le_of_ble_eq_true rfl) dX0_bestHeat_82 ⟨Nat.le_of_ble_eq_true rfl, Nat.le_of_ble_eq_true rfl⟩ (fun u_81 H locs hw_82 hP hD hS => ?_)
                obtain ⟨F_83, rfl⟩ : ∃ z, z = u_81 := ⟨_, rfl⟩
                have hf_84 : ∀ j, j ∉ ([22] : List Nat) → F_83 j = F_72 j := hw_82.1
                have hP : va_P (dC, dI) vwCl (wC cI cZ h F_83 V) H := hP
                have hD : va_D A (wC cI cZ h F_83 V) := hD
                have hN_85 : ∀ i, i < 4 → F_83 14 i = nI (Lm i) := by rw [hf_84 14 (by decide)]; exact hN_74
                have hG_86 : ∀ S, S < 2 ^ (min 7 n) → F_83 22 S = bI ((wdn (fun i => Pq_12 (Oq_25 i)) (min 7 n) (Lm 3) (wdn (fun i => Pq_12 (Oq_25 i)) (min 7 n) (Lm 2) (wdn (fun i => Pq_12 (Oq_25 i)) (min 7 n) (Lm 1) (wdn (fun i => Pq_12 (Oq_25 i)) (min 7 n) (Lm 0) (fun S => decide (S = 0)))))) S) := hw_82.2
                have hSP_87 : ∀ S, S < 2 ^ (min 7 n) → F_83 21 S = nI (spS (fun i => Pq_12 (Oq_25 i)) (min 7 n) S) := by rw [hf_84 21 (by decide)]; exact hSP_76
                refine lv_iinc (v := 4) (lv' := [(4, .int 4), (0, .ref (h 2)), (1, .int (nI k0)), (2, .int (nI (min 7 n))), (3, .int (nI (2 ^ (min 7 n))))]) hx hb dX0_bestHeat_85 hl (k := 0) rfl (by decide) (by decide) rfl (fun ls hl => ?_)
                refine lv_goto (tgt := 67) hx hb dX0_bestHeat_88 (by decide) ?_
                refine lv_iload hx hb dX0_bestHeat_67 (lv_at hl 0 rfl) ?_
                refine lv_iconst (v := 4) hx hb dX0_bestHeat_69 (by decide) ?_
                refine lv_icmp_ge (tgt := 91) hx hb dX0_bestHeat_70 (by decide) (fun c_88 => ?_) (fun c_88 => ?_)
                · refine lv_iconst (v := 0) hx hb dX0_bestHeat_91 (by decide) ?_
                  refine lv_istore (lv' := [(4, .int 0), (0, .ref (h 2)), (1, .int (nI k0)), (2, .int (nI (min 7 n))), (3, .int (nI (2 ^ (min 7 n))))]) hx hb dX0_bestHeat_92 hl (by decide) rfl (fun ls hl => ?_)
                  refine lv_iconst (v := 0) hx hb dX0_bestHeat_94 (by decide) ?_
                  refine lv_istore (lv' := [(5, .int 0), (4, .int 0), (0, .ref (h 2)), (1, .int (nI k0)), (2, .int (nI (min 7 n))), (3, .int (nI (2 ^ (min 7 n))))]) hx hb dX0_bestHeat_95 hl (by decide) rfl (fun ls hl => ?_)
                  have loop97 : ∀ (fu : Nat) (mo : Nat) (k2 : Nat), (k2 ≤ 2 ^ (min 7 n)) → (mo ≤ 700) → (mo = 0 ∨ ∃ S, S < 2 ^ (min 7 n) ∧ (wdn (fun i => Pq_12 (Oq_25 i)) (min 7 n) (Lm 3) (wdn (fun i => Pq_12 (Oq_25 i)) (min 7 n) (Lm 2) (wdn (fun i => Pq_12 (Oq_25 i)) (min 7 n) (Lm 1) (wdn (fun i => Pq_12 (Oq_25 i)) (min 7 n) (Lm 0) (fun S => decide (S = 0)))))) S = true ∧ mo = spS (fun i => Pq_12 (Oq_25 i)) (min 7 n) S) → (∀ S, S < k2 → (wdn (fun i => Pq_12 (Oq_25 i)) (min 7 n) (Lm 3) (wdn (fun i => Pq_12 (Oq_25 i)) (min 7 n) (Lm 2) (wdn (fun i => Pq_12 (Oq_25 i)) (min 7 n) (Lm 1) (wdn (fun i => Pq_12 (Oq_25 i)) (min 7 n) (Lm 0) (fun S => decide (S = 0)))))) S = true → spS (fun i => Pq_12 (Oq_25 i)) (min 7 n) S ≤ mo) → (2 ^ (min 7 n) - k2) < fu → ∀ (H : Heap) (locs : List Loc) (ls : Array Slot), va_P (dC, dI) vwCl (wC cI cZ h F_83 V) H → va_D A (wC cI cZ h F_83 V) → va_S A s.heap H locs → lv_has ls 6 [(0, .ref (h 2)), (1, .int (nI k0)), (2, .int (nI (min 7 n))), (3, .int (nI (2 ^ (min 7 n)))), (4, .int (nI mo)), (5, .int (nI k2))] → W p l e rm_X0_bestHeat s m args below meth c H locs 0 0 Q (F0 m 97 ls []) := by
                    intro fu
                    induction fu with
                    | zero => intro mo k2 hk2 hmo hM hU hn_; exact absurd hn_ (Nat.not_lt_zero _)
                    | succ fu ih97 =>
                      intro mo k2 hk2 hmo hM hU hn_ H locs ls hP hD hS hl
                      refine lv_iload hx hb dX0_bestHeat_97 (lv_at hl 5 rfl) ?_
                      refine lv_iload_n hx hb dX0_bestHeat_99 rfl (lv_at hl 3 rfl) ?_
                      refine lv_icmp_ge (tgt := 133) hx hb dX0_bestHeat_100 (by decide) (fun c_89 => ?_) (fun c_89 => ?_)
                      · have c_89 : (2 ^ (min 7 n)) ≤ k2 := (nI_leI (a := 2 ^ (min 7 n)) (b := k2) (by omega) (by omega)).mp c_89
                        refine lv_iload hx hb dX0_bestHeat_133 (lv_at hl 4 rfl) ?_
                        exact hret (nI mo) F_83 H locs 135 ls rfl dX0_bestHeat_135 (by
                                    refine ⟨⟨mo, rfl, by omega, ?_⟩, fun j hj => ((show ∀ j, j ∉ ([22] : List Nat) → F_83 j = F_34 j from fun j hj => ((hf_84 j (fun h => hj ((by decide : ∀ x ∈ ([22] : List Nat), x ∈ ([22] : List Nat)) j h))).trans ((hf_73 j (fun h => hj ((by decide : ∀ x ∈ ([22] : List Nat), x ∈ ([22] : List Nat)) j h))).trans ((hf_62 j (fun h => hj ((by decide : ∀ x ∈ ([22] : List Nat), x ∈ ([22] : List Nat)) j h))).trans ((hf_51 j (fun h => hj ((by decide : ∀ x ∈ ([22] : List Nat), x ∈ ([22] : List Nat)) j h))).trans (hfr j hj)))))) j (fun z => hj ((by decide : ∀ x ∈ ([22] : List Nat), x ∈ ([15, 16, 21, 22] : List Nat)) j z))).trans (hfb j hj), trivial⟩
                                    rw [← ePq_12, ← eOq_25]
                                    exact FT_B (FT_s (FT_s (FT_s (FT_s FT_0)))) hM (fun S hS_ hg => hU S (by omega) hg)) (hP) (hD) hS
                      · have c_89 : ¬ (2 ^ (min 7 n)) ≤ k2 := fun h => c_89 ((nI_leI (a := 2 ^ (min 7 n)) (b := k2) (by omega) (by omega)).mpr h)
                        refine lv_aload_n hx hb dX0_bestHeat_103 rfl (lv_at hl 0 rfl) ?_
                        refine va_get (D := (dC, dI)) (ci := 0) (v := .ref (h 22)) (C := RX0) (T := TX0) (N := 11) hx hb hts hin_X0 hown hK hP 2 rfl rfl 10 (by decide) hw7 (fun _ h9 => h9) rfl dX0_bestHeat_104 ?_
                        refine lv_iload hx hb dX0_bestHeat_107 (lv_at hl 5 rfl) ?_
                        refine va_zald hx hb hK hP 22 1 rfl rfl (vp_in_nI (n := k2) (N := 128) (by omega) (by decide)) dX0_bestHeat_109 ?_
                        have hb_90 := b01_le ((wdn (fun i => Pq_12 (Oq_25 i)) (min 7 n) (Lm 3) (wdn (fun i => Pq_12 (Oq_25 i)) (min 7 n) (Lm 2) (wdn (fun i => Pq_12 (Oq_25 i)) (min 7 n) (Lm 1) (wdn (fun i => Pq_12 (Oq_25 i)) (min 7 n) (Lm 0) (fun S => decide (S = 0)))))) k2)
                        refine lv_topi (fun x_91 ex_91 => ?_)
                        obtain rfl : x_91 = nI (b01 ((wdn (fun i => Pq_12 (Oq_25 i)) (min 7 n) (Lm 3) (wdn (fun i => Pq_12 (Oq_25 i)) (min 7 n) (Lm 2) (wdn (fun i => Pq_12 (Oq_25 i)) (min 7 n) (Lm 1) (wdn (fun i => Pq_12 (Oq_25 i)) (min 7 n) (Lm 0) (fun S => decide (S = 0)))))) k2)) := ex_91.trans ((congrArg (F_83 22) (nI_clamp (n := k2) (by omega))).trans ((hG_86 k2 (by omega)).trans (b01_bI _).symm))
                        refine lv_if_eq (tgt := 127) hx hb dX0_bestHeat_110 (by decide) (fun c_92 => ?_) (fun c_92 => ?_)
                        · have c_92 : (b01 ((wdn (fun i => Pq_12 (Oq_25 i)) (min 7 n) (Lm 3) (wdn (fun i => Pq_12 (Oq_25 i)) (min 7 n) (Lm 2) (wdn (fun i => Pq_12 (Oq_25 i)) (min 7 n) (Lm 1) (wdn (fun i => Pq_12 (Oq_25 i)) (min 7 n) (Lm 0) (fun S => decide (S = 0)))))) k2)) = 0 := (nI_eq (a := b01 ((wdn (fun i => Pq_12 (Oq_25 i)) (min 7 n) (Lm 3) (wdn (fun i => Pq_12 (Oq_25 i)) (min 7 n) (Lm 2) (wdn (fun i => Pq_12 (Oq_25 i)) (min 7 n) (Lm 1) (wdn (fun i => Pq_12 (Oq_25 i)) (min 7 n) (Lm 0) (fun S => decide (S = 0)))))) k2)) (b := 0) (by omega) (by omega)).mp c_92
                          refine lv_iinc (v := nI (k2 + 1)) (lv' := [(5, .int (nI (k2 + 1))), (0, .ref (h 2)), (1, .int (nI k0)), (2, .int (nI (min 7 n))), (3, .int (nI (2 ^ (min 7 n)))), (4, .int (nI mo))]) hx hb dX0_bestHeat_127 hl (k := 5) rfl (nI_1 _) (by decide) rfl (fun ls hl => ?_)
                          refine lv_goto (tgt := 97) hx hb dX0_bestHeat_130 (by decide) ?_
                          exact ih97 mo (k2 + 1) (by omega) (by omega) hM (fun S hS_ hg => by
                            by_cases z : S = k2
                            · rw [z, b01_0 c_92] at hg; exact absurd hg (by decide)
                            · exact hU S (by omega) hg) (by omega) H locs ls hP hD hS (lv_sub hl [1, 2, 3, 4, 5, 0] rfl)
                        · have c_92 : ¬ (b01 ((wdn (fun i => Pq_12 (Oq_25 i)) (min 7 n) (Lm 3) (wdn (fun i => Pq_12 (Oq_25 i)) (min 7 n) (Lm 2) (wdn (fun i => Pq_12 (Oq_25 i)) (min 7 n) (Lm 1) (wdn (fun i => Pq_12 (Oq_25 i)) (min 7 n) (Lm 0) (fun S => decide (S = 0)))))) k2)) = 0 := fun h => c_92 ((nI_eq (a := b01 ((wdn (fun i => Pq_12 (Oq_25 i)) (min 7 n) (Lm 3) (wdn (fun i => Pq_12 (Oq_25 i)) (min 7 n) (Lm 2) (wdn (fun i => Pq_12 (Oq_25 i)) (min 7 n) (Lm 1) (wdn (fun i => Pq_12 (Oq_25 i)) (min 7 n) (Lm 0) (fun S => decide (S = 0)))))) k2)) (b := 0) (by omega) (by omega)).mpr h)
                          refine lv_iload hx hb dX0_bestHeat_113 (lv_at hl 4 rfl) ?_
                          refine lv_aload_n hx hb dX0_bestHeat_115 rfl (lv_at hl 0 rfl) ?_
                          refine va_get (D := (dC, dI)) (ci := 0) (v := .ref (h 21)) (C := RX0) (T := TX0) (N := 11) hx hb hts hin_X0 hown hK hP 2 rfl rfl 9 (by decide) hw8 (fun _ h9 => h9) rfl dX0_bestHeat_116 ?_
                          refine lv_iload hx hb dX0_bestHeat_119 (lv_at hl 5 rfl) ?_
                          refine va_iald hx hb hK hP 21 0 rfl rfl (vp_in_nI (n := k2) (N := 128) (by omega) (by decide)) dX0_bestHeat_121 ?_
                          have hb_93 : spS (fun i => Pq_12 (Oq_25 i)) (min 7 n) k2 ≤ 7 * 100 := Nat.le_trans (spS_le hvb_) (Nat.mul_le_mul_right 100 (by omega))
                          refine lv_topi (fun x_94 ex_94 => ?_)
                          obtain rfl : x_94 = nI (spS (fun i => Pq_12 (Oq_25 i)) (min 7 n) k2) := ex_94.trans ((congrArg (F_83 21) (nI_clamp (n := k2) (by omega))).trans (hSP_87 k2 (by omega)))
                          refine va_mmax hx hb (hml.trans hl.1.symm) hown hw9 hw10 hw4 hw11 (Nat.le_of_ble_eq_true rfl) (Nat.le_of_ble_eq_true rfl) (Nat.le_of_ble_eq_true rfl) (Nat.le_of_ble_eq_true rfl) dX0_bestHeat_122 ?_
                          refine lv_topi (fun x_95 ex_95 => ?_)
                          obtain rfl : x_95 = nI (max mo (spS (fun i => Pq_12 (Oq_25 i)) (min 7 n) k2)) := ex_95.trans (mm_max (a := mo) (b := spS (fun i => Pq_12 (Oq_25 i)) (min 7 n) k2) (by omega) (by omega))
                          refine lv_istore (lv' := [(4, .int (nI (max mo (spS (fun i => Pq_12 (Oq_25 i)) (min 7 n) k2)))), (0, .ref (h 2)), (1, .int (nI k0)), (2, .int (nI (min 7 n))), (3, .int (nI (2 ^ (min 7 n)))), (5, .int (nI k2))]) hx hb dX0_bestHeat_125 hl (by decide) rfl (fun ls hl => ?_)
                          refine lv_iinc (v := nI (k2 + 1)) (lv' := [(5, .int (nI (k2 + 1))), (4, .int (nI (max mo (spS (fun i => Pq_12 (Oq_25 i)) (min 7 n) k2)))), (0, .ref (h 2)), (1, .int (nI k0)), (2, .int (nI (min 7 n))), (3, .int (nI (2 ^ (min 7 n))))]) hx hb dX0_bestHeat_127 hl (k := 5) rfl (nI_1 _) (by decide) rfl (fun ls hl => ?_)
                          refine lv_goto (tgt := 97) hx hb dX0_bestHeat_130 (by decide) ?_
                          exact ih97 (max mo (spS (fun i => Pq_12 (Oq_25 i)) (min 7 n) k2)) (k2 + 1) (by omega) (by omega) (by
                            rcases Nat.le_total mo (spS (fun i => Pq_12 (Oq_25 i)) (min 7 n) k2) with z | z
                            · exact Or.inr ⟨k2, by omega, b01_n c_92, Nat.max_eq_right z⟩
                            · rw [Nat.max_eq_left z]; exact hM) (fun S hS_ hg => by
                            by_cases z : S = k2
                            · rw [z]; exact Nat.le_max_right _ _
                            · exact Nat.le_trans (hU S (by omega) hg) (Nat.le_max_left _ _)) (by omega) H locs ls hP hD hS (lv_sub hl [2, 3, 4, 5, 1, 0] rfl)
                  exact loop97 _ 0 0 (Nat.zero_le _) (by omega) (Or.inl rfl) (fun S h => absurd h (Nat.not_lt_zero S)) (Nat.lt_succ_self _) H locs ls hP hD hS (lv_sub hl [2, 3, 4, 5, 1, 0] rfl)
                · exact absurd c_88 (by decide)
      · have c_43 : ¬ (2 ^ (min 7 n)) ≤ k := fun h => c_43 ((nI_leI (a := 2 ^ (min 7 n)) (b := k) (by omega) (by omega)).mpr h)
        refine lv_aload_n hx hb dX0_bestHeat_41 rfl (lv_at hl 0 rfl) ?_
        refine va_get (D := (dC, dI)) (ci := 0) (v := .ref (h 22)) (C := RX0) (T := TX0) (N := 11) hx hb hts hin_X0 hown hK hP 2 rfl rfl 10 (by decide) hw7 (fun _ h9 => h9) rfl dX0_bestHeat_42 ?_
        refine lv_iload hx hb dX0_bestHeat_45 (lv_at hl 4 rfl) ?_
        refine lv_iload hx hb dX0_bestHeat_47 (lv_at hl 4 rfl) ?_
        refine lv_if_ne (tgt := 56) hx hb dX0_bestHeat_49 (by decide) (fun c_96 => ?_) (fun c_96 => ?_)
        · have c_96 : ¬ k = 0 := fun h => c_96 ((nI_eq (a := k) (b := 0) (by omega) (by omega)).mpr h)
          refine lv_iconst (v := 0) hx hb dX0_bestHeat_56 (by decide) ?_
          refine va_zast hx hb hK hP hD hS 22 1 rfl rfl (vp_in_nI (n := k) (N := 128) (by omega) (by decide)) dX0_bestHeat_57 (fun H locs hP hD hS => ?_)
          obtain ⟨F_97, eF_97⟩ : ∃ z : Nat → Nat → Int32, z = va_up F1 22 (upd (F1 22) (nI k).toNatClampNeg (vp_nar .boolean 0)) := ⟨_, rfl⟩
          have hP : va_P (dC, dI) vwCl (wC cI cZ h F_97 V) H := by rw [eF_97]; exact hP
          have hD : va_D A (wC cI cZ h F_97 V) := by rw [eF_97]; exact hD
          have hN_98 : ∀ i, i < 4 → F_97 14 i = nI (Lm i) := by rw [eF_97]; exact hN_42
          have hE_99 : F_97 22 k = 0 := by rw [eF_97]; show upd _ (nI k).toNatClampNeg _ _ = _; rw [nI_clamp (by omega)]; exact pk_us.trans (by decide)
          refine lv_iinc (v := nI (k + 1)) (lv' := [(4, .int (nI (k + 1))), (0, .ref (h 2)), (1, .int (nI k0)), (2, .int (nI (min 7 n))), (3, .int (nI (2 ^ (min 7 n))))]) hx hb dX0_bestHeat_58 hl (k := 4) rfl (nI_1 _) (by decide) rfl (fun ls hl => ?_)
          refine lv_goto (tgt := 35) hx hb dX0_bestHeat_61 (by decide) ?_
          exact ih35 (k + 1) F_97 (by omega) (fun S hS_ => by
            rw [eF_97]
            show upd (F1 22) (nI k).toNatClampNeg _ S = _
            rw [nI_clamp (by omega)]
            by_cases z : S = k
            · rw [z, decide_eq_false (by omega)]; exact pk_us.trans (by decide)
            · rw [pk_un z]; exact h22 S (by omega)) (fun j hj => ((va_ne eF_97 (fun h => hj (by rw [h]; decide))).trans (hfr j hj))) (by omega) H locs ls hP hD hS (lv_sub hl [1, 2, 3, 4, 0] rfl)
        · have c_96 : k = 0 := (nI_eq (a := k) (b := 0) (by omega) (by omega)).mp c_96
          refine lv_iconst (v := 1) hx hb dX0_bestHeat_52 (by decide) ?_
          refine lv_goto (tgt := 57) hx hb dX0_bestHeat_53 (by decide) ?_
          refine va_zast hx hb hK hP hD hS 22 1 rfl rfl (vp_in_nI (n := k) (N := 128) (by omega) (by decide)) dX0_bestHeat_57 (fun H locs hP hD hS => ?_)
          obtain ⟨F_100, eF_100⟩ : ∃ z : Nat → Nat → Int32, z = va_up F1 22 (upd (F1 22) (nI k).toNatClampNeg (vp_nar .boolean 1)) := ⟨_, rfl⟩
          have hP : va_P (dC, dI) vwCl (wC cI cZ h F_100 V) H := by rw [eF_100]; exact hP
          have hD : va_D A (wC cI cZ h F_100 V) := by rw [eF_100]; exact hD
          have hN_101 : ∀ i, i < 4 → F_100 14 i = nI (Lm i) := by rw [eF_100]; exact hN_42
          have hE_102 : F_100 22 k = 1 := by rw [eF_100]; show upd _ (nI k).toNatClampNeg _ _ = _; rw [nI_clamp (by omega)]; exact pk_us.trans (by decide)
          refine lv_iinc (v := nI (k + 1)) (lv' := [(4, .int (nI (k + 1))), (0, .ref (h 2)), (1, .int (nI k0)), (2, .int (nI (min 7 n))), (3, .int (nI (2 ^ (min 7 n))))]) hx hb dX0_bestHeat_58 hl (k := 4) rfl (nI_1 _) (by decide) rfl (fun ls hl => ?_)
          refine lv_goto (tgt := 35) hx hb dX0_bestHeat_61 (by decide) ?_
          exact ih35 (k + 1) F_100 (by omega) (fun S hS_ => by
            rw [eF_100]
            show upd (F1 22) (nI k).toNatClampNeg _ S = _
            rw [nI_clamp (by omega)]
            by_cases z : S = k
            · rw [z, decide_eq_true (by omega)]; exact pk_us.trans (by decide)
            · rw [pk_un z]; exact h22 S (by omega)) (fun j hj => ((va_ne eF_100 (fun h => hj (by rw [h]; decide))).trans (hfr j hj))) (by omega) H locs ls hP hD hS (lv_sub hl [1, 2, 3, 4, 0] rfl)
  exact loop35 _ 0 F_34 (Nat.zero_le _) (fun S h => absurd h (Nat.not_lt_zero S)) (fun _ _ => rfl) (Nat.lt_succ_self _) H locs ls hP hD hS (lv_sub hl [3, 4, 2, 1, 0] rfl)
