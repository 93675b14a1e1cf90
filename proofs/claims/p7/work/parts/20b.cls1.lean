def rm_X1_soilInAll : Room := { frames := 0, cells := 0, slots := 0, locals := 0 }
set_option maxHeartbeats 4000000 in
set_option maxRecDepth 100000 in
theorem c_X1_soilInAll (l : Launch) (dC : Nat → ClassId) (dI : Nat → Nat → Nat) (cI cZ cJ : ClassId) (h : Nat → Nat) (F : Nat → Nat → Int32) (V : Nat → Int32) (n : Nat) (hV1 : V 1 = nI n) (bV1 : n ≤ 40) (So : Nat → Nat) (hSo : ∀ i, i < 40 → F 9 i = nI (So i)) (bSo : ∀ i, i < 40 → So i ≤ 90)    : CtI l (dC, dI) vwCl (tys3 cI cZ cJ) yX1_soilInAll wsX1_soilInAll rm_X1_soilInAll [.ref (h 1)] (wC cI cZ h F V) (S := Unit) (fun r _ => r = nI (sumN So n)) (fun _ => wC cI cZ h F V) 0 0 := by
  refine ct_I (cc := cX1_soilInAll) (maxL := 3) (ty := .int) (own := RX1) (by decide) rfl rfl (Nat.le_of_ble_eq_true rfl) (lv := [(0, .ref (h 1))]) rfl ?_
  intro p e s m args below meth c A Q ls fx hK hP hD hA hl hret
  obtain ⟨hx, hb, hml, hown, hts⟩ := id fx
  have hS : va_S A s.heap s.heap [] := va_S.rf
  have hw0 := hts (.fieldLink RX1 43 "MirrorTower$Field" "size" "I") (by decide +kernel)
  have hin_X1 : ∀ w ∈ u_ws RX1 TX1 11, w ∈ wsX1_soilInAll := by decide +kernel
  have hw2 := hts (.fieldLink RX1 24 "MirrorTower$Field" "soils" "[I") (by decide +kernel)
  obtain ⟨H, hH⟩ : ∃ H, H = s.heap := ⟨_, rfl⟩
  rw [← hH] at hP ⊢
  have hS : va_S A s.heap H [] := by rw [hH]; exact hS
  generalize ([] : List Loc) = locs at hS ⊢
  refine lv_iconst (v := 0) hx hb dX1_soilInAll_0 (by decide) ?_
  refine lv_istore_n (lv' := [(1, .int 0), (0, .ref (h 1))]) hx hb dX1_soilInAll_1 rfl hl (by decide) rfl (fun ls hl => ?_)
  refine lv_iconst (v := 0) hx hb dX1_soilInAll_2 (by decide) ?_
  refine lv_istore_n (lv' := [(2, .int 0), (1, .int 0), (0, .ref (h 1))]) hx hb dX1_soilInAll_3 rfl hl (by decide) rfl (fun ls hl => ?_)
  have loop4 : ∀ (fu : Nat) (k : Nat), (k ≤ n) → (n - k) < fu → ∀ (H : Heap) (locs : List Loc) (ls : Array Slot), va_P (dC, dI) vwCl (wC cI cZ h F V) H → va_D A (wC cI cZ h F V) → va_S A s.heap H locs → lv_has ls 3 [(0, .ref (h 1)), (1, .int (nI (sumN So k))), (2, .int (nI k))] → W p l e rm_X1_soilInAll s m args below meth c H locs 0 0 Q (F0 m 4 ls []) := by
    intro fu
    induction fu with
    | zero => intro k hk hn_; exact absurd hn_ (Nat.not_lt_zero _)
    | succ fu ih4 =>
      intro k hk hn_ H locs ls hP hD hS hl
      refine lv_iload_n hx hb dX1_soilInAll_4 rfl (lv_at hl 2 rfl) ?_
      refine lv_aload_n hx hb dX1_soilInAll_5 rfl (lv_at hl 0 rfl) ?_
      refine va_get (D := (dC, dI)) (ci := 1) (v := .int (V 1)) (C := RX1) (T := TX1) (N := 11) hx hb hts hin_X1 hown hK hP 1 rfl rfl 5 (by decide) hw0 (fun _ h9 => h9) rfl dX1_soilInAll_6 ?_
      refine lv_topi (fun x_1 ex_1 => ?_)
      obtain rfl : x_1 = nI n := ex_1.trans (hV1)
      refine lv_icmp_ge (tgt := 27) hx hb dX1_soilInAll_9 (by decide) (fun c_2 => ?_) (fun c_2 => ?_)
      · have c_2 : n ≤ k := (nI_leI (a := n) (b := k) (by omega) (by omega)).mp c_2
        refine lv_iload_n hx hb dX1_soilInAll_27 rfl (lv_at hl 1 rfl) ?_
        exact hret (nI (sumN So k)) () H locs 28 ls rfl dX1_soilInAll_28 (by rw [show n = k by omega]) (hP) (hD) hS
      · have c_2 : ¬ n ≤ k := fun h => c_2 ((nI_leI (a := n) (b := k) (by omega) (by omega)).mpr h)
        refine lv_iload_n hx hb dX1_soilInAll_12 rfl (lv_at hl 1 rfl) ?_
        refine lv_aload_n hx hb dX1_soilInAll_13 rfl (lv_at hl 0 rfl) ?_
        refine va_get (D := (dC, dI)) (ci := 1) (v := .ref (h 9)) (C := RX1) (T := TX1) (N := 11) hx hb hts hin_X1 hown hK hP 1 rfl rfl 4 (by decide) hw2 (fun _ h9 => h9) rfl dX1_soilInAll_14 ?_
        refine lv_iload_n hx hb dX1_soilInAll_17 rfl (lv_at hl 2 rfl) ?_
        refine va_iald hx hb hK hP 9 0 rfl rfl (vp_in_nI (n := k) (N := 40) (by omega) (by decide)) dX1_soilInAll_18 ?_
        have hb_3 := bSo k (by omega)
        refine lv_topi (fun x_4 ex_4 => ?_)
        obtain rfl : x_4 = nI (So k) := ex_4.trans ((congrArg (F 9) (nI_clamp (n := k) (by omega))).trans (hSo k (by omega)))
        refine lv_iadd hx hb dX1_soilInAll_19 ?_
        refine lv_topi (fun x_5 ex_5 => ?_)
        obtain rfl : x_5 = nI ((sumN So k) + (So k)) := ex_5.trans (nI_add (sumN So k) (So k))
        refine lv_istore_n (lv' := [(1, .int (nI ((sumN So k) + (So k)))), (0, .ref (h 1)), (2, .int (nI k))]) hx hb dX1_soilInAll_20 rfl hl (by decide) rfl (fun ls hl => ?_)
        refine lv_iinc (v := nI (k + 1)) (lv' := [(2, .int (nI (k + 1))), (1, .int (nI ((sumN So k) + (So k)))), (0, .ref (h 1))]) hx hb dX1_soilInAll_21 hl (k := 2) rfl (nI_1 _) (by decide) rfl (fun ls hl => ?_)
        refine lv_goto (tgt := 4) hx hb dX1_soilInAll_24 (by decide) ?_
        exact ih4 (k + 1) (by omega) (by omega) H locs ls hP hD hS (lv_sub hl [2, 1, 0] rfl)
  exact loop4 _ 0 (by omega) (Nat.lt_succ_self _) H locs ls hP hD hS (lv_sub hl [2, 1, 0] rfl)
def rm_X1_growSoil : Room := { frames := 2, cells := 0, slots := 0, locals := 35 }
set_option maxHeartbeats 4000000 in
set_option maxRecDepth 100000 in
theorem c_X1_growSoil (l : Launch) (dC : Nat → ClassId) (dI : Nat → Nat → Nat) (cI cZ cJ : ClassId) (h : Nat → Nat) (F : Nat → Nat → Int32) (V : Nat → Int32) (n : Nat) (hV1 : V 1 = nI n) (bV1 : n ≤ 40) (d : Nat) (hV2 : V 2 = nI d) (bV2 : d ≤ 20) (So : Nat → Nat) (hSo : ∀ i, i < 40 → F 9 i = nI (So i)) (bSo : ∀ i, i < 40 → So i ≤ 90)    : CtV l (dC, dI) vwCl (tys3 cI cZ cJ) yX1_growSoil wsX1_growSoil rm_X1_growSoil [.ref (h 1)] (wC cI cZ h F V) (S := Nat → Nat → Int32) (fun u => (∀ j, j ∉ ([9] : List Nat) → u j = F j) ∧ ((∀ i, i < 40 → u 9 i = nI (grow So d n i)) ∧ ∀ i, i < 40 → grow So d n i ≤ 90)) (fun u => wC cI cZ h u V) 0 0 := by
  refine ct_V (cc := cX1_growSoil) (maxL := 2) (own := RX1) (by decide) rfl rfl (Nat.le_of_ble_eq_true rfl) (lv := [(0, .ref (h 1))]) rfl ?_
  intro p e s m args below meth c A Q ls hnm fx hK hP hD hA hl hret
  obtain ⟨hx, hb, hml, hown, hts⟩ := id fx
  have hS : va_S A s.heap s.heap [] := va_S.rf
  have hw0 := hts (.fieldLink RX1 43 "MirrorTower$Field" "size" "I") (by decide +kernel)
  have hin_X1 : ∀ w ∈ u_ws RX1 TX1 11, w ∈ wsX1_growSoil := by decide +kernel
  have hw2 := hts (.fieldLink RX1 24 "MirrorTower$Field" "soils" "[I") (by decide +kernel)
  obtain ⟨H, hH⟩ : ∃ H, H = s.heap := ⟨_, rfl⟩
  rw [← hH] at hP ⊢
  have hS : va_S A s.heap H [] := by rw [hH]; exact hS
  generalize ([] : List Loc) = locs at hS ⊢
  refine lv_iconst (v := 0) hx hb dX1_growSoil_0 (by decide) ?_
  refine lv_istore_n (lv' := [(1, .int 0), (0, .ref (h 1))]) hx hb dX1_growSoil_1 rfl hl (by decide) rfl (fun ls hl => ?_)
  have loop2 : ∀ (fu : Nat) (k : Nat) (F1 : Nat → Nat → Int32), (k ≤ n) → (∀ i, i < 40 → F1 9 i = nI (grow So d k i)) → (∀ i, i < 40 → grow So d k i ≤ 90) → (∀ j, j ∉ ([9] : List Nat) → F1 j = F j) → (n - k) < fu → ∀ (H : Heap) (locs : List Loc) (ls : Array Slot), va_P (dC, dI) vwCl (wC cI cZ h F1 V) H → va_D A (wC cI cZ h F1 V) → va_S A s.heap H locs → lv_has ls 2 [(0, .ref (h 1)), (1, .int (nI k))] → W p l e rm_X1_growSoil s m args below meth c H locs 0 0 Q (F0 m 2 ls []) := by
    intro fu
    induction fu with
    | zero => intro k F1 hk hS1 bS1 hfr hn_; exact absurd hn_ (Nat.not_lt_zero _)
    | succ fu ih2 =>
      intro k F1 hk hS1 bS1 hfr hn_ H locs ls hP hD hS hl
      refine lv_iload_n hx hb dX1_growSoil_2 rfl (lv_at hl 1 rfl) ?_
      refine lv_aload_n hx hb dX1_growSoil_3 rfl (lv_at hl 0 rfl) ?_
      refine va_get (D := (dC, dI)) (ci := 1) (v := .int (V 1)) (C := RX1) (T := TX1) (N := 11) hx hb hts hin_X1 hown hK hP 1 rfl rfl 5 (by decide) hw0 (fun _ h9 => h9) rfl dX1_growSoil_4 ?_
      refine lv_topi (fun x_1 ex_1 => ?_)
      obtain rfl : x_1 = nI n := ex_1.trans (hV1)
      refine lv_icmp_ge (tgt := 28) hx hb dX1_growSoil_7 (by decide) (fun c_2 => ?_) (fun c_2 => ?_)
      · have c_2 : n ≤ k := (nI_leI (a := n) (b := k) (by omega) (by omega)).mp c_2
        exact hret F1 H locs 28 ls dX1_growSoil_28 (by
                    obtain rfl : k = n := by omega
                    exact ⟨hfr, hS1, bS1⟩) (hP) (hD) hS
      · have c_2 : ¬ n ≤ k := fun h => c_2 ((nI_leI (a := n) (b := k) (by omega) (by omega)).mpr h)
        refine lv_aload_n hx hb dX1_growSoil_10 rfl (lv_at hl 0 rfl) ?_
        refine va_get (D := (dC, dI)) (ci := 1) (v := .ref (h 9)) (C := RX1) (T := TX1) (N := 11) hx hb hts hin_X1 hown hK hP 1 rfl rfl 4 (by decide) hw2 (fun _ h9 => h9) rfl dX1_growSoil_11 ?_
        refine lv_iload_n hx hb dX1_growSoil_14 rfl (lv_at hl 1 rfl) ?_
        refine lv_aload_n hx hb dX1_growSoil_15 rfl (lv_at hl 0 rfl) ?_
        refine lv_iload_n hx hb dX1_growSoil_16 rfl (lv_at hl 1 rfl) ?_
        refine lv_iconst (v := 1) hx hb dX1_growSoil_17 (by decide) ?_
        refine cw_Vi (As := [.int (nI k), .int 1]) (rest := [.int (nI k), .ref (h 9)]) (c_X1_soilOf l dC dI cI cZ cJ h F1 V d hV2 (by omega) (grow So d k) hS1 bS1 k 1 (by omega) (by omega)) fx (cwV 2 hts gX1_growSoil_X1_soilOf rfl rfl rfl (by decide +kernel) ⟨Nat.le_of_ble_eq_true rfl, Nat.le_of_ble_eq_true rfl⟩) hK hP hD hS hA 1 rfl rfl rfl rfl hl.1 rfl (Nat.le_of_ble_eq_true rfl) dX1_growSoil_18 ⟨Nat.le_of_ble_eq_true rfl, Nat.le_of_ble_eq_true rfl⟩ (fun r_3 u_4 H locs hw_5 hP hD hS => ?_)
        have hP : va_P (dC, dI) vwCl (wC cI cZ h F1 V) H := hP
        have hD : va_D A (wC cI cZ h F1 V) := hD
        obtain rfl : r_3 = nI (min 90 ((grow So d k) k + 1 * d)) := hw_5
        refine va_iast hx hb hK hP hD hS 9 0 rfl rfl (vp_in_nI (n := k) (N := 40) (by omega) (by decide)) dX1_growSoil_21 (fun H locs hP hD hS => ?_)
        obtain ⟨F_6, eF_6⟩ : ∃ z : Nat → Nat → Int32, z = va_up F1 9 (upd (F1 9) (nI k).toNatClampNeg (nI (min 90 ((grow So d k) k + 1 * d)))) := ⟨_, rfl⟩
        have hP : va_P (dC, dI) vwCl (wC cI cZ h F_6 V) H := by rw [eF_6]; exact hP
        have hD : va_D A (wC cI cZ h F_6 V) := by rw [eF_6]; exact hD
        obtain ⟨S_7, eS_7⟩ : ∃ z : Nat → Nat, z = nup (grow So d k) k (min 90 ((grow So d k) k + 1 * d)) := ⟨_, rfl⟩
        have hN_8 : ∀ i, i < 40 → F_6 9 i = nI (S_7 i) := by rw [eF_6, eS_7]; show ∀ i, i < 40 → upd (F1 9) (nI k).toNatClampNeg (nI (min 90 ((grow So d k) k + 1 * d))) i = nI _; exact nf_put hS1 (nI_clamp (n := k) (by omega))
        have bN_9 : ∀ i, i < 40 → S_7 i ≤ 90 := by rw [eS_7]; exact nb_put bS1 (by omega)
        refine lv_iinc (v := nI (k + 1)) (lv' := [(1, .int (nI (k + 1))), (0, .ref (h 1))]) hx hb dX1_growSoil_22 hl (k := 1) rfl (nI_1 _) (by decide) rfl (fun ls hl => ?_)
        refine lv_goto (tgt := 2) hx hb dX1_growSoil_25 (by decide) ?_
        have hb_10 : S_7 = grow So d (k + 1) := by rw [eS_7, grow_at]; exact grow_up So d k
        rw [hb_10] at hN_8 bN_9
        exact ih2 (k + 1) F_6 (by omega) hN_8 bN_9 (fun j hj => ((va_ne eF_6 (fun h => hj (by rw [h]; decide))).trans (hfr j hj))) (by omega) H locs ls hP hD hS (lv_sub hl [1, 0] rfl)
  exact loop2 _ 0 F (by omega) (by rw [grow_0]; exact hSo) (by rw [grow_0]; exact bSo) (fun _ _ => rfl) (Nat.lt_succ_self _) H locs ls hP hD hS (lv_sub hl [1, 0] rfl)
def rm_X1_mostSoiled : Room := { frames := 0, cells := 0, slots := 0, locals := 0 }
set_option maxHeartbeats 4000000 in
set_option maxRecDepth 100000 in
theorem c_X1_mostSoiled (l : Launch) (dC : Nat → ClassId) (dI : Nat → Nat → Nat) (cI cZ cJ : ClassId) (h : Nat → Nat) (F : Nat → Nat → Int32) (V : Nat → Int32) (n : Nat) (hV1 : V 1 = nI n) (bV1 : n ≤ 40) (So : Nat → Nat) (hSo : ∀ i, i < 40 → F 9 i = nI (So i)) (bSo : ∀ i, i < 40 → So i ≤ 90)    : CtI l (dC, dI) vwCl (tys3 cI cZ cJ) yX1_mostSoiled wsX1_mostSoiled rm_X1_mostSoiled [.ref (h 1)] (wC cI cZ h F V) (S := Unit) (fun r _ => r = nI (best4 So (n - 1))) (fun _ => wC cI cZ h F V) 0 0 := by
  refine ct_I (cc := cX1_mostSoiled) (maxL := 3) (ty := .int) (own := RX1) (by decide) rfl rfl (Nat.le_of_ble_eq_true rfl) (lv := [(0, .ref (h 1))]) rfl ?_
  intro p e s m args below meth c A Q ls fx hK hP hD hA hl hret
  obtain ⟨hx, hb, hml, hown, hts⟩ := id fx
  have hS : va_S A s.heap s.heap [] := va_S.rf
  have hw0 := hts (.fieldLink RX1 43 "MirrorTower$Field" "size" "I") (by decide +kernel)
  have hin_X1 : ∀ w ∈ u_ws RX1 TX1 11, w ∈ wsX1_mostSoiled := by decide +kernel
  have hw2 := hts (.fieldLink RX1 24 "MirrorTower$Field" "soils" "[I") (by decide +kernel)
  obtain ⟨H, hH⟩ : ∃ H, H = s.heap := ⟨_, rfl⟩
  rw [← hH] at hP ⊢
  have hS : va_S A s.heap H [] := by rw [hH]; exact hS
  generalize ([] : List Loc) = locs at hS ⊢
  refine lv_iconst (v := 0) hx hb dX1_mostSoiled_0 (by decide) ?_
  refine lv_istore_n (lv' := [(1, .int 0), (0, .ref (h 1))]) hx hb dX1_mostSoiled_1 rfl hl (by decide) rfl (fun ls hl => ?_)
  refine lv_iconst (v := 1) hx hb dX1_mostSoiled_2 (by decide) ?_
  refine lv_istore_n (lv' := [(2, .int 1), (1, .int 0), (0, .ref (h 1))]) hx hb dX1_mostSoiled_3 rfl hl (by decide) rfl (fun ls hl => ?_)
  have loop4 : ∀ (fu : Nat) (k : Nat) (b : Nat), (1 ≤ k) → (k ≤ n ∨ k = 1) → (b = best4 So (k - 1)) → (b < 40) → (n + 1 - k) < fu → ∀ (H : Heap) (locs : List Loc) (ls : Array Slot), va_P (dC, dI) vwCl (wC cI cZ h F V) H → va_D A (wC cI cZ h F V) → va_S A s.heap H locs → lv_has ls 3 [(0, .ref (h 1)), (1, .int (nI b)), (2, .int (nI k))] → W p l e rm_X1_mostSoiled s m args below meth c H locs 0 0 Q (F0 m 4 ls []) := by
    intro fu
    induction fu with
    | zero => intro k b hk hk2 hbb hb2 hn_; exact absurd hn_ (Nat.not_lt_zero _)
    | succ fu ih4 =>
      intro k b hk hk2 hbb hb2 hn_ H locs ls hP hD hS hl
      refine lv_iload_n hx hb dX1_mostSoiled_4 rfl (lv_at hl 2 rfl) ?_
      refine lv_aload_n hx hb dX1_mostSoiled_5 rfl (lv_at hl 0 rfl) ?_
      refine va_get (D := (dC, dI)) (ci := 1) (v := .int (V 1)) (C := RX1) (T := TX1) (N := 11) hx hb hts hin_X1 hown hK hP 1 rfl rfl 5 (by decide) hw0 (fun _ h9 => h9) rfl dX1_mostSoiled_6 ?_
      refine lv_topi (fun x_1 ex_1 => ?_)
      obtain rfl : x_1 = nI n := ex_1.trans (hV1)
      refine lv_icmp_ge (tgt := 35) hx hb dX1_mostSoiled_9 (by decide) (fun c_2 => ?_) (fun c_2 => ?_)
      · have c_2 : n ≤ k := (nI_leI (a := n) (b := k) (by omega) (by omega)).mp c_2
        refine lv_iload_n hx hb dX1_mostSoiled_35 rfl (lv_at hl 1 rfl) ?_
        exact hret (nI b) () H locs 36 ls rfl dX1_mostSoiled_36 (by
                    by_cases h1 : n = 0
                    · have h2 : k = 1 := by omega
                      rw [hbb, h2, h1]
                    · rw [hbb, show k - 1 = n - 1 by omega]) (hP) (hD) hS
      · have c_2 : ¬ n ≤ k := fun h => c_2 ((nI_leI (a := n) (b := k) (by omega) (by omega)).mpr h)
        refine lv_aload_n hx hb dX1_mostSoiled_12 rfl (lv_at hl 0 rfl) ?_
        refine va_get (D := (dC, dI)) (ci := 1) (v := .ref (h 9)) (C := RX1) (T := TX1) (N := 11) hx hb hts hin_X1 hown hK hP 1 rfl rfl 4 (by decide) hw2 (fun _ h9 => h9) rfl dX1_mostSoiled_13 ?_
        refine lv_iload_n hx hb dX1_mostSoiled_16 rfl (lv_at hl 2 rfl) ?_
        refine va_iald hx hb hK hP 9 0 rfl rfl (vp_in_nI (n := k) (N := 40) (by omega) (by decide)) dX1_mostSoiled_17 ?_
        have hb_3 := bSo k (by omega)
        refine lv_topi (fun x_4 ex_4 => ?_)
        obtain rfl : x_4 = nI (So k) := ex_4.trans ((congrArg (F 9) (nI_clamp (n := k) (by omega))).trans (hSo k (by omega)))
        refine lv_aload_n hx hb dX1_mostSoiled_18 rfl (lv_at hl 0 rfl) ?_
        refine va_get (D := (dC, dI)) (ci := 1) (v := .ref (h 9)) (C := RX1) (T := TX1) (N := 11) hx hb hts hin_X1 hown hK hP 1 rfl rfl 4 (by decide) hw2 (fun _ h9 => h9) rfl dX1_mostSoiled_19 ?_
        refine lv_iload_n hx hb dX1_mostSoiled_22 rfl (lv_at hl 1 rfl) ?_
        refine va_iald hx hb hK hP 9 0 rfl rfl (vp_in_nI (n := b) (N := 40) (by omega) (by decide)) dX1_mostSoiled_23 ?_
        have hb_5 := bSo b (by omega)
        refine lv_topi (fun x_6 ex_6 => ?_)
        obtain rfl : x_6 = nI (So b) := ex_6.trans ((congrArg (F 9) (nI_clamp (n := b) (by omega))).trans (hSo b (by omega)))
        refine lv_icmp_le (tgt := 29) hx hb dX1_mostSoiled_24 (by decide) (fun c_7 => ?_) (fun c_7 => ?_)
        · have c_7 : (So k) ≤ (So b) := (nI_leI (a := So k) (b := So b) (by omega) (by omega)).mp c_7
          refine lv_iinc (v := nI (k + 1)) (lv' := [(2, .int (nI (k + 1))), (0, .ref (h 1)), (1, .int (nI b))]) hx hb dX1_mostSoiled_29 hl (k := 2) rfl (nI_1 _) (by decide) rfl (fun ls hl => ?_)
          refine lv_goto (tgt := 4) hx hb dX1_mostSoiled_32 (by decide) ?_
          exact ih4 (k + 1) b (by omega) (by omega) (by rw [show k + 1 - 1 = k by omega, best4_s So (by omega), ← hbb, if_neg (by omega)]) (by omega) (by omega) H locs ls hP hD hS (lv_sub hl [1, 2, 0] rfl)
        · have c_7 : ¬ (So k) ≤ (So b) := fun h => c_7 ((nI_leI (a := So k) (b := So b) (by omega) (by omega)).mpr h)
          refine lv_iload_n hx hb dX1_mostSoiled_27 rfl (lv_at hl 2 rfl) ?_
          refine lv_istore_n (lv' := [(1, .int (nI k)), (0, .ref (h 1)), (2, .int (nI k))]) hx hb dX1_mostSoiled_28 rfl hl (by decide) rfl (fun ls hl => ?_)
          refine lv_iinc (v := nI (k + 1)) (lv' := [(2, .int (nI (k + 1))), (1, .int (nI k)), (0, .ref (h 1))]) hx hb dX1_mostSoiled_29 hl (k := 2) rfl (nI_1 _) (by decide) rfl (fun ls hl => ?_)
          refine lv_goto (tgt := 4) hx hb dX1_mostSoiled_32 (by decide) ?_
          exact ih4 (k + 1) k (by omega) (by omega) (by rw [show k + 1 - 1 = k by omega, best4_s So (by omega), ← hbb, if_pos (by omega)]) (by omega) (by omega) H locs ls hP hD hS (lv_sub hl [2, 1, 0] rfl)
  exact loop4 _ 1 0 (by omega) (by omega) rfl (by omega) (Nat.lt_succ_self _) H locs ls hP hD hS (lv_sub hl [2, 1, 0] rfl)
def rm_X1_washMost : Room := { frames := 1, cells := 0, slots := 0, locals := 22 }
set_option maxHeartbeats 4000000 in
set_option maxRecDepth 100000 in
theorem c_X1_washMost (l : Launch) (dC : Nat → ClassId) (dI : Nat → Nat → Nat) (cI cZ cJ : ClassId) (h : Nat → Nat) (F : Nat → Nat → Int32) (V : Nat → Int32) (n : Nat) (hV1 : V 1 = nI n) (bV1 : n ≤ 40) (So : Nat → Nat) (hSo : ∀ i, i < 40 → F 9 i = nI (So i)) (bSo : ∀ i, i < 40 → So i ≤ 90) (k0 : Nat) (hk0 : k0 ≤ 40)   : CtI l (dC, dI) vwCl (tys3 cI cZ cJ) yX1_washMost wsX1_washMost rm_X1_washMost [.ref (h 1), .int (nI k0)] (wC cI cZ h F V) (S := Nat → Nat → Int32) (fun r u => (r = nI (wgo So n (min k0 n))) ∧ (∀ j, j ∉ ([9] : List Nat) → u j = F j) ∧ ((∀ i, i < 40 → u 9 i = nI (wsh So n (min k0 n) i)) ∧ ∀ i, i < 40 → wsh So n (min k0 n) i ≤ 90)) (fun u => wC cI cZ h u V) 0 0 := by
  refine ct_I (cc := cX1_washMost) (maxL := 5) (ty := .int) (own := RX1) (by decide) rfl rfl (Nat.le_of_ble_eq_true rfl) (lv := [(0, .ref (h 1)), (1, .int (nI k0))]) rfl ?_
  intro p e s m args below meth c A Q ls fx hK hP hD hA hl hret
  obtain ⟨hx, hb, hml, hown, hts⟩ := id fx
  have hS : va_S A s.heap s.heap [] := va_S.rf
  have hw0 := hts (.fieldLink RX1 43 "MirrorTower$Field" "size" "I") (by decide +kernel)
  have hin_X1 : ∀ w ∈ u_ws RX1 TX1 11, w ∈ wsX1_washMost := by decide +kernel
  have hw2 := hts (.methodLink RX1 66 Lib.Math.min.name) (by decide +kernel)
  have hw3 := hts (.static Lib.Math.min.name) (by decide +kernel)
  have hw4 := hts (.initialized "java/lang/Math") (by decide +kernel)
  have hw5 := hts (.code Lib.Math.min.name Lib.Math.min.code 2 (some .int)) (by decide +kernel)
  have hw6 := hts (.fieldLink RX1 24 "MirrorTower$Field" "soils" "[I") (by decide +kernel)
  obtain ⟨H, hH⟩ : ∃ H, H = s.heap := ⟨_, rfl⟩
  rw [← hH] at hP ⊢
  have hS : va_S A s.heap H [] := by rw [hH]; exact hS
  generalize ([] : List Loc) = locs at hS ⊢
  refine lv_iconst (v := 0) hx hb dX1_washMost_0 (by decide) ?_
  refine lv_istore_n (lv' := [(2, .int 0), (0, .ref (h 1)), (1, .int (nI k0))]) hx hb dX1_washMost_1 rfl hl (by decide) rfl (fun ls hl => ?_)
  refine lv_iload_n hx hb dX1_washMost_2 rfl (lv_at hl 2 rfl) ?_
  refine lv_aload_n hx hb dX1_washMost_3 rfl (lv_at hl 1 rfl) ?_
  refine va_get (D := (dC, dI)) (ci := 1) (v := .int (V 1)) (C := RX1) (T := TX1) (N := 11) hx hb hts hin_X1 hown hK hP 1 rfl rfl 5 (by decide) hw0 (fun _ h9 => h9) rfl dX1_washMost_4 ?_
  refine lv_topi (fun x_1 ex_1 => ?_)
  obtain rfl : x_1 = nI n := ex_1.trans (hV1)
  refine va_mmin hx hb (hml.trans hl.1.symm) hown hw2 hw3 hw4 hw5 (Nat.le_of_ble_eq_true rfl) (Nat.le_of_ble_eq_true rfl) (Nat.le_of_ble_eq_true rfl) (Nat.le_of_ble_eq_true rfl) dX1_washMost_7 ?_
  refine lv_topi (fun x_2 ex_2 => ?_)
  obtain rfl : x_2 = nI (min k0 n) := ex_2.trans (mm_min (a := k0) (b := n) (by omega) (by omega))
  refine lv_istore_n (lv' := [(3, .int (nI (min k0 n))), (2, .int 0), (0, .ref (h 1)), (1, .int (nI k0))]) hx hb dX1_washMost_10 rfl hl (by decide) rfl (fun ls hl => ?_)
  have loop11 : ∀ (fu : Nat) (k : Nat) (t : Nat) (F1 : Nat → Nat → Int32), (k + t = min k0 n) → (∀ i, i < 40 → F1 9 i = nI (wsh So n t i)) → (∀ i, i < 40 → wsh So n t i ≤ 90) → (∀ j, j ∉ ([9] : List Nat) → F1 j = F j) → (k) < fu → ∀ (H : Heap) (locs : List Loc) (ls : Array Slot), va_P (dC, dI) vwCl (wC cI cZ h F1 V) H → va_D A (wC cI cZ h F1 V) → va_S A s.heap H locs → lv_has ls 5 [(0, .ref (h 1)), (1, .int (nI k0)), (2, .int (nI (wgo So n t))), (3, .int (nI k))] → W p l e rm_X1_washMost s m args below meth c H locs 0 0 Q (F0 m 11 ls []) := by
    intro fu
    induction fu with
    | zero => intro k t F1 hk hS1 bS1 hfr hn_; exact absurd hn_ (Nat.not_lt_zero _)
    | succ fu ih11 =>
      intro k t F1 hk hS1 bS1 hfr hn_ H locs ls hP hD hS hl
      refine lv_iload_n hx hb dX1_washMost_11 rfl (lv_at hl 3 rfl) ?_
      refine lv_if_le (tgt := 45) hx hb dX1_washMost_12 (by decide) (fun c_3 => ?_) (fun c_3 => ?_)
      · have c_3 : k ≤ 0 := (nI_leI (a := k) (b := 0) (by omega) (by omega)).mp c_3
        refine lv_iload_n hx hb dX1_washMost_45 rfl (lv_at hl 2 rfl) ?_
        exact hret (nI (wgo So n t)) F1 H locs 46 ls rfl dX1_washMost_46 (by
                    obtain rfl : t = min k0 n := by omega
                    exact ⟨rfl, hfr, hS1, bS1⟩) (hP) (hD) hS
      · have c_3 : ¬ k ≤ 0 := fun h => c_3 ((nI_leI (a := k) (b := 0) (by omega) (by omega)).mpr h)
        refine lv_aload_n hx hb dX1_washMost_15 rfl (lv_at hl 0 rfl) ?_
        refine cw_Vi (As := []) (rest := []) (c_X1_mostSoiled l dC dI cI cZ cJ h F1 V n hV1 (by omega) (wsh So n t) hS1 bS1) fx (cwV 0 hts gX1_washMost_X1_mostSoiled rfl rfl rfl (by decide +kernel) ⟨Nat.le_of_ble_eq_true rfl, Nat.le_of_ble_eq_true rfl⟩) hK hP hD hS hA 1 rfl rfl rfl rfl hl.1 rfl (Nat.le_of_ble_eq_true rfl) dX1_washMost_16 ⟨Nat.le_of_ble_eq_true rfl, Nat.le_of_ble_eq_true rfl⟩ (fun r_4 u_5 H locs hw_6 hP hD hS => ?_)
        have hP : va_P (dC, dI) vwCl (wC cI cZ h F1 V) H := hP
        have hD : va_D A (wC cI cZ h F1 V) := hD
        obtain rfl : r_4 = nI (best4 (wsh So n t) (n - 1)) := hw_6
        have hb_7 := best4_le (wsh So n t) (n - 1)
        refine lv_istore (lv' := [(4, .int (nI (best4 (wsh So n t) (n - 1)))), (0, .ref (h 1)), (1, .int (nI k0)), (2, .int (nI (wgo So n t))), (3, .int (nI k))]) hx hb dX1_washMost_19 hl (by decide) rfl (fun ls hl => ?_)
        refine lv_iload_n hx hb dX1_washMost_21 rfl (lv_at hl 3 rfl) ?_
        refine lv_aload_n hx hb dX1_washMost_22 rfl (lv_at hl 1 rfl) ?_
        refine va_get (D := (dC, dI)) (ci := 1) (v := .ref (h 9)) (C := RX1) (T := TX1) (N := 11) hx hb hts hin_X1 hown hK hP 1 rfl rfl 4 (by decide) hw6 (fun _ h9 => h9) rfl dX1_washMost_23 ?_
        refine lv_iload hx hb dX1_washMost_26 (lv_at hl 0 rfl) ?_
        refine va_iald hx hb hK hP 9 0 rfl rfl (vp_in_nI (n := best4 (wsh So n t) (n - 1)) (N := 40) (by omega) (by decide)) dX1_washMost_28 ?_
        have hb_8 := bS1 (best4 (wsh So n t) (n - 1)) (by omega)
        try dsimp only at hb_8
        refine lv_topi (fun x_9 ex_9 => ?_)
        obtain rfl : x_9 = nI ((wsh So n t) (best4 (wsh So n t) (n - 1))) := ex_9.trans ((congrArg (F1 9) (nI_clamp (n := best4 (wsh So n t) (n - 1)) (by omega))).trans (hS1 (best4 (wsh So n t) (n - 1)) (by omega)))
        refine lv_iadd hx hb dX1_washMost_29 ?_
        refine lv_topi (fun x_10 ex_10 => ?_)
        obtain rfl : x_10 = nI ((wgo So n t) + ((wsh So n t) (best4 (wsh So n t) (n - 1)))) := ex_10.trans (nI_add (wgo So n t) ((wsh So n t) (best4 (wsh So n t) (n - 1))))
        refine lv_istore_n (lv' := [(2, .int (nI ((wgo So n t) + ((wsh So n t) (best4 (wsh So n t) (n - 1)))))), (4, .int (nI (best4 (wsh So n t) (n - 1)))), (0, .ref (h 1)), (1, .int (nI k0)), (3, .int (nI k))]) hx hb dX1_washMost_30 rfl hl (by decide) rfl (fun ls hl => ?_)
        refine lv_aload_n hx hb dX1_washMost_31 rfl (lv_at hl 2 rfl) ?_
        refine va_get (D := (dC, dI)) (ci := 1) (v := .ref (h 9)) (C := RX1) (T := TX1) (N := 11) hx hb hts hin_X1 hown hK hP 1 rfl rfl 4 (by decide) hw6 (fun _ h9 => h9) rfl dX1_washMost_32 ?_
        refine lv_iload hx hb dX1_washMost_35 (lv_at hl 1 rfl) ?_
        refine lv_iconst (v := 0) hx hb dX1_washMost_37 (by decide) ?_
        refine va_iast hx hb hK hP hD hS 9 0 rfl rfl (vp_in_nI (n := best4 (wsh So n t) (n - 1)) (N := 40) (by omega) (by decide)) dX1_washMost_38 (fun H locs hP hD hS => ?_)
        obtain ⟨F_11, eF_11⟩ : ∃ z : Nat → Nat → Int32, z = va_up F1 9 (upd (F1 9) (nI (best4 (wsh So n t) (n - 1))).toNatClampNeg 0) := ⟨_, rfl⟩
        have hP : va_P (dC, dI) vwCl (wC cI cZ h F_11 V) H := by rw [eF_11]; exact hP
        have hD : va_D A (wC cI cZ h F_11 V) := by rw [eF_11]; exact hD
        obtain ⟨S_12, eS_12⟩ : ∃ z : Nat → Nat, z = nup (wsh So n t) (best4 (wsh So n t) (n - 1)) 0 := ⟨_, rfl⟩
        have hN_13 : ∀ i, i < 40 → F_11 9 i = nI (S_12 i) := by rw [eF_11, eS_12]; show ∀ i, i < 40 → upd (F1 9) (nI (best4 (wsh So n t) (n - 1))).toNatClampNeg 0 i = nI _; exact nf_put hS1 (nI_clamp (n := best4 (wsh So n t) (n - 1)) (by omega))
        have bN_14 : ∀ i, i < 40 → S_12 i ≤ 90 := by rw [eS_12]; exact nb_put bS1 (by omega)
        have hE_15 : F_11 9 (best4 (wsh So n t) (n - 1)) = 0 := by rw [eF_11]; show upd _ (nI (best4 (wsh So n t) (n - 1))).toNatClampNeg _ _ = _; rw [nI_clamp (by omega)]; exact pk_us
        refine lv_iinc (v := nI (k - 1)) (lv' := [(3, .int (nI (k - 1))), (2, .int (nI ((wgo So n t) + ((wsh So n t) (best4 (wsh So n t) (n - 1)))))), (4, .int (nI (best4 (wsh So n t) (n - 1)))), (0, .ref (h 1)), (1, .int (nI k0))]) hx hb dX1_washMost_39 hl (k := 4) rfl (dec_nI (by omega)) (by decide) rfl (fun ls hl => ?_)
        refine lv_goto (tgt := 11) hx hb dX1_washMost_42 (by decide) ?_
        have hb_16 : S_12 = wsh So n (t + 1) := by rw [eS_12]; rfl
        rw [hb_16] at hN_13 bN_14
        exact ih11 (k - 1) (t + 1) F_11 (by omega) hN_13 bN_14 (fun j hj => ((va_ne eF_11 (fun h => hj (by rw [h]; decide))).trans (hfr j hj))) (by omega) H locs ls hP hD hS (lv_sub hl [3, 4, 1, 0] rfl)
  exact loop11 _ (min k0 n) 0 F (by omega) hSo bSo (fun _ _ => rfl) (Nat.lt_succ_self _) H locs ls hP hD hS (lv_sub hl [2, 3, 1, 0] rfl)
