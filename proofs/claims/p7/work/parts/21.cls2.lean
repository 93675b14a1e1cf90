def rm_X0_keptPowerAt : Room := { frames := 0, cells := 0, slots := 0, locals := 0 }
set_option maxHeartbeats 4000000 in
set_option maxRecDepth 100000 in
theorem c_X0_keptPowerAt (l : Launch) (dC : Nat → ClassId) (dI : Nat → Nat → Nat) (cI cZ cJ : ClassId) (h : Nat → Nat) (F : Nat → Nat → Int32) (V : Nat → Int32)  (k0 : Nat) (hk0 : k0 < 4)   : CtI l (dC, dI) vwCl (tys3 cI cZ cJ) yX0_keptPowerAt wsX0_keptPowerAt rm_X0_keptPowerAt [.ref (h 2), .int (nI k0)] (wC cI cZ h F V) (S := Unit) (fun r _ => r = F 20 k0) (fun _ => wC cI cZ h F V) 0 0 := by
  refine ct_I (cc := cX0_keptPowerAt) (maxL := 2) (ty := .int) (own := RX0) (by decide) rfl rfl (Nat.le_of_ble_eq_true rfl) (lv := [(0, .ref (h 2)), (1, .int (nI k0))]) rfl ?_
  intro p e s m args below meth c A Q ls fx hK hP hD hA hl hret
  obtain ⟨hx, hb, hml, hown, hts⟩ := id fx
  have hS : va_S A s.heap s.heap [] := va_S.rf
  have hw0 := hts (.fieldLink RX0 40 "MirrorTower$Face" "keptPowers" "[I") (by decide +kernel)
  have hin_X0 : ∀ w ∈ u_ws RX0 TX0 11, w ∈ wsX0_keptPowerAt := by decide +kernel
  obtain ⟨H, hH⟩ : ∃ H, H = s.heap := ⟨_, rfl⟩
  rw [← hH] at hP ⊢
  have hS : va_S A s.heap H [] := by rw [hH]; exact hS
  generalize ([] : List Loc) = locs at hS ⊢
  refine lv_aload_n hx hb dX0_keptPowerAt_0 rfl (lv_at hl 0 rfl) ?_
  refine va_get (D := (dC, dI)) (ci := 0) (v := .ref (h 20)) (C := RX0) (T := TX0) (N := 11) hx hb hts hin_X0 hown hK hP 2 rfl rfl 7 (by decide) hw0 (fun _ h9 => h9) rfl dX0_keptPowerAt_1 ?_
  refine lv_iload_n hx hb dX0_keptPowerAt_4 rfl (lv_at hl 1 rfl) ?_
  refine va_iald hx hb hK hP 20 0 rfl rfl (vp_in_nI (n := k0) (N := 4) (by omega) (by decide)) dX0_keptPowerAt_5 ?_
  refine lv_topi (fun x_1 ex_1 => ?_)
  rw [nI_clamp (n := k0) (by omega)] at ex_1
  exact hret x_1 () H locs 6 ls rfl dX0_keptPowerAt_6 (ex_1) (hP) (hD) hS
def rm_X0_keptCellOf : Room := { frames := 0, cells := 0, slots := 0, locals := 0 }
set_option maxHeartbeats 4000000 in
set_option maxRecDepth 100000 in
theorem c_X0_keptCellOf (l : Launch) (dC : Nat → ClassId) (dI : Nat → Nat → Nat) (cI cZ cJ : ClassId) (h : Nat → Nat) (F : Nat → Nat → Int32) (V : Nat → Int32) (ks : Nat) (hV3 : V 3 = nI ks) (bV3 : ks ≤ 40) (k0 : Nat) (hk0 : k0 < 40)   : CtI l (dC, dI) vwCl (tys3 cI cZ cJ) yX0_keptCellOf wsX0_keptCellOf rm_X0_keptCellOf [.ref (h 2), .int (nI k0)] (wC cI cZ h F V) (S := Unit) (fun r _ => r = if k0 < ks then F 19 k0 else (-1)) (fun _ => wC cI cZ h F V) 0 0 := by
  refine ct_I (cc := cX0_keptCellOf) (maxL := 2) (ty := .int) (own := RX0) (by decide) rfl rfl (Nat.le_of_ble_eq_true rfl) (lv := [(0, .ref (h 2)), (1, .int (nI k0))]) rfl ?_
  intro p e s m args below meth c A Q ls fx hK hP hD hA hl hret
  obtain ⟨hx, hb, hml, hown, hts⟩ := id fx
  have hS : va_S A s.heap s.heap [] := va_S.rf
  have hw0 := hts (.fieldLink RX0 60 "MirrorTower$Face" "keptSize" "I") (by decide +kernel)
  have hin_X0 : ∀ w ∈ u_ws RX0 TX0 11, w ∈ wsX0_keptCellOf := by decide +kernel
  have hw2 := hts (.fieldLink RX0 37 "MirrorTower$Face" "keptCells" "[I") (by decide +kernel)
  obtain ⟨H, hH⟩ : ∃ H, H = s.heap := ⟨_, rfl⟩
  rw [← hH] at hP ⊢
  have hS : va_S A s.heap H [] := by rw [hH]; exact hS
  generalize ([] : List Loc) = locs at hS ⊢
  refine lv_iload_n hx hb dX0_keptCellOf_0 rfl (lv_at hl 1 rfl) ?_
  refine lv_aload_n hx hb dX0_keptCellOf_1 rfl (lv_at hl 0 rfl) ?_
  refine va_get (D := (dC, dI)) (ci := 0) (v := .int (V 3)) (C := RX0) (T := TX0) (N := 11) hx hb hts hin_X0 hown hK hP 2 rfl rfl 8 (by decide) hw0 (fun _ h9 => h9) rfl dX0_keptCellOf_2 ?_
  refine lv_topi (fun x_1 ex_1 => ?_)
  obtain rfl : x_1 = nI ks := ex_1.trans (hV3)
  refine lv_icmp_ge (tgt := 17) hx hb dX0_keptCellOf_5 (by decide) (fun c_2 => ?_) (fun c_2 => ?_)
  · have c_2 : ks ≤ k0 := (nI_leI (a := ks) (b := k0) (by omega) (by omega)).mp c_2
    refine lv_iconst (v := (-1)) hx hb dX0_keptCellOf_17 (by decide) ?_
    exact hret (-1) () H locs 18 ls rfl dX0_keptCellOf_18 (by rw [if_neg (by omega)]) (hP) (hD) hS
  · have c_2 : ¬ ks ≤ k0 := fun h => c_2 ((nI_leI (a := ks) (b := k0) (by omega) (by omega)).mpr h)
    refine lv_aload_n hx hb dX0_keptCellOf_8 rfl (lv_at hl 0 rfl) ?_
    refine va_get (D := (dC, dI)) (ci := 0) (v := .ref (h 19)) (C := RX0) (T := TX0) (N := 11) hx hb hts hin_X0 hown hK hP 2 rfl rfl 6 (by decide) hw2 (fun _ h9 => h9) rfl dX0_keptCellOf_9 ?_
    refine lv_iload_n hx hb dX0_keptCellOf_12 rfl (lv_at hl 1 rfl) ?_
    refine va_iald hx hb hK hP 19 0 rfl rfl (vp_in_nI (n := k0) (N := 40) (by omega) (by decide)) dX0_keptCellOf_13 ?_
    refine lv_topi (fun x_3 ex_3 => ?_)
    rw [nI_clamp (n := k0) (by omega)] at ex_3
    refine lv_goto (tgt := 18) hx hb dX0_keptCellOf_14 (by decide) ?_
    exact hret x_3 () H locs 18 ls rfl dX0_keptCellOf_18 (by rw [if_pos (by omega)]; exact ex_3) (hP) (hD) hS
def rm_X0_roomiestCell : Room := { frames := 0, cells := 0, slots := 0, locals := 0 }
set_option maxHeartbeats 4000000 in
set_option maxRecDepth 100000 in
theorem c_X0_roomiestCell (l : Launch) (dC : Nat → ClassId) (dI : Nat → Nat → Nat) (cI cZ cJ : ClassId) (h : Nat → Nat) (F : Nat → Nat → Int32) (V : Nat → Int32)  (Lf : Nat → Nat) (hLf : ∀ i, i < 4 → F 18 i = nI (Lf i)) (bLf : ∀ i, i < 4 → Lf i ≤ 10000)    : CtI l (dC, dI) vwCl (tys3 cI cZ cJ) yX0_roomiestCell wsX0_roomiestCell rm_X0_roomiestCell [.ref (h 2)] (wC cI cZ h F V) (S := Unit) (fun r _ => r = nI (best4 Lf 3)) (fun _ => wC cI cZ h F V) 0 0 := by
  refine ct_I (cc := cX0_roomiestCell) (maxL := 3) (ty := .int) (own := RX0) (by decide) rfl rfl (Nat.le_of_ble_eq_true rfl) (lv := [(0, .ref (h 2))]) rfl ?_
  intro p e s m args below meth c A Q ls fx hK hP hD hA hl hret
  obtain ⟨hx, hb, hml, hown, hts⟩ := id fx
  have hS : va_S A s.heap s.heap [] := va_S.rf
  have hw0 := hts (.fieldLink RX0 34 "MirrorTower$Face" "left" "[I") (by decide +kernel)
  have hin_X0 : ∀ w ∈ u_ws RX0 TX0 11, w ∈ wsX0_roomiestCell := by decide +kernel
  obtain ⟨H, hH⟩ : ∃ H, H = s.heap := ⟨_, rfl⟩
  rw [← hH] at hP ⊢
  have hS : va_S A s.heap H [] := by rw [hH]; exact hS
  generalize ([] : List Loc) = locs at hS ⊢
  refine lv_iconst (v := 0) hx hb dX0_roomiestCell_0 (by decide) ?_
  refine lv_istore_n (lv' := [(1, .int 0), (0, .ref (h 2))]) hx hb dX0_roomiestCell_1 rfl hl (by decide) rfl (fun ls hl => ?_)
  refine lv_iconst (v := 1) hx hb dX0_roomiestCell_2 (by decide) ?_
  refine lv_istore_n (lv' := [(2, .int 1), (1, .int 0), (0, .ref (h 2))]) hx hb dX0_roomiestCell_3 rfl hl (by decide) rfl (fun ls hl => ?_)
  have loop4 : ∀ (fu : Nat) (k : Nat) (b : Nat), (1 ≤ k) → (k ≤ 4) → (b = best4 Lf (k - 1)) → (b < 4) → (4 - k) < fu → ∀ (H : Heap) (locs : List Loc) (ls : Array Slot), va_P (dC, dI) vwCl (wC cI cZ h F V) H → va_D A (wC cI cZ h F V) → va_S A s.heap H locs → lv_has ls 3 [(0, .ref (h 2)), (1, .int (nI b)), (2, .int (nI k))] → W p l e rm_X0_roomiestCell s m args below meth c H locs 0 0 Q (F0 m 4 ls []) := by
    intro fu
    induction fu with
    | zero => intro k b hk hk2 hbb hb2 hn_; exact absurd hn_ (Nat.not_lt_zero _)
    | succ fu ih4 =>
      intro k b hk hk2 hbb hb2 hn_ H locs ls hP hD hS hl
      refine lv_iload_n hx hb dX0_roomiestCell_4 rfl (lv_at hl 2 rfl) ?_
      refine lv_iconst (v := 4) hx hb dX0_roomiestCell_5 (by decide) ?_
      refine lv_icmp_ge (tgt := 32) hx hb dX0_roomiestCell_6 (by decide) (fun c_1 => ?_) (fun c_1 => ?_)
      · have c_1 : 4 ≤ k := (nI_leI (a := 4) (b := k) (by omega) (by omega)).mp c_1
        refine lv_iload_n hx hb dX0_roomiestCell_32 rfl (lv_at hl 1 rfl) ?_
        exact hret (nI b) () H locs 33 ls rfl dX0_roomiestCell_33 (by rw [hbb, show k - 1 = 3 by omega]) (hP) (hD) hS
      · have c_1 : ¬ 4 ≤ k := fun h => c_1 ((nI_leI (a := 4) (b := k) (by omega) (by omega)).mpr h)
        refine lv_aload_n hx hb dX0_roomiestCell_9 rfl (lv_at hl 0 rfl) ?_
        refine va_get (D := (dC, dI)) (ci := 0) (v := .ref (h 18)) (C := RX0) (T := TX0) (N := 11) hx hb hts hin_X0 hown hK hP 2 rfl rfl 5 (by decide) hw0 (fun _ h9 => h9) rfl dX0_roomiestCell_10 ?_
        refine lv_iload_n hx hb dX0_roomiestCell_13 rfl (lv_at hl 2 rfl) ?_
        refine va_iald hx hb hK hP 18 0 rfl rfl (vp_in_nI (n := k) (N := 4) (by omega) (by decide)) dX0_roomiestCell_14 ?_
        have hb_2 := bLf k (by omega)
        refine lv_topi (fun x_3 ex_3 => ?_)
        obtain rfl : x_3 = nI (Lf k) := ex_3.trans ((congrArg (F 18) (nI_clamp (n := k) (by omega))).trans (hLf k (by omega)))
        refine lv_aload_n hx hb dX0_roomiestCell_15 rfl (lv_at hl 0 rfl) ?_
        refine va_get (D := (dC, dI)) (ci := 0) (v := .ref (h 18)) (C := RX0) (T := TX0) (N := 11) hx hb hts hin_X0 hown hK hP 2 rfl rfl 5 (by decide) hw0 (fun _ h9 => h9) rfl dX0_roomiestCell_16 ?_
        refine lv_iload_n hx hb dX0_roomiestCell_19 rfl (lv_at hl 1 rfl) ?_
        refine va_iald hx hb hK hP 18 0 rfl rfl (vp_in_nI (n := b) (N := 4) (by omega) (by decide)) dX0_roomiestCell_20 ?_
        have hb_4 := bLf b (by omega)
        refine lv_topi (fun x_5 ex_5 => ?_)
        obtain rfl : x_5 = nI (Lf b) := ex_5.trans ((congrArg (F 18) (nI_clamp (n := b) (by omega))).trans (hLf b (by omega)))
        refine lv_icmp_le (tgt := 26) hx hb dX0_roomiestCell_21 (by decide) (fun c_6 => ?_) (fun c_6 => ?_)
        · have c_6 : (Lf k) ≤ (Lf b) := (nI_leI (a := Lf k) (b := Lf b) (by omega) (by omega)).mp c_6
          refine lv_iinc (v := nI (k + 1)) (lv' := [(2, .int (nI (k + 1))), (0, .ref (h 2)), (1, .int (nI b))]) hx hb dX0_roomiestCell_26 hl (k := 2) rfl (nI_1 _) (by decide) rfl (fun ls hl => ?_)
          refine lv_goto (tgt := 4) hx hb dX0_roomiestCell_29 (by decide) ?_
          exact ih4 (k + 1) b (by omega) (by omega) (by rw [show k + 1 - 1 = k by omega, best4_s Lf (by omega), ← hbb, if_neg (by omega)]) (by omega) (by omega) H locs ls hP hD hS (lv_sub hl [1, 2, 0] rfl)
        · have c_6 : ¬ (Lf k) ≤ (Lf b) := fun h => c_6 ((nI_leI (a := Lf k) (b := Lf b) (by omega) (by omega)).mpr h)
          refine lv_iload_n hx hb dX0_roomiestCell_24 rfl (lv_at hl 2 rfl) ?_
          refine lv_istore_n (lv' := [(1, .int (nI k)), (0, .ref (h 2)), (2, .int (nI k))]) hx hb dX0_roomiestCell_25 rfl hl (by decide) rfl (fun ls hl => ?_)
          refine lv_iinc (v := nI (k + 1)) (lv' := [(2, .int (nI (k + 1))), (1, .int (nI k)), (0, .ref (h 2))]) hx hb dX0_roomiestCell_26 hl (k := 2) rfl (nI_1 _) (by decide) rfl (fun ls hl => ?_)
          refine lv_goto (tgt := 4) hx hb dX0_roomiestCell_29 (by decide) ?_
          exact ih4 (k + 1) k (by omega) (by omega) (by rw [show k + 1 - 1 = k by omega, best4_s Lf (by omega), ← hbb, if_pos (by omega)]) (by omega) (by omega) H locs ls hP hD hS (lv_sub hl [2, 1, 0] rfl)
  exact loop4 _ 1 0 (by omega) (by omega) rfl (by omega) (Nat.lt_succ_self _) H locs ls hP hD hS (lv_sub hl [2, 1, 0] rfl)
def rm_X0_readPowers : Room := { frames := 3, cells := 0, slots := 0, locals := 60 }
set_option maxHeartbeats 4000000 in
set_option maxRecDepth 100000 in
theorem c_X0_readPowers (l : Launch) (dC : Nat → ClassId) (dI : Nat → Nat → Nat) (cI cZ cJ : ClassId) (h : Nat → Nat) (F : Nat → Nat → Int32) (V : Nat → Int32) (n : Nat) (hV1 : V 1 = nI n) (bV1 : n ≤ 40) (d : Nat) (hV2 : V 2 = nI d) (bV2 : d ≤ 20) (So : Nat → Nat) (hSo : ∀ i, i < 40 → F 9 i = nI (So i)) (bSo : ∀ i, i < 40 → So i ≤ 90) (Hh : Nat → Nat) (hHh : ∀ i, i < 24 → F 12 i = nI (Hh i)) (bHh : ∀ i, i < 24 → Hh i ≤ 9) (Wd : Nat → Nat) (hWd : ∀ i, i < 24 → F 13 i = nI (Wd i)) (bWd : ∀ i, i < 24 → Wd i ≤ 99) (k0 k1 : Nat) (hk0 : k0 < 24) (hk1 : k1 ≤ 23)   : CtV l (dC, dI) vwCl (tys3 cI cZ cJ) yX0_readPowers wsX0_readPowers rm_X0_readPowers [.ref (h 2), .int (nI k0), .int (nI k1)] (wC cI cZ h F V) (S := Nat → Nat → Int32) (fun u => (∀ j, j ∉ ([16] : List Nat) → u j = F j) ∧ (∀ i, i < n → u 16 i = nI (pwF F Hh So Wd d k0 k1 i))) (fun u => wC cI cZ h u V) 0 0 := by
  refine ct_V (cc := cX0_readPowers) (maxL := 4) (own := RX0) (by decide) rfl rfl (Nat.le_of_ble_eq_true rfl) (lv := [(0, .ref (h 2)), (1, .int (nI k0)), (2, .int (nI k1))]) rfl ?_
  intro p e s m args below meth c A Q ls hnm fx hK hP hD hA hl hret
  obtain ⟨hx, hb, hml, hown, hts⟩ := id fx
  have hS : va_S A s.heap s.heap [] := va_S.rf
  have hw0 := hts (.fieldLink RX0 11 "MirrorTower$Face" "field" "LMirrorTower$Field;") (by decide +kernel)
  have hin_X0 : ∀ w ∈ u_ws RX0 TX0 11, w ∈ wsX0_readPowers := by decide +kernel
  have hw2 := hts (.fieldLink RX0 28 "MirrorTower$Face" "powers" "[I") (by decide +kernel)
  obtain ⟨H, hH⟩ : ∃ H, H = s.heap := ⟨_, rfl⟩
  rw [← hH] at hP ⊢
  have hS : va_S A s.heap H [] := by rw [hH]; exact hS
  generalize ([] : List Loc) = locs at hS ⊢
  refine lv_iconst (v := 0) hx hb dX0_readPowers_0 (by decide) ?_
  refine lv_istore_n (lv' := [(3, .int 0), (0, .ref (h 2)), (1, .int (nI k0)), (2, .int (nI k1))]) hx hb dX0_readPowers_1 rfl hl (by decide) rfl (fun ls hl => ?_)
  have loop2 : ∀ (fu : Nat) (k : Nat) (F1 : Nat → Nat → Int32), (k ≤ n) → (∀ i, i < k → F1 16 i = nI (pwF F Hh So Wd d k0 k1 i)) → (∀ j, j ∉ ([16] : List Nat) → F1 j = F j) → (n - k) < fu → ∀ (H : Heap) (locs : List Loc) (ls : Array Slot), va_P (dC, dI) vwCl (wC cI cZ h F1 V) H → va_D A (wC cI cZ h F1 V) → va_S A s.heap H locs → lv_has ls 4 [(0, .ref (h 2)), (1, .int (nI k0)), (2, .int (nI k1)), (3, .int (nI k))] → W p l e rm_X0_readPowers s m args below meth c H locs 0 0 Q (F0 m 2 ls []) := by
    intro fu
    induction fu with
    | zero => intro k F1 hk hp hfr hn_; exact absurd hn_ (Nat.not_lt_zero _)
    | succ fu ih2 =>
      intro k F1 hk hp hfr hn_ H locs ls hP hD hS hl
      have hN_1 : ∀ i, i < 40 → F1 9 i = nI (So i) := by rw [hfr 9 (by decide)]; exact hSo
      have hN_2 : ∀ i, i < 24 → F1 12 i = nI (Hh i) := by rw [hfr 12 (by decide)]; exact hHh
      have hN_3 : ∀ i, i < 24 → F1 13 i = nI (Wd i) := by rw [hfr 13 (by decide)]; exact hWd
      refine lv_iload_n hx hb dX0_readPowers_2 rfl (lv_at hl 3 rfl) ?_
      refine lv_aload_n hx hb dX0_readPowers_3 rfl (lv_at hl 0 rfl) ?_
      refine va_get (D := (dC, dI)) (ci := 0) (v := .ref (h 1)) (C := RX0) (T := TX0) (N := 11) hx hb hts hin_X0 hown hK hP 2 rfl rfl 0 (by decide) hw0 (fun _ h9 => h9) rfl dX0_readPowers_4 ?_
      refine cw_Vi (As := []) (rest := [.int (nI k)]) (c_X1_size l dC dI cI cZ cJ h F1 V) fx (cwV 0 hts gX0_readPowers_X1_size rfl rfl rfl (by decide +kernel) ⟨Nat.le_of_ble_eq_true rfl, Nat.le_of_ble_eq_true rfl⟩) hK hP hD hS hA 1 rfl rfl rfl rfl hl.1 rfl (Nat.le_of_ble_eq_true rfl) dX0_readPowers_7 ⟨Nat.le_of_ble_eq_true rfl, Nat.le_of_ble_eq_true rfl⟩ (fun r_4 u_5 H locs hw_6 hP hD hS => ?_)
      have hP : va_P (dC, dI) vwCl (wC cI cZ h F1 V) H := hP
      have hD : va_D A (wC cI cZ h F1 V) := hD
      obtain rfl : r_4 = nI n := Eq.trans hw_6 hV1
      refine lv_icmp_ge (tgt := 35) hx hb dX0_readPowers_10 (by decide) (fun c_7 => ?_) (fun c_7 => ?_)
      · have c_7 : n ≤ k := (nI_leI (a := n) (b := k) (by omega) (by omega)).mp c_7
        exact hret F1 H locs 35 ls dX0_readPowers_35 (⟨hfr, fun i hi => hp i (by omega)⟩) (hP) (hD) hS
      · have c_7 : ¬ n ≤ k := fun h => c_7 ((nI_leI (a := n) (b := k) (by omega) (by omega)).mpr h)
        refine lv_aload_n hx hb dX0_readPowers_13 rfl (lv_at hl 0 rfl) ?_
        refine va_get (D := (dC, dI)) (ci := 0) (v := .ref (h 16)) (C := RX0) (T := TX0) (N := 11) hx hb hts hin_X0 hown hK hP 2 rfl rfl 3 (by decide) hw2 (fun _ h9 => h9) rfl dX0_readPowers_14 ?_
        refine lv_iload_n hx hb dX0_readPowers_17 rfl (lv_at hl 3 rfl) ?_
        refine lv_aload_n hx hb dX0_readPowers_18 rfl (lv_at hl 0 rfl) ?_
        refine va_get (D := (dC, dI)) (ci := 0) (v := .ref (h 1)) (C := RX0) (T := TX0) (N := 11) hx hb hts hin_X0 hown hK hP 2 rfl rfl 0 (by decide) hw0 (fun _ h9 => h9) rfl dX0_readPowers_19 ?_
        refine lv_iload_n hx hb dX0_readPowers_22 rfl (lv_at hl 3 rfl) ?_
        refine lv_iload_n hx hb dX0_readPowers_23 rfl (lv_at hl 1 rfl) ?_
        refine lv_iload_n hx hb dX0_readPowers_24 rfl (lv_at hl 2 rfl) ?_
        refine cw_Vi (As := [.int (nI k), .int (nI k0), .int (nI k1)]) (rest := [.int (nI k), .ref (h 16)]) (c_X1_powerOf l dC dI cI cZ cJ h F1 V d hV2 (by omega) So hN_1 bSo Hh hN_2 bHh Wd hN_3 bWd k k0 k1 (by omega) (by omega) (by omega)) fx (cwV 3 hts gX0_readPowers_X1_powerOf rfl rfl rfl (by decide +kernel) ⟨Nat.le_of_ble_eq_true rfl, Nat.le_of_ble_eq_true rfl⟩) hK hP hD hS hA 1 rfl rfl rfl rfl hl.1 rfl (Nat.le_of_ble_eq_true rfl) dX0_readPowers_25 ⟨Nat.le_of_ble_eq_true rfl, Nat.le_of_ble_eq_true rfl⟩ (fun r_8 u_9 H locs hw_10 hP hD hS => ?_)
        have hP : va_P (dC, dI) vwCl (wC cI cZ h F1 V) H := hP
        have hD : va_D A (wC cI cZ h F1 V) := hD
        obtain rfl : r_8 = nI (pwN F1 Hh So Wd d k k0 k1) := hw_10
        refine va_iast hx hb hK hP hD hS 16 0 rfl rfl (vp_in_nI (n := k) (N := 40) (by omega) (by decide)) dX0_readPowers_28 (fun H locs hP hD hS => ?_)
        obtain ⟨F_11, eF_11⟩ : ∃ z : Nat → Nat → Int32, z = va_up F1 16 (upd (F1 16) (nI k).toNatClampNeg (nI (pwN F1 Hh So Wd d k k0 k1))) := ⟨_, rfl⟩
        have hP : va_P (dC, dI) vwCl (wC cI cZ h F_11 V) H := by rw [eF_11]; exact hP
        have hD : va_D A (wC cI cZ h F_11 V) := by rw [eF_11]; exact hD
        have hN_12 : ∀ i, i < 40 → F_11 9 i = nI (So i) := by rw [eF_11]; exact hN_1
        have hN_13 : ∀ i, i < 24 → F_11 12 i = nI (Hh i) := by rw [eF_11]; exact hN_2
        have hN_14 : ∀ i, i < 24 → F_11 13 i = nI (Wd i) := by rw [eF_11]; exact hN_3
        refine lv_iinc (v := nI (k + 1)) (lv' := [(3, .int (nI (k + 1))), (0, .ref (h 2)), (1, .int (nI k0)), (2, .int (nI k1))]) hx hb dX0_readPowers_29 hl (k := 3) rfl (nI_1 _) (by decide) rfl (fun ls hl => ?_)
        refine lv_goto (tgt := 2) hx hb dX0_readPowers_32 (by decide) ?_
        have hb_15 : ∀ i, i < k + 1 → F_11 16 i = nI (pwF F Hh So Wd d k0 k1 i) := fun i hi => by
          rw [eF_11]
          show upd (F1 16) (nI k).toNatClampNeg _ i = _
          rw [nI_clamp (by omega)]
          by_cases q : i = k
          · rw [q, pk_us, pwN_cong (F := F) (fun j hj => hfr j (fun z => hj ((by decide : ∀ x ∈ ([16] : List Nat), x ∈ ([15, 16, 17, 18, 19, 20, 21, 22] : List Nat)) j z)))]; rfl
          · rw [pk_un q]; exact hp i (by omega)
        exact ih2 (k + 1) F_11 (by omega) hb_15 (fun j hj => ((va_ne eF_11 (fun h => hj (by rw [h]; decide))).trans (hfr j hj))) (by omega) H locs ls hP hD hS (lv_sub hl [1, 2, 3, 0] rfl)
  exact loop2 _ 0 F (by omega) (fun i hi => absurd hi (Nat.not_lt_zero i)) (fun _ _ => rfl) (Nat.lt_succ_self _) H locs ls hP hD hS (lv_sub hl [1, 2, 3, 0] rfl)
def rm_X0_rank : Room := { frames := 1, cells := 0, slots := 0, locals := 20 }
set_option maxHeartbeats 4000000 in
set_option maxRecDepth 100000 in
theorem c_X0_rank (l : Launch) (dC : Nat → ClassId) (dI : Nat → Nat → Nat) (cI cZ cJ : ClassId) (h : Nat → Nat) (F : Nat → Nat → Int32) (V : Nat → Int32) (n : Nat) (hV1 : V 1 = nI n) (bV1 : n ≤ 40) (Pw : Nat → Nat) (hPw : ∀ i, i < n → F 16 i = nI (Pw i)) (bPw : ∀ i, i < n → Pw i ≤ 100)    : CtV l (dC, dI) vwCl (tys3 cI cZ cJ) yX0_rank wsX0_rank rm_X0_rank [.ref (h 2)] (wC cI cZ h F V) (S := Nat → Nat → Int32) (fun u => (∀ j, j ∉ ([15] : List Nat) → u j = F j) ∧ (∀ i, i < n → u 15 i = nI (ordn Pw n i))) (fun u => wC cI cZ h u V) 0 0 := by
  refine ct_V (cc := cX0_rank) (maxL := 3) (own := RX0) (by decide) rfl rfl (Nat.le_of_ble_eq_true rfl) (lv := [(0, .ref (h 2))]) rfl ?_
  intro p e s m args below meth c A Q ls hnm fx hK hP hD hA hl hret
  obtain ⟨hx, hb, hml, hown, hts⟩ := id fx
  have hS : va_S A s.heap s.heap [] := va_S.rf
  have hw0 := hts (.fieldLink RX0 11 "MirrorTower$Face" "field" "LMirrorTower$Field;") (by decide +kernel)
  have hin_X0 : ∀ w ∈ u_ws RX0 TX0 11, w ∈ wsX0_rank := by decide +kernel
  have hw2 := hts (.fieldLink RX0 25 "MirrorTower$Face" "order" "[I") (by decide +kernel)
  have hw3 := hts (.fieldLink RX0 28 "MirrorTower$Face" "powers" "[I") (by decide +kernel)
  obtain ⟨H, hH⟩ : ∃ H, H = s.heap := ⟨_, rfl⟩
  rw [← hH] at hP ⊢
  have hS : va_S A s.heap H [] := by rw [hH]; exact hS
  generalize ([] : List Loc) = locs at hS ⊢
  refine lv_iconst (v := 0) hx hb dX0_rank_0 (by decide) ?_
  refine lv_istore_n (lv' := [(1, .int 0), (0, .ref (h 2))]) hx hb dX0_rank_1 rfl hl (by decide) rfl (fun ls hl => ?_)
  have loop2 : ∀ (fu : Nat) (mm : Nat) (F1 : Nat → Nat → Int32), (mm ≤ n) → (∀ i, i < mm → F1 15 i = nI (ordn Pw mm i)) → (∀ j, j ∉ ([15] : List Nat) → F1 j = F j) → (n - mm) < fu → ∀ (H : Heap) (locs : List Loc) (ls : Array Slot), va_P (dC, dI) vwCl (wC cI cZ h F1 V) H → va_D A (wC cI cZ h F1 V) → va_S A s.heap H locs → lv_has ls 3 [(0, .ref (h 2)), (1, .int (nI mm))] → W p l e rm_X0_rank s m args below meth c H locs 0 0 Q (F0 m 2 ls []) := by
    intro fu
    induction fu with
    | zero => intro mm F1 hm hO hfr hn_; exact absurd hn_ (Nat.not_lt_zero _)
    | succ fu ih2 =>
      intro mm F1 hm hO hfr hn_ H locs ls hP hD hS hl
      have hN_1 : ∀ i, i < n → F1 16 i = nI (Pw i) := by rw [hfr 16 (by decide)]; exact hPw
      refine lv_iload_n hx hb dX0_rank_2 rfl (lv_at hl 1 rfl) ?_
      refine lv_aload_n hx hb dX0_rank_3 rfl (lv_at hl 0 rfl) ?_
      refine va_get (D := (dC, dI)) (ci := 0) (v := .ref (h 1)) (C := RX0) (T := TX0) (N := 11) hx hb hts hin_X0 hown hK hP 2 rfl rfl 0 (by decide) hw0 (fun _ h9 => h9) rfl dX0_rank_4 ?_
      refine cw_Vi (As := []) (rest := [.int (nI mm)]) (c_X1_size l dC dI cI cZ cJ h F1 V) fx (cwV 0 hts gX0_rank_X1_size rfl rfl rfl (by decide +kernel) ⟨Nat.le_of_ble_eq_true rfl, Nat.le_of_ble_eq_true rfl⟩) hK hP hD hS hA 1 rfl rfl rfl rfl hl.1 rfl (Nat.le_of_ble_eq_true rfl) dX0_rank_7 ⟨Nat.le_of_ble_eq_true rfl, Nat.le_of_ble_eq_true rfl⟩ (fun r_2 u_3 H locs hw_4 hP hD hS => ?_)
      have hP : va_P (dC, dI) vwCl (wC cI cZ h F1 V) H := hP
      have hD : va_D A (wC cI cZ h F1 V) := hD
      obtain rfl : r_2 = nI n := Eq.trans hw_4 hV1
      refine lv_icmp_ge (tgt := 74) hx hb dX0_rank_10 (by decide) (fun c_5 => ?_) (fun c_5 => ?_)
      · have c_5 : n ≤ mm := (nI_leI (a := n) (b := mm) (by omega) (by omega)).mp c_5
        exact hret F1 H locs 74 ls dX0_rank_74 (by
                    obtain rfl : mm = n := by omega
                    exact ⟨hfr, hO⟩) (hP) (hD) hS
      · have c_5 : ¬ n ≤ mm := fun h => c_5 ((nI_leI (a := n) (b := mm) (by omega) (by omega)).mpr h)
        refine lv_iload_n hx hb dX0_rank_13 rfl (lv_at hl 1 rfl) ?_
        refine lv_istore_n (lv' := [(2, .int (nI mm)), (0, .ref (h 2)), (1, .int (nI mm))]) hx hb dX0_rank_14 rfl hl (by decide) rfl (fun ls hl => ?_)
        have loop15 : ∀ (fu : Nat) (t : Nat) (F2 : Nat → Nat → Int32), (t ≤ mm) → (posn Pw (ordn Pw mm) mm mm = posn Pw (ordn Pw mm) mm t) → (∀ i, i < t → F2 15 i = nI (ordn Pw mm i)) → (∀ i, t < i → i ≤ mm → F2 15 i = nI (ordn Pw mm (i - 1))) → (∀ j, j ∉ ([15] : List Nat) → F2 j = F j) → (t) < fu → ∀ (H : Heap) (locs : List Loc) (ls : Array Slot), va_P (dC, dI) vwCl (wC cI cZ h F2 V) H → va_D A (wC cI cZ h F2 V) → va_S A s.heap H locs → lv_has ls 3 [(0, .ref (h 2)), (1, .int (nI mm)), (2, .int (nI t))] → W p l e rm_X0_rank s m args below meth c H locs 0 0 Q (F0 m 15 ls []) := by
          intro fu
          induction fu with
          | zero => intro t F2 ht hps hlo hhi hfr2 hn_; exact absurd hn_ (Nat.not_lt_zero _)
          | succ fu ih15 =>
            intro t F2 ht hps hlo hhi hfr2 hn_ H locs ls hP hD hS hl
            have hN_6 : ∀ i, i < n → F2 16 i = nI (Pw i) := by rw [hfr2 16 (by decide)]; exact hPw
            refine lv_iload_n hx hb dX0_rank_15 rfl (lv_at hl 2 rfl) ?_
            refine lv_if_le (tgt := 61) hx hb dX0_rank_16 (by decide) (fun c_7 => ?_) (fun c_7 => ?_)
            · have c_7 : t ≤ 0 := (nI_leI (a := t) (b := 0) (by omega) (by omega)).mp c_7
              refine lv_aload_n hx hb dX0_rank_61 rfl (lv_at hl 0 rfl) ?_
              refine va_get (D := (dC, dI)) (ci := 0) (v := .ref (h 15)) (C := RX0) (T := TX0) (N := 11) hx hb hts hin_X0 hown hK hP 2 rfl rfl 2 (by decide) hw2 (fun _ h9 => h9) rfl dX0_rank_62 ?_
              refine lv_iload_n hx hb dX0_rank_65 rfl (lv_at hl 2 rfl) ?_
              refine lv_iload_n hx hb dX0_rank_66 rfl (lv_at hl 1 rfl) ?_
              refine va_iast hx hb hK hP hD hS 15 0 rfl rfl (vp_in_nI (n := t) (N := 40) (by omega) (by decide)) dX0_rank_67 (fun H locs hP hD hS => ?_)
              obtain ⟨F_8, eF_8⟩ : ∃ z : Nat → Nat → Int32, z = va_up F2 15 (upd (F2 15) (nI t).toNatClampNeg (nI mm)) := ⟨_, rfl⟩
              have hP : va_P (dC, dI) vwCl (wC cI cZ h F_8 V) H := by rw [eF_8]; exact hP
              have hD : va_D A (wC cI cZ h F_8 V) := by rw [eF_8]; exact hD
              have hN_9 : ∀ i, i < n → F_8 16 i = nI (Pw i) := by rw [eF_8]; exact hN_6
              refine lv_iinc (v := nI (mm + 1)) (lv' := [(1, .int (nI (mm + 1))), (0, .ref (h 2)), (2, .int (nI t))]) hx hb dX0_rank_68 hl (k := 1) rfl (nI_1 _) (by decide) rfl (fun ls hl => ?_)
              refine lv_goto (tgt := 2) hx hb dX0_rank_71 (by decide) ?_
              have hb_11 : posn Pw (ordn Pw mm) mm mm = t := by
                rw [hps]
                by_cases h0 : t = 0
                · rw [h0]; rfl
                · exact posn_e (by omega) (by omega)
              have hb_10 : ∀ i, i < mm + 1 → F_8 15 i = nI (ordn Pw (mm + 1) i) := fun i hi => by
                rw [eF_8]
                show upd (F2 15) (nI t).toNatClampNeg (nI mm) i = nI (insn Pw (ordn Pw mm) mm i)
                rw [nI_clamp (by omega), insn, hb_11]
                by_cases q1 : i < t
                · rw [if_pos q1, pk_un (by omega)]; exact hlo i q1
                · rw [if_neg q1]
                  by_cases q2 : i = t
                  · rw [if_pos q2, q2]; exact pk_us
                  · rw [if_neg q2, pk_un q2]; exact hhi i (by omega) (by omega)
              exact ih2 (mm + 1) F_8 (by omega) hb_10 (fun j hj => ((va_ne eF_8 (fun h => hj (by rw [h]; decide))).trans (hfr2 j hj))) (by omega) H locs ls hP hD hS (lv_sub hl [1, 0] rfl)
            · have c_7 : ¬ t ≤ 0 := fun h => c_7 ((nI_leI (a := t) (b := 0) (by omega) (by omega)).mpr h)
              refine lv_aload_n hx hb dX0_rank_19 rfl (lv_at hl 0 rfl) ?_
              refine va_get (D := (dC, dI)) (ci := 0) (v := .ref (h 16)) (C := RX0) (T := TX0) (N := 11) hx hb hts hin_X0 hown hK hP 2 rfl rfl 3 (by decide) hw3 (fun _ h9 => h9) rfl dX0_rank_20 ?_
              refine lv_aload_n hx hb dX0_rank_23 rfl (lv_at hl 0 rfl) ?_
              refine va_get (D := (dC, dI)) (ci := 0) (v := .ref (h 15)) (C := RX0) (T := TX0) (N := 11) hx hb hts hin_X0 hown hK hP 2 rfl rfl 2 (by decide) hw2 (fun _ h9 => h9) rfl dX0_rank_24 ?_
              refine lv_iload_n hx hb dX0_rank_27 rfl (lv_at hl 2 rfl) ?_
              refine lv_iconst (v := 1) hx hb dX0_rank_28 (by decide) ?_
              refine lv_isub hx hb dX0_rank_29 ?_
              refine lv_topi (fun x_12 ex_12 => ?_)
              obtain rfl : x_12 = nI (t - 1) := ex_12.trans (pk_sub (a := t) (b := 1) (by omega))
              refine va_iald hx hb hK hP 15 0 rfl rfl (vp_in_nI (n := t - 1) (N := 40) (by omega) (by decide)) dX0_rank_30 ?_
              have hb_13 := ordn_lt Pw mm (t - 1) (by omega)
              refine lv_topi (fun x_14 ex_14 => ?_)
              obtain rfl : x_14 = nI (ordn Pw mm (t - 1)) := ex_14.trans ((congrArg (F2 15) (nI_clamp (n := t - 1) (by omega))).trans (hlo (t - 1) (by omega)))
              refine va_iald hx hb hK hP 16 0 rfl rfl (vp_in_nI (n := ordn Pw mm (t - 1)) (N := 40) (by omega) (by decide)) dX0_rank_31 ?_
              have hb_15 := bPw (ordn Pw mm (t - 1)) (by omega)
              refine lv_topi (fun x_16 ex_16 => ?_)
              obtain rfl : x_16 = nI (Pw (ordn Pw mm (t - 1))) := ex_16.trans ((congrArg (F2 16) (nI_clamp (n := ordn Pw mm (t - 1)) (by omega))).trans (hN_6 (ordn Pw mm (t - 1)) (by omega)))
              refine lv_aload_n hx hb dX0_rank_32 rfl (lv_at hl 0 rfl) ?_
              refine va_get (D := (dC, dI)) (ci := 0) (v := .ref (h 16)) (C := RX0) (T := TX0) (N := 11) hx hb hts hin_X0 hown hK hP 2 rfl rfl 3 (by decide) hw3 (fun _ h9 => h9) rfl dX0_rank_33 ?_
              refine lv_iload_n hx hb dX0_rank_36 rfl (lv_at hl 1 rfl) ?_
              refine va_iald hx hb hK hP 16 0 rfl rfl (vp_in_nI (n := mm) (N := 40) (by omega) (by decide)) dX0_rank_37 ?_
              have hb_17 := bPw mm (by omega)
              refine lv_topi (fun x_18 ex_18 => ?_)
              obtain rfl : x_18 = nI (Pw mm) := ex_18.trans ((congrArg (F2 16) (nI_clamp (n := mm) (by omega))).trans (hN_6 mm (by omega)))
              refine lv_icmp_ge (tgt := 61) hx hb dX0_rank_38 (by decide) (fun c_19 => ?_) (fun c_19 => ?_)
              · have c_19 : (Pw mm) ≤ (Pw (ordn Pw mm (t - 1))) := (nI_leI (a := Pw mm) (b := Pw (ordn Pw mm (t - 1))) (by omega) (by omega)).mp c_19
                refine lv_aload_n hx hb dX0_rank_61 rfl (lv_at hl 0 rfl) ?_
                refine va_get (D := (dC, dI)) (ci := 0) (v := .ref (h 15)) (C := RX0) (T := TX0) (N := 11) hx hb hts hin_X0 hown hK hP 2 rfl rfl 2 (by decide) hw2 (fun _ h9 => h9) rfl dX0_rank_62 ?_
                refine lv_iload_n hx hb dX0_rank_65 rfl (lv_at hl 2 rfl) ?_
                refine lv_iload_n hx hb dX0_rank_66 rfl (lv_at hl 1 rfl) ?_
                refine va_iast hx hb hK hP hD hS 15 0 rfl rfl (vp_in_nI (n := t) (N := 40) (by omega) (by decide)) dX0_rank_67 (fun H locs hP hD hS => ?_)
                obtain ⟨F_20, eF_20⟩ : ∃ z : Nat → Nat → Int32, z = va_up F2 15 (upd (F2 15) (nI t).toNatClampNeg (nI mm)) := ⟨_, rfl⟩
                have hP : va_P (dC, dI) vwCl (wC cI cZ h F_20 V) H := by rw [eF_20]; exact hP
                have hD : va_D A (wC cI cZ h F_20 V) := by rw [eF_20]; exact hD
                have hN_21 : ∀ i, i < n → F_20 16 i = nI (Pw i) := by rw [eF_20]; exact hN_6
                refine lv_iinc (v := nI (mm + 1)) (lv' := [(1, .int (nI (mm + 1))), (0, .ref (h 2)), (2, .int (nI t))]) hx hb dX0_rank_68 hl (k := 1) rfl (nI_1 _) (by decide) rfl (fun ls hl => ?_)
                refine lv_goto (tgt := 2) hx hb dX0_rank_71 (by decide) ?_
                have hb_23 : posn Pw (ordn Pw mm) mm mm = t := by
                  rw [hps]
                  by_cases h0 : t = 0
                  · rw [h0]; rfl
                  · exact posn_e (by omega) (by omega)
                have hb_22 : ∀ i, i < mm + 1 → F_20 15 i = nI (ordn Pw (mm + 1) i) := fun i hi => by
                  rw [eF_20]
                  show upd (F2 15) (nI t).toNatClampNeg (nI mm) i = nI (insn Pw (ordn Pw mm) mm i)
                  rw [nI_clamp (by omega), insn, hb_23]
                  by_cases q1 : i < t
                  · rw [if_pos q1, pk_un (by omega)]; exact hlo i q1
                  · rw [if_neg q1]
                    by_cases q2 : i = t
                    · rw [if_pos q2, q2]; exact pk_us
                    · rw [if_neg q2, pk_un q2]; exact hhi i (by omega) (by omega)
                exact ih2 (mm + 1) F_20 (by omega) hb_22 (fun j hj => ((va_ne eF_20 (fun h => hj (by rw [h]; decide))).trans (hfr2 j hj))) (by omega) H locs ls hP hD hS (lv_sub hl [1, 0] rfl)
              · have c_19 : ¬ (Pw mm) ≤ (Pw (ordn Pw mm (t - 1))) := fun h => c_19 ((nI_leI (a := Pw mm) (b := Pw (ordn Pw mm (t - 1))) (by omega) (by omega)).mpr h)
                refine lv_aload_n hx hb dX0_rank_41 rfl (lv_at hl 0 rfl) ?_
                refine va_get (D := (dC, dI)) (ci := 0) (v := .ref (h 15)) (C := RX0) (T := TX0) (N := 11) hx hb hts hin_X0 hown hK hP 2 rfl rfl 2 (by decide) hw2 (fun _ h9 => h9) rfl dX0_rank_42 ?_
                refine lv_iload_n hx hb dX0_rank_45 rfl (lv_at hl 2 rfl) ?_
                refine lv_aload_n hx hb dX0_rank_46 rfl (lv_at hl 0 rfl) ?_
                refine va_get (D := (dC, dI)) (ci := 0) (v := .ref (h 15)) (C := RX0) (T := TX0) (N := 11) hx hb hts hin_X0 hown hK hP 2 rfl rfl 2 (by decide) hw2 (fun _ h9 => h9) rfl dX0_rank_47 ?_
                refine lv_iload_n hx hb dX0_rank_50 rfl (lv_at hl 2 rfl) ?_
                refine lv_iconst (v := 1) hx hb dX0_rank_51 (by decide) ?_
                refine lv_isub hx hb dX0_rank_52 ?_
                refine lv_topi (fun x_24 ex_24 => ?_)
                obtain rfl : x_24 = nI (t - 1) := ex_24.trans (pk_sub (a := t) (b := 1) (by omega))
                refine va_iald hx hb hK hP 15 0 rfl rfl (vp_in_nI (n := t - 1) (N := 40) (by omega) (by decide)) dX0_rank_53 ?_
                have hb_25 := ordn_lt Pw mm (t - 1) (by omega)
                refine lv_topi (fun x_26 ex_26 => ?_)
                obtain rfl : x_26 = nI (ordn Pw mm (t - 1)) := ex_26.trans ((congrArg (F2 15) (nI_clamp (n := t - 1) (by omega))).trans (hlo (t - 1) (by omega)))
                refine va_iast hx hb hK hP hD hS 15 0 rfl rfl (vp_in_nI (n := t) (N := 40) (by omega) (by decide)) dX0_rank_54 (fun H locs hP hD hS => ?_)
                obtain ⟨F_27, eF_27⟩ : ∃ z : Nat → Nat → Int32, z = va_up F2 15 (upd (F2 15) (nI t).toNatClampNeg (nI (ordn Pw mm (t - 1)))) := ⟨_, rfl⟩
                have hP : va_P (dC, dI) vwCl (wC cI cZ h F_27 V) H := by rw [eF_27]; exact hP
                have hD : va_D A (wC cI cZ h F_27 V) := by rw [eF_27]; exact hD
                have hN_28 : ∀ i, i < n → F_27 16 i = nI (Pw i) := by rw [eF_27]; exact hN_6
                refine lv_iinc (v := nI (t - 1)) (lv' := [(2, .int (nI (t - 1))), (0, .ref (h 2)), (1, .int (nI mm))]) hx hb dX0_rank_55 hl (k := 2) rfl (dec_nI (by omega)) (by decide) rfl (fun ls hl => ?_)
                refine lv_goto (tgt := 15) hx hb dX0_rank_58 (by decide) ?_
                have hb_29 : ∀ i, i < t - 1 → F_27 15 i = nI (ordn Pw mm i) := fun i hi => by
                  rw [eF_27]
                  show upd (F2 15) (nI t).toNatClampNeg _ i = _
                  rw [nI_clamp (by omega), pk_un (by omega)]; exact hlo i (by omega)
                have hb_30 : ∀ i, t - 1 < i → i ≤ mm → F_27 15 i = nI (ordn Pw mm (i - 1)) := fun i h1 h2 => by
                  rw [eF_27]
                  show upd (F2 15) (nI t).toNatClampNeg _ i = _
                  rw [nI_clamp (by omega)]
                  by_cases q : i = t
                  · rw [q]; exact pk_us
                  · rw [pk_un q]; exact hhi i (by omega) h2
                exact ih15 (t - 1) F_27 (by omega) (hps.trans (posn_s (by omega) (by omega))) hb_29 hb_30 (fun j hj => ((va_ne eF_27 (fun h => hj (by rw [h]; decide))).trans (hfr2 j hj))) (by omega) H locs ls hP hD hS (lv_sub hl [1, 2, 0] rfl)
        exact loop15 _ mm F1 (by omega) rfl hO (fun i h1 h2 => absurd h1 (by omega)) hfr (Nat.lt_succ_self _) H locs ls hP hD hS (lv_sub hl [1, 2, 0] rfl)
  exact loop2 _ 0 F (by omega) (fun i hi => absurd hi (Nat.not_lt_zero i)) (fun _ _ => rfl) (Nat.lt_succ_self _) H locs ls hP hD hS (lv_sub hl [1, 0] rfl)
def rm_X0_aimAll : Room := { frames := 4, cells := 0, slots := 0, locals := 83 }
set_option maxHeartbeats 4000000 in
set_option maxRecDepth 100000 in
theorem c_X0_aimAll (l : Launch) (dC : Nat → ClassId) (dI : Nat → Nat → Nat) (cI cZ cJ : ClassId) (h : Nat → Nat) (F : Nat → Nat → Int32) (V : Nat → Int32) (n : Nat) (hV1 : V 1 = nI n) (bV1 : n ≤ 40) (d : Nat) (hV2 : V 2 = nI d) (bV2 : d ≤ 20) (So : Nat → Nat) (hSo : ∀ i, i < 40 → F 9 i = nI (So i)) (bSo : ∀ i, i < 40 → So i ≤ 90) (Hh : Nat → Nat) (hHh : ∀ i, i < 24 → F 12 i = nI (Hh i)) (bHh : ∀ i, i < 24 → Hh i ≤ 9) (Wd : Nat → Nat) (hWd : ∀ i, i < 24 → F 13 i = nI (Wd i)) (bWd : ∀ i, i < 24 → Wd i ≤ 99) (Lm : Nat → Nat) (hLm : ∀ i, i < 4 → F 14 i = nI (Lm i)) (bLm : ∀ i, i < 4 → Lm i ≤ 10000) (k0 k1 : Nat) (hk0 : k0 < 24) (hk1 : k1 ≤ 23)   : CtI l (dC, dI) vwCl (tys3 cI cZ cJ) yX0_aimAll wsX0_aimAll rm_X0_aimAll [.ref (h 2), .int (nI k0), .int (nI k1)] (wC cI cZ h F V) (S := Nat → Nat → Int32) (fun r u => (r = nI (ahF F Hh So Wd Lm d n k0 k1)) ∧ (∀ j, j ∉ ([15, 16, 17, 18] : List Nat) → u j = F j) ∧ ((∀ i, i < 4 → u 18 i = nI (alF F Hh So Wd Lm d n k0 k1 i)) ∧ (∀ i, i < 4 → alF F Hh So Wd Lm d n k0 k1 i ≤ 10000) ∧ u 17 = acF F Hh So Wd Lm d n k0 k1)) (fun u => wC cI cZ h u V) 0 0 := by
  refine ct_I (cc := cX0_aimAll) (maxL := 7) (ty := .int) (own := RX0) (by decide) rfl rfl (Nat.le_of_ble_eq_true rfl) (lv := [(0, .ref (h 2)), (1, .int (nI k0)), (2, .int (nI k1))]) rfl ?_
  intro p e s m args below meth c A Q ls fx hK hP hD hA hl hret
  obtain ⟨hx, hb, hml, hown, hts⟩ := id fx
  have hS : va_S A s.heap s.heap [] := va_S.rf
  have hw0 := hts (.fieldLink RX0 15 "MirrorTower$Face" "limits" "[I") (by decide +kernel)
  have hin_X0 : ∀ w ∈ u_ws RX0 TX0 11, w ∈ wsX0_aimAll := by decide +kernel
  have hw2 := hts (.fieldLink RX0 34 "MirrorTower$Face" "left" "[I") (by decide +kernel)
  have hw3 := hts (.methodLink RX0 64 arraycopyName) (by decide +kernel)
  have hw4 := hts (.native arraycopyName) (by decide +kernel)
  have hw5 := hts (.static arraycopyName) (by decide +kernel)
  have hw6 := hts (.initialized "java/lang/System") (by decide +kernel)
  have hw7 := hts (.fieldLink RX0 11 "MirrorTower$Face" "field" "LMirrorTower$Field;") (by decide +kernel)
  have hw8 := hts (.fieldLink RX0 25 "MirrorTower$Face" "order" "[I") (by decide +kernel)
  have hw9 := hts (.fieldLink RX0 28 "MirrorTower$Face" "powers" "[I") (by decide +kernel)
  have hw10 := hts (.fieldLink RX0 31 "MirrorTower$Face" "cellOf" "[I") (by decide +kernel)
  obtain ⟨H, hH⟩ : ∃ H, H = s.heap := ⟨_, rfl⟩
  rw [← hH] at hP ⊢
  have hS : va_S A s.heap H [] := by rw [hH]; exact hS
  generalize ([] : List Loc) = locs at hS ⊢
  refine lv_aload_n hx hb dX0_aimAll_0 rfl (lv_at hl 0 rfl) ?_
  refine lv_iload_n hx hb dX0_aimAll_1 rfl (lv_at hl 1 rfl) ?_
  refine lv_iload_n hx hb dX0_aimAll_2 rfl (lv_at hl 2 rfl) ?_
  refine cw_Vv (As := [.int (nI k0), .int (nI k1)]) (rest := []) (c_X0_readPowers l dC dI cI cZ cJ h F V n hV1 (by omega) d hV2 (by omega) So hSo bSo Hh hHh bHh Wd hWd bWd k0 k1 (by omega) (by omega)) fx (cwV 2 hts gX0_aimAll_X0_readPowers rfl rfl rfl (by decide +kernel) ⟨Nat.le_of_ble_eq_true rfl, Nat.le_of_ble_eq_true rfl⟩) hK hP hD hS hA 2 rfl rfl rfl rfl hl.1 rfl (Nat.le_of_ble_eq_true rfl) dX0_aimAll_3 ⟨Nat.le_of_ble_eq_true rfl, Nat.le_of_ble_eq_true rfl⟩ (fun u_2 H locs hw_3 hP hD hS => ?_)
  obtain ⟨F_4, rfl⟩ : ∃ z, z = u_2 := ⟨_, rfl⟩
  have hf_5 : ∀ j, j ∉ ([16] : List Nat) → F_4 j = F j := hw_3.1
  have hP : va_P (dC, dI) vwCl (wC cI cZ h F_4 V) H := hP
  have hD : va_D A (wC cI cZ h F_4 V) := hD
  have hN_6 : ∀ i, i < 40 → F_4 9 i = nI (So i) := by rw [hf_5 9 (by decide)]; exact hSo
  have hN_7 : ∀ i, i < 24 → F_4 12 i = nI (Hh i) := by rw [hf_5 12 (by decide)]; exact hHh
  have hN_8 : ∀ i, i < 24 → F_4 13 i = nI (Wd i) := by rw [hf_5 13 (by decide)]; exact hWd
  have hN_9 : ∀ i, i < 4 → F_4 14 i = nI (Lm i) := by rw [hf_5 14 (by decide)]; exact hLm
  obtain ⟨Pq_12, ePq_12⟩ : ∃ z : Nat → Nat, z = pwF F Hh So Wd d k0 k1 := ⟨_, rfl⟩
  have hN_10 : ∀ i, i < n → F_4 16 i = nI (Pq_12 i) := by rw [ePq_12]; exact hw_3.2
  have bN_11 : ∀ i, i < n → Pq_12 i ≤ 100 := by rw [ePq_12]; exact fun i _ => (pwN_eq (bHh k0 (by omega))).2
  refine lv_aload_n hx hb dX0_aimAll_6 rfl (lv_at hl 0 rfl) ?_
  refine cw_Vv (As := []) (rest := []) (c_X0_rank l dC dI cI cZ cJ h F_4 V n hV1 (by omega) Pq_12 hN_10 bN_11) fx (cwV 0 hts gX0_aimAll_X0_rank rfl rfl rfl (by decide +kernel) ⟨Nat.le_of_ble_eq_true rfl, Nat.le_of_ble_eq_true rfl⟩) hK hP hD hS hA 2 rfl rfl rfl rfl hl.1 rfl (Nat.le_of_ble_eq_true rfl) dX0_aimAll_7 ⟨Nat.le_of_ble_eq_true rfl, Nat.le_of_ble_eq_true rfl⟩ (fun u_14 H locs hw_15 hP hD hS => ?_)
  obtain ⟨F_16, rfl⟩ : ∃ z, z = u_14 := ⟨_, rfl⟩
  have hf_17 : ∀ j, j ∉ ([15] : List Nat) → F_16 j = F_4 j := hw_15.1
  have hP : va_P (dC, dI) vwCl (wC cI cZ h F_16 V) H := hP
  have hD : va_D A (wC cI cZ h F_16 V) := hD
  have hN_18 : ∀ i, i < 40 → F_16 9 i = nI (So i) := by rw [hf_17 9 (by decide)]; exact hN_6
  have hN_19 : ∀ i, i < 24 → F_16 12 i = nI (Hh i) := by rw [hf_17 12 (by decide)]; exact hN_7
  have hN_20 : ∀ i, i < 24 → F_16 13 i = nI (Wd i) := by rw [hf_17 13 (by decide)]; exact hN_8
  have hN_21 : ∀ i, i < 4 → F_16 14 i = nI (Lm i) := by rw [hf_17 14 (by decide)]; exact hN_9
  have hN_22 : ∀ i, i < n → F_16 16 i = nI (Pq_12 i) := by rw [hf_17 16 (by decide)]; exact hN_10
  obtain ⟨Oq_25, eOq_25⟩ : ∃ z : Nat → Nat, z = ordn Pq_12 n := ⟨_, rfl⟩
  have hN_23 : ∀ i, i < n → F_16 15 i = nI (Oq_25 i) := by rw [eOq_25]; exact hw_15.2
  have bN_24 : ∀ i, i < n → Oq_25 i ≤ n - 1 := by rw [eOq_25]; exact fun i hi => by have := ordn_lt Pq_12 n i hi; omega
  refine lv_aload_n hx hb dX0_aimAll_10 rfl (lv_at hl 0 rfl) ?_
  refine va_get (D := (dC, dI)) (ci := 0) (v := .ref (h 14)) (C := RX0) (T := TX0) (N := 11) hx hb hts hin_X0 hown hK hP 2 rfl rfl 1 (by decide) hw0 (fun _ h9 => h9) rfl dX0_aimAll_11 ?_
  refine lv_iconst (v := 0) hx hb dX0_aimAll_14 (by decide) ?_
  refine lv_aload_n hx hb dX0_aimAll_15 rfl (lv_at hl 0 rfl) ?_
  refine va_get (D := (dC, dI)) (ci := 0) (v := .ref (h 18)) (C := RX0) (T := TX0) (N := 11) hx hb hts hin_X0 hown hK hP 2 rfl rfl 5 (by decide) hw2 (fun _ h9 => h9) rfl dX0_aimAll_16 ?_
  refine lv_iconst (v := 0) hx hb dX0_aimAll_19 (by decide) ?_
  refine lv_iconst (v := 4) hx hb dX0_aimAll_20 (by decide) ?_
  refine va_copyi hx hb (hml.trans hl.1.symm) hown hw3 hw4 hw5 hw6 hK hP hD hS 14 18 0 0 rfl rfl rfl rfl rfl (by decide) (by decide) (by decide) (by decide) (by decide) (fun _ _ => rfl) (Nat.le_of_ble_eq_true rfl) (Nat.le_of_ble_eq_true rfl) dX0_aimAll_21 (fun H locs hP hD hS => ?_)
  obtain ⟨F_26, eF_26⟩ : ∃ z : Nat → Nat → Int32, z = va_up F_16 18 (va_cpy (F_16 14) (F_16 18) (0 : Int32).toNatClampNeg (0 : Int32).toNatClampNeg (4 : Int32).toNatClampNeg) := ⟨_, rfl⟩
  have hP : va_P (dC, dI) vwCl (wC cI cZ h F_26 V) H := by rw [eF_26]; exact hP
  have hD : va_D A (wC cI cZ h F_26 V) := by rw [eF_26]; exact hD
  have hN_27 : ∀ i, i < 40 → F_26 9 i = nI (So i) := by rw [eF_26]; exact hN_18
  have hN_28 : ∀ i, i < 24 → F_26 12 i = nI (Hh i) := by rw [eF_26]; exact hN_19
  have hN_29 : ∀ i, i < 24 → F_26 13 i = nI (Wd i) := by rw [eF_26]; exact hN_20
  have hN_30 : ∀ i, i < 4 → F_26 14 i = nI (Lm i) := by rw [eF_26]; exact hN_21
  have hN_31 : ∀ i, i < n → F_26 16 i = nI (Pq_12 i) := by rw [eF_26]; exact hN_22
  have hN_32 : ∀ i, i < n → F_26 15 i = nI (Oq_25 i) := by rw [eF_26]; exact hN_23
  have hN_33 : ∀ i, i < 4 → F_26 18 i = nI (Lm i) := by rw [eF_26]; intro i hi; exact (cpy0 (by decide) (by decide) (by decide) hi).trans (hN_21 i hi)
  refine lv_iconst (v := 0) hx hb dX0_aimAll_24 (by decide) ?_
  refine lv_istore_n (lv' := [(3, .int 0), (0, .ref (h 2)), (1, .int (nI k0)), (2, .int (nI k1))]) hx hb dX0_aimAll_25 rfl hl (by decide) rfl (fun ls hl => ?_)
  have hfb : ∀ j, j ∉ ([15, 16, 17, 18] : List Nat) → F_26 j = F j := fun j hj => ((va_ne eF_26 (fun h => hj (by rw [h]; decide))).trans ((hf_17 j (fun h => hj ((by decide : ∀ x ∈ ([15] : List Nat), x ∈ ([15, 16, 17, 18] : List Nat)) j h))).trans (hf_5 j (fun h => hj ((by decide : ∀ x ∈ ([16] : List Nat), x ∈ ([15, 16, 17, 18] : List Nat)) j h)))))
  have hc0 : F_26 17 = F 17 := (show ∀ j, j ∉ ([15, 16, 18] : List Nat) → F_26 j = F j from fun j hj => ((va_ne eF_26 (fun h => hj (by rw [h]; decide))).trans ((hf_17 j (fun h => hj ((by decide : ∀ x ∈ ([15] : List Nat), x ∈ ([15, 16, 18] : List Nat)) j h))).trans (hf_5 j (fun h => hj ((by decide : ∀ x ∈ ([16] : List Nat), x ∈ ([15, 16, 18] : List Nat)) j h)))))) 17 (by decide)
  refine lv_iconst (v := 0) hx hb dX0_aimAll_26 (by decide) ?_
  refine lv_istore (lv' := [(4, .int 0), (3, .int 0), (0, .ref (h 2)), (1, .int (nI k0)), (2, .int (nI k1))]) hx hb dX0_aimAll_27 hl (by decide) rfl (fun ls hl => ?_)
  have loop29 : ∀ (fu : Nat) (t : Nat) (hv : Nat) (F1 : Nat → Nat → Int32), (t ≤ n) → (hv = aimH Pq_12 Oq_25 Lm t) → (∀ i, i < 4 → F1 18 i = nI (aimL Pq_12 Oq_25 Lm t i)) → (∀ i, i < 4 → aimL Pq_12 Oq_25 Lm t i ≤ 10000) → (F1 17 = aimC Pq_12 Oq_25 Lm (F_26 17) t) → (∀ j, j ∉ ([17, 18] : List Nat) → F1 j = F_26 j) → (n - t) < fu → ∀ (H : Heap) (locs : List Loc) (ls : Array Slot), va_P (dC, dI) vwCl (wC cI cZ h F1 V) H → va_D A (wC cI cZ h F1 V) → va_S A s.heap H locs → lv_has ls 7 [(0, .ref (h 2)), (1, .int (nI k0)), (2, .int (nI k1)), (3, .int (nI hv)), (4, .int (nI t))] → W p l e rm_X0_aimAll s m args below meth c H locs 0 0 Q (F0 m 29 ls []) := by
    intro fu
    induction fu with
    | zero => intro t hv F1 ht hh hL bL hC hfr hn_; exact absurd hn_ (Nat.not_lt_zero _)
    | succ fu ih29 =>
      intro t hv F1 ht hh hL bL hC hfr hn_ H locs ls hP hD hS hl
      have hN_34 : ∀ i, i < 40 → F1 9 i = nI (So i) := by rw [hfr 9 (by decide)]; exact hN_27
      have hN_35 : ∀ i, i < 24 → F1 12 i = nI (Hh i) := by rw [hfr 12 (by decide)]; exact hN_28
      have hN_36 : ∀ i, i < 24 → F1 13 i = nI (Wd i) := by rw [hfr 13 (by decide)]; exact hN_29
      have hN_37 : ∀ i, i < 4 → F1 14 i = nI (Lm i) := by rw [hfr 14 (by decide)]; exact hN_30
      have hN_38 : ∀ i, i < n → F1 16 i = nI (Pq_12 i) := by rw [hfr 16 (by decide)]; exact hN_31
      have hN_39 : ∀ i, i < n → F1 15 i = nI (Oq_25 i) := by rw [hfr 15 (by decide)]; exact hN_32
      refine lv_iload hx hb dX0_aimAll_29 (lv_at hl 4 rfl) ?_
      refine lv_aload_n hx hb dX0_aimAll_31 rfl (lv_at hl 0 rfl) ?_
      refine va_get (D := (dC, dI)) (ci := 0) (v := .ref (h 1)) (C := RX0) (T := TX0) (N := 11) hx hb hts hin_X0 hown hK hP 2 rfl rfl 0 (by decide) hw7 (fun _ h9 => h9) rfl dX0_aimAll_32 ?_
      refine cw_Vi (As := []) (rest := [.int (nI t)]) (c_X1_size l dC dI cI cZ cJ h F1 V) fx (cwV 0 hts gX0_aimAll_X1_size rfl rfl rfl (by decide +kernel) ⟨Nat.le_of_ble_eq_true rfl, Nat.le_of_ble_eq_true rfl⟩) hK hP hD hS hA 1 rfl rfl rfl rfl hl.1 rfl (Nat.le_of_ble_eq_true rfl) dX0_aimAll_35 ⟨Nat.le_of_ble_eq_true rfl, Nat.le_of_ble_eq_true rfl⟩ (fun r_40 u_41 H locs hw_42 hP hD hS => ?_)
      have hP : va_P (dC, dI) vwCl (wC cI cZ h F1 V) H := hP
      have hD : va_D A (wC cI cZ h F1 V) := hD
      obtain rfl : r_40 = nI n := Eq.trans hw_42 hV1
      refine lv_icmp_ge (tgt := 127) hx hb dX0_aimAll_38 (by decide) (fun c_43 => ?_) (fun c_43 => ?_)
      · have c_43 : n ≤ t := (nI_leI (a := n) (b := t) (by omega) (by omega)).mp c_43
        refine lv_iload_n hx hb dX0_aimAll_127 rfl (lv_at hl 3 rfl) ?_
        exact hret (nI hv) F1 H locs 128 ls rfl dX0_aimAll_128 (by
                    obtain rfl : t = n := by omega
                    have x1 : ahF F Hh So Wd Lm d t k0 k1 = aimH Pq_12 Oq_25 Lm t := by rw [ahF, ← ePq_12, ← eOq_25]
                    have x2 : alF F Hh So Wd Lm d t k0 k1 = aimL Pq_12 Oq_25 Lm t := by rw [alF, ← ePq_12, ← eOq_25]
                    have x3 : acF F Hh So Wd Lm d t k0 k1 = aimC Pq_12 Oq_25 Lm (F 17) t := by rw [acF, ← ePq_12, ← eOq_25]
                    rw [x1, x2, x3]
                    exact ⟨by rw [hh], fun j hj => (hfr j (fun z => hj ((by decide : ∀ x ∈ ([17, 18] : List Nat), x ∈ ([15, 16, 17, 18] : List Nat)) j z))).trans (hfb j hj), hL, bL, by rw [hC, hc0]⟩) (hP) (hD) hS
      · have c_43 : ¬ n ≤ t := fun h => c_43 ((nI_leI (a := n) (b := t) (by omega) (by omega)).mpr h)
        refine lv_aload_n hx hb dX0_aimAll_41 rfl (lv_at hl 0 rfl) ?_
        refine va_get (D := (dC, dI)) (ci := 0) (v := .ref (h 15)) (C := RX0) (T := TX0) (N := 11) hx hb hts hin_X0 hown hK hP 2 rfl rfl 2 (by decide) hw8 (fun _ h9 => h9) rfl dX0_aimAll_42 ?_
        refine lv_iload hx hb dX0_aimAll_45 (lv_at hl 4 rfl) ?_
        refine va_iald hx hb hK hP 15 0 rfl rfl (vp_in_nI (n := t) (N := 40) (by omega) (by decide)) dX0_aimAll_47 ?_
        have hb_44 := bN_24 t (by omega)
        refine lv_topi (fun x_45 ex_45 => ?_)
        obtain rfl : x_45 = nI (Oq_25 t) := ex_45.trans ((congrArg (F1 15) (nI_clamp (n := t) (by omega))).trans (hN_39 t (by omega)))
        refine lv_istore (lv' := [(5, .int (nI (Oq_25 t))), (0, .ref (h 2)), (1, .int (nI k0)), (2, .int (nI k1)), (3, .int (nI hv)), (4, .int (nI t))]) hx hb dX0_aimAll_48 hl (by decide) rfl (fun ls hl => ?_)
        refine lv_aload_n hx hb dX0_aimAll_50 rfl (lv_at hl 1 rfl) ?_
        refine cw_Vi (As := []) (rest := []) (c_X0_roomiestCell l dC dI cI cZ cJ h F1 V (aimL Pq_12 Oq_25 Lm t) hL bL) fx (cwV 0 hts gX0_aimAll_X0_roomiestCell rfl rfl rfl (by decide +kernel) ⟨Nat.le_of_ble_eq_true rfl, Nat.le_of_ble_eq_true rfl⟩) hK hP hD hS hA 2 rfl rfl rfl rfl hl.1 rfl (Nat.le_of_ble_eq_true rfl) dX0_aimAll_51 ⟨Nat.le_of_ble_eq_true rfl, Nat.le_of_ble_eq_true rfl⟩ (fun r_46 u_47 H locs hw_48 hP hD hS => ?_)
        have hP : va_P (dC, dI) vwCl (wC cI cZ h F1 V) H := hP
        have hD : va_D A (wC cI cZ h F1 V) := hD
        obtain rfl : r_46 = nI (best4 (aimL Pq_12 Oq_25 Lm t) 3) := hw_48
        have hb_49 := best4_le (aimL Pq_12 Oq_25 Lm t) 3
        refine lv_istore (lv' := [(6, .int (nI (best4 (aimL Pq_12 Oq_25 Lm t) 3))), (5, .int (nI (Oq_25 t))), (0, .ref (h 2)), (1, .int (nI k0)), (2, .int (nI k1)), (3, .int (nI hv)), (4, .int (nI t))]) hx hb dX0_aimAll_54 hl (by decide) rfl (fun ls hl => ?_)
        refine lv_aload_n hx hb dX0_aimAll_56 rfl (lv_at hl 2 rfl) ?_
        refine va_get (D := (dC, dI)) (ci := 0) (v := .ref (h 16)) (C := RX0) (T := TX0) (N := 11) hx hb hts hin_X0 hown hK hP 2 rfl rfl 3 (by decide) hw9 (fun _ h9 => h9) rfl dX0_aimAll_57 ?_
        refine lv_iload hx hb dX0_aimAll_60 (lv_at hl 1 rfl) ?_
        refine va_iald hx hb hK hP 16 0 rfl rfl (vp_in_nI (n := Oq_25 t) (N := 40) (by omega) (by decide)) dX0_aimAll_62 ?_
        have hb_50 := bN_11 (Oq_25 t) (by omega)
        refine lv_topi (fun x_51 ex_51 => ?_)
        obtain rfl : x_51 = nI (Pq_12 (Oq_25 t)) := ex_51.trans ((congrArg (F1 16) (nI_clamp (n := Oq_25 t) (by omega))).trans (hN_38 (Oq_25 t) (by omega)))
        refine lv_aload_n hx hb dX0_aimAll_63 rfl (lv_at hl 2 rfl) ?_
        refine va_get (D := (dC, dI)) (ci := 0) (v := .ref (h 18)) (C := RX0) (T := TX0) (N := 11) hx hb hts hin_X0 hown hK hP 2 rfl rfl 5 (by decide) hw2 (fun _ h9 => h9) rfl dX0_aimAll_64 ?_
        refine lv_iload hx hb dX0_aimAll_67 (lv_at hl 0 rfl) ?_
        refine va_iald hx hb hK hP 18 0 rfl rfl (vp_in_nI (n := best4 (aimL Pq_12 Oq_25 Lm t) 3) (N := 4) (by omega) (by decide)) dX0_aimAll_69 ?_
        have hb_52 := bL (best4 (aimL Pq_12 Oq_25 Lm t) 3) (by omega)
        try dsimp only at hb_52
        refine lv_topi (fun x_53 ex_53 => ?_)
        obtain rfl : x_53 = nI ((aimL Pq_12 Oq_25 Lm t) (best4 (aimL Pq_12 Oq_25 Lm t) 3)) := ex_53.trans ((congrArg (F1 18) (nI_clamp (n := best4 (aimL Pq_12 Oq_25 Lm t) 3) (by omega))).trans (hL (best4 (aimL Pq_12 Oq_25 Lm t) 3) (by omega)))
        refine lv_icmp_gt (tgt := 112) hx hb dX0_aimAll_70 (by decide) (fun c_54 => ?_) (fun c_54 => ?_)
        · have c_54 : ((aimL Pq_12 Oq_25 Lm t) (best4 (aimL Pq_12 Oq_25 Lm t) 3)) < (Pq_12 (Oq_25 t)) := (nI_ltI (a := (aimL Pq_12 Oq_25 Lm t) (best4 (aimL Pq_12 Oq_25 Lm t) 3)) (b := Pq_12 (Oq_25 t)) (by omega) (by omega)).mp c_54
          refine lv_aload_n hx hb dX0_aimAll_112 rfl (lv_at hl 2 rfl) ?_
          refine va_get (D := (dC, dI)) (ci := 0) (v := .ref (h 17)) (C := RX0) (T := TX0) (N := 11) hx hb hts hin_X0 hown hK hP 2 rfl rfl 4 (by decide) hw10 (fun _ h9 => h9) rfl dX0_aimAll_113 ?_
          refine lv_iload hx hb dX0_aimAll_116 (lv_at hl 1 rfl) ?_
          refine lv_bipush (v := (-2)) hx hb dX0_aimAll_118 (by decide) ?_
          refine va_iast hx hb hK hP hD hS 17 0 rfl rfl (vp_in_nI (n := Oq_25 t) (N := 40) (by omega) (by decide)) dX0_aimAll_120 (fun H locs hP hD hS => ?_)
          obtain ⟨F_55, eF_55⟩ : ∃ z : Nat → Nat → Int32, z = va_up F1 17 (upd (F1 17) (nI (Oq_25 t)).toNatClampNeg (-2)) := ⟨_, rfl⟩
          have hP : va_P (dC, dI) vwCl (wC cI cZ h F_55 V) H := by rw [eF_55]; exact hP
          have hD : va_D A (wC cI cZ h F_55 V) := by rw [eF_55]; exact hD
          have hN_56 : ∀ i, i < 40 → F_55 9 i = nI (So i) := by rw [eF_55]; exact hN_34
          have hN_57 : ∀ i, i < 24 → F_55 12 i = nI (Hh i) := by rw [eF_55]; exact hN_35
          have hN_58 : ∀ i, i < 24 → F_55 13 i = nI (Wd i) := by rw [eF_55]; exact hN_36
          have hN_59 : ∀ i, i < 4 → F_55 14 i = nI (Lm i) := by rw [eF_55]; exact hN_37
          have hN_60 : ∀ i, i < n → F_55 16 i = nI (Pq_12 i) := by rw [eF_55]; exact hN_38
          have hN_61 : ∀ i, i < n → F_55 15 i = nI (Oq_25 i) := by rw [eF_55]; exact hN_39
          have hN_62 : ∀ i, i < 4 → F_55 18 i = nI ((aimL Pq_12 Oq_25 Lm t) i) := by rw [eF_55]; exact hL
          have hE_63 : F_55 17 (Oq_25 t) = (-2) := by rw [eF_55]; show upd _ (nI (Oq_25 t)).toNatClampNeg _ _ = _; rw [nI_clamp (by omega)]; exact pk_us
          refine lv_iinc (v := nI (t + 1)) (lv' := [(4, .int (nI (t + 1))), (6, .int (nI (best4 (aimL Pq_12 Oq_25 Lm t) 3))), (5, .int (nI (Oq_25 t))), (0, .ref (h 2)), (1, .int (nI k0)), (2, .int (nI k1)), (3, .int (nI hv))]) hx hb dX0_aimAll_121 hl (k := 6) rfl (nI_1 _) (by decide) rfl (fun ls hl => ?_)
          refine lv_goto (tgt := 29) hx hb dX0_aimAll_124 (by decide) ?_
          have hb_64 : aimL Pq_12 Oq_25 Lm (t + 1) = aimL Pq_12 Oq_25 Lm t := by rw [aimL, if_neg (by omega)]
          have hb_65 : F_55 17 = aimC Pq_12 Oq_25 Lm (F_26 17) (t + 1) := by
            rw [eF_55]
            show upd (F1 17) _ _ = _
            rw [nI_clamp (by omega), hC, aimC, if_neg (by omega)]
          exact ih29 (t + 1) hv F_55 (by omega) (by rw [aimH, if_neg (by omega), hh]) (by rw [hb_64]; exact hN_62) (by rw [hb_64]; exact bL) hb_65 (fun j hj => ((va_ne eF_55 (fun h => hj (by rw [h]; decide))).trans (hfr j hj))) (by omega) H locs ls hP hD hS (lv_sub hl [3, 4, 5, 6, 0] rfl)
        · have c_54 : ¬ ((aimL Pq_12 Oq_25 Lm t) (best4 (aimL Pq_12 Oq_25 Lm t) 3)) < (Pq_12 (Oq_25 t)) := fun h => c_54 ((nI_ltI (a := (aimL Pq_12 Oq_25 Lm t) (best4 (aimL Pq_12 Oq_25 Lm t) 3)) (b := Pq_12 (Oq_25 t)) (by omega) (by omega)).mpr h)
          refine lv_aload_n hx hb dX0_aimAll_73 rfl (lv_at hl 2 rfl) ?_
          refine va_get (D := (dC, dI)) (ci := 0) (v := .ref (h 17)) (C := RX0) (T := TX0) (N := 11) hx hb hts hin_X0 hown hK hP 2 rfl rfl 4 (by decide) hw10 (fun _ h9 => h9) rfl dX0_aimAll_74 ?_
          refine lv_iload hx hb dX0_aimAll_77 (lv_at hl 1 rfl) ?_
          refine lv_iload hx hb dX0_aimAll_79 (lv_at hl 0 rfl) ?_
          refine va_iast hx hb hK hP hD hS 17 0 rfl rfl (vp_in_nI (n := Oq_25 t) (N := 40) (by omega) (by decide)) dX0_aimAll_81 (fun H locs hP hD hS => ?_)
          obtain ⟨F_67, eF_67⟩ : ∃ z : Nat → Nat → Int32, z = va_up F1 17 (upd (F1 17) (nI (Oq_25 t)).toNatClampNeg (nI (best4 (aimL Pq_12 Oq_25 Lm t) 3))) := ⟨_, rfl⟩
          have hP : va_P (dC, dI) vwCl (wC cI cZ h F_67 V) H := by rw [eF_67]; exact hP
          have hD : va_D A (wC cI cZ h F_67 V) := by rw [eF_67]; exact hD
          have hN_68 : ∀ i, i < 40 → F_67 9 i = nI (So i) := by rw [eF_67]; exact hN_34
          have hN_69 : ∀ i, i < 24 → F_67 12 i = nI (Hh i) := by rw [eF_67]; exact hN_35
          have hN_70 : ∀ i, i < 24 → F_67 13 i = nI (Wd i) := by rw [eF_67]; exact hN_36
          have hN_71 : ∀ i, i < 4 → F_67 14 i = nI (Lm i) := by rw [eF_67]; exact hN_37
          have hN_72 : ∀ i, i < n → F_67 16 i = nI (Pq_12 i) := by rw [eF_67]; exact hN_38
          have hN_73 : ∀ i, i < n → F_67 15 i = nI (Oq_25 i) := by rw [eF_67]; exact hN_39
          have hN_74 : ∀ i, i < 4 → F_67 18 i = nI ((aimL Pq_12 Oq_25 Lm t) i) := by rw [eF_67]; exact hL
          refine lv_aload_n hx hb dX0_aimAll_82 rfl (lv_at hl 2 rfl) ?_
          refine va_get (D := (dC, dI)) (ci := 0) (v := .ref (h 18)) (C := RX0) (T := TX0) (N := 11) hx hb hts hin_X0 hown hK hP 2 rfl rfl 5 (by decide) hw2 (fun _ h9 => h9) rfl dX0_aimAll_83 ?_
          refine lv_iload hx hb dX0_aimAll_86 (lv_at hl 0 rfl) ?_
          refine lv_dup2_11 hx hb dX0_aimAll_88 rfl rfl ?_
          refine va_iald hx hb hK hP 18 0 rfl rfl (vp_in_nI (n := best4 (aimL Pq_12 Oq_25 Lm t) 3) (N := 4) (by omega) (by decide)) dX0_aimAll_89 ?_
          have hb_75 := bL (best4 (aimL Pq_12 Oq_25 Lm t) 3) (by omega)
          try dsimp only at hb_75
          refine lv_topi (fun x_76 ex_76 => ?_)
          obtain rfl : x_76 = nI ((aimL Pq_12 Oq_25 Lm t) (best4 (aimL Pq_12 Oq_25 Lm t) 3)) := ex_76.trans ((congrArg (F_67 18) (nI_clamp (n := best4 (aimL Pq_12 Oq_25 Lm t) 3) (by omega))).trans (hN_74 (best4 (aimL Pq_12 Oq_25 Lm t) 3) (by omega)))
          refine lv_aload_n hx hb dX0_aimAll_90 rfl (lv_at hl 2 rfl) ?_
          refine va_get (D := (dC, dI)) (ci := 0) (v := .ref (h 16)) (C := RX0) (T := TX0) (N := 11) hx hb hts hin_X0 hown hK hP 2 rfl rfl 3 (by decide) hw9 (fun _ h9 => h9) rfl dX0_aimAll_91 ?_
          refine lv_iload hx hb dX0_aimAll_94 (lv_at hl 1 rfl) ?_
          refine va_iald hx hb hK hP 16 0 rfl rfl (vp_in_nI (n := Oq_25 t) (N := 40) (by omega) (by decide)) dX0_aimAll_96 ?_
          have hb_77 := bN_11 (Oq_25 t) (by omega)
          refine lv_topi (fun x_78 ex_78 => ?_)
          obtain rfl : x_78 = nI (Pq_12 (Oq_25 t)) := ex_78.trans ((congrArg (F_67 16) (nI_clamp (n := Oq_25 t) (by omega))).trans (hN_72 (Oq_25 t) (by omega)))
          refine lv_isub hx hb dX0_aimAll_97 ?_
          refine lv_topi (fun x_79 ex_79 => ?_)
          obtain rfl : x_79 = nI (((aimL Pq_12 Oq_25 Lm t) (best4 (aimL Pq_12 Oq_25 Lm t) 3)) - (Pq_12 (Oq_25 t))) := ex_79.trans (pk_sub (a := (aimL Pq_12 Oq_25 Lm t) (best4 (aimL Pq_12 Oq_25 Lm t) 3)) (b := Pq_12 (Oq_25 t)) (by omega))
          refine va_iast hx hb hK hP hD hS 18 0 rfl rfl (vp_in_nI (n := best4 (aimL Pq_12 Oq_25 Lm t) 3) (N := 4) (by omega) (by decide)) dX0_aimAll_98 (fun H locs hP hD hS => ?_)
          obtain ⟨F_80, eF_80⟩ : ∃ z : Nat → Nat → Int32, z = va_up F_67 18 (upd (F_67 18) (nI (best4 (aimL Pq_12 Oq_25 Lm t) 3)).toNatClampNeg (nI (((aimL Pq_12 Oq_25 Lm t) (best4 (aimL Pq_12 Oq_25 Lm t) 3)) - (Pq_12 (Oq_25 t))))) := ⟨_, rfl⟩
          have hP : va_P (dC, dI) vwCl (wC cI cZ h F_80 V) H := by rw [eF_80]; exact hP
          have hD : va_D A (wC cI cZ h F_80 V) := by rw [eF_80]; exact hD
          have hN_81 : ∀ i, i < 40 → F_80 9 i = nI (So i) := by rw [eF_80]; exact hN_68
          have hN_82 : ∀ i, i < 24 → F_80 12 i = nI (Hh i) := by rw [eF_80]; exact hN_69
          have hN_83 : ∀ i, i < 24 → F_80 13 i = nI (Wd i) := by rw [eF_80]; exact hN_70
          have hN_84 : ∀ i, i < 4 → F_80 14 i = nI (Lm i) := by rw [eF_80]; exact hN_71
          have hN_85 : ∀ i, i < n → F_80 16 i = nI (Pq_12 i) := by rw [eF_80]; exact hN_72
          have hN_86 : ∀ i, i < n → F_80 15 i = nI (Oq_25 i) := by rw [eF_80]; exact hN_73
          obtain ⟨S_87, eS_87⟩ : ∃ z : Nat → Nat, z = nup (aimL Pq_12 Oq_25 Lm t) (best4 (aimL Pq_12 Oq_25 Lm t) 3) (((aimL Pq_12 Oq_25 Lm t) (best4 (aimL Pq_12 Oq_25 Lm t) 3)) - (Pq_12 (Oq_25 t))) := ⟨_, rfl⟩
          have hN_88 : ∀ i, i < 4 → F_80 18 i = nI (S_87 i) := by rw [eF_80, eS_87]; show ∀ i, i < 4 → upd (F_67 18) (nI (best4 (aimL Pq_12 Oq_25 Lm t) 3)).toNatClampNeg (nI (((aimL Pq_12 Oq_25 Lm t) (best4 (aimL Pq_12 Oq_25 Lm t) 3)) - (Pq_12 (Oq_25 t)))) i = nI _; exact nf_put hN_74 (nI_clamp (n := best4 (aimL Pq_12 Oq_25 Lm t) 3) (by omega))
          have bN_89 : ∀ i, i < 4 → S_87 i ≤ 10000 := by rw [eS_87]; exact nb_put bL (by omega)
          refine lv_iload_n hx hb dX0_aimAll_99 rfl (lv_at hl 5 rfl) ?_
          refine lv_aload_n hx hb dX0_aimAll_100 rfl (lv_at hl 2 rfl) ?_
          refine va_get (D := (dC, dI)) (ci := 0) (v := .ref (h 16)) (C := RX0) (T := TX0) (N := 11) hx hb hts hin_X0 hown hK hP 2 rfl rfl 3 (by decide) hw9 (fun _ h9 => h9) rfl dX0_aimAll_101 ?_
          refine lv_iload hx hb dX0_aimAll_104 (lv_at hl 1 rfl) ?_
          refine va_iald hx hb hK hP 16 0 rfl rfl (vp_in_nI (n := Oq_25 t) (N := 40) (by omega) (by decide)) dX0_aimAll_106 ?_
          have hb_90 := bN_11 (Oq_25 t) (by omega)
          refine lv_topi (fun x_91 ex_91 => ?_)
          obtain rfl : x_91 = nI (Pq_12 (Oq_25 t)) := ex_91.trans ((congrArg (F_80 16) (nI_clamp (n := Oq_25 t) (by omega))).trans (hN_85 (Oq_25 t) (by omega)))
          refine lv_iadd hx hb dX0_aimAll_107 ?_
          refine lv_topi (fun x_92 ex_92 => ?_)
          obtain rfl : x_92 = nI (hv + (Pq_12 (Oq_25 t))) := ex_92.trans (nI_add hv (Pq_12 (Oq_25 t)))
          refine lv_istore_n (lv' := [(3, .int (nI (hv + (Pq_12 (Oq_25 t))))), (6, .int (nI (best4 (aimL Pq_12 Oq_25 Lm t) 3))), (5, .int (nI (Oq_25 t))), (0, .ref (h 2)), (1, .int (nI k0)), (2, .int (nI k1)), (4, .int (nI t))]) hx hb dX0_aimAll_108 rfl hl (by decide) rfl (fun ls hl => ?_)
          refine lv_goto (tgt := 121) hx hb dX0_aimAll_109 (by decide) ?_
          refine lv_iinc (v := nI (t + 1)) (lv' := [(4, .int (nI (t + 1))), (3, .int (nI (hv + (Pq_12 (Oq_25 t))))), (6, .int (nI (best4 (aimL Pq_12 Oq_25 Lm t) 3))), (5, .int (nI (Oq_25 t))), (0, .ref (h 2)), (1, .int (nI k0)), (2, .int (nI k1))]) hx hb dX0_aimAll_121 hl (k := 6) rfl (nI_1 _) (by decide) rfl (fun ls hl => ?_)
          refine lv_goto (tgt := 29) hx hb dX0_aimAll_124 (by decide) ?_
          have hb_93 : S_87 = aimL Pq_12 Oq_25 Lm (t + 1) := by rw [eS_87, aimL, if_pos (by omega)]
          rw [hb_93] at hN_88 bN_89
          have hb_94 : F_80 17 = aimC Pq_12 Oq_25 Lm (F_26 17) (t + 1) := by
            rw [eF_80]
            show F_67 17 = _
            rw [eF_67]
            show upd (F1 17) _ _ = _
            rw [nI_clamp (by omega), hC, aimC, if_pos (by omega)]
          exact ih29 (t + 1) (hv + (Pq_12 (Oq_25 t))) F_80 (by omega) (by rw [aimH, if_pos (by omega), hh]) hN_88 bN_89 hb_94 (fun j hj => ((va_ne eF_80 (fun h => hj (by rw [h]; decide))).trans ((va_ne eF_67 (fun h => hj (by rw [h]; decide))).trans (hfr j hj)))) (by omega) H locs ls hP hD hS (lv_sub hl [4, 5, 6, 1, 0] rfl)
  exact loop29 _ 0 0 F_26 (by omega) rfl hN_33 bLm rfl (fun _ _ => rfl) (Nat.lt_succ_self _) H locs ls hP hD hS (lv_sub hl [2, 3, 4, 1, 0] rfl)
