def rm_X0_setLimit : Room := { frames := 0, cells := 0, slots := 0, locals := 0 }
set_option maxHeartbeats 4000000 in
set_option maxRecDepth 100000 in
theorem c_X0_setLimit (l : Launch) (dC : Nat → ClassId) (dI : Nat → Nat → Nat) (cI cZ cJ : ClassId) (h : Nat → Nat) (F : Nat → Nat → Int32) (V : Nat → Int32) (k0 : Nat) (p1 : Int32) (hk0 : k0 < 4)  : CtV l (dC, dI) vwCl (tys3 cI cZ cJ) yX0_setLimit wsX0_setLimit rm_X0_setLimit [.ref (h 2), .int (nI k0), .int p1] (wC cI cZ h F V) (S := (Nat → Nat → Int32) × (Nat → Int32)) (fun _ => True) (fun u => wC cI cZ h u.1 u.2) 0 0 := by
  refine ct_V (cc := cX0_setLimit) (maxL := 3) (own := RX0) (by decide) rfl rfl (Nat.le_of_ble_eq_true rfl) (lv := [(0, .ref (h 2)), (1, .int (nI k0)), (2, .int p1)]) rfl ?_
  intro p e s m args below meth c A Q ls hnm fx hK hP hD hA hl hret
  obtain ⟨hx, hb, hml, hown, hts⟩ := id fx
  have hS : va_S A s.heap s.heap [] := va_S.rf
  have hw0 := hts (.fieldLink RX0 15 "MirrorTower$Face" "limits" "[I") (by decide +kernel)
  have hin_X0 : ∀ w ∈ u_ws RX0 TX0 11, w ∈ wsX0_setLimit := by decide +kernel
  obtain ⟨H, hH⟩ : ∃ H, H = s.heap := ⟨_, rfl⟩
  rw [← hH] at hP ⊢
  have hS : va_S A s.heap H [] := by rw [hH]; exact hS
  generalize ([] : List Loc) = locs at hS ⊢
  refine lv_aload_n hx hb dX0_setLimit_0 rfl (lv_at hl 0 rfl) ?_
  refine va_get (D := (dC, dI)) (ci := 0) (v := .ref (h 14)) (C := RX0) (T := TX0) (N := 11) hx hb hts hin_X0 hown hK hP 2 rfl rfl 1 (by decide) hw0 (fun _ h9 => h9) rfl dX0_setLimit_1 ?_
  refine lv_iload_n hx hb dX0_setLimit_4 rfl (lv_at hl 1 rfl) ?_
  refine lv_iload_n hx hb dX0_setLimit_5 rfl (lv_at hl 2 rfl) ?_
  refine va_iast hx hb hK hP hD hS 14 0 rfl rfl (vp_in_nI (n := k0) (N := 4) (by omega) (by decide)) dX0_setLimit_6 (fun H locs hP hD hS => ?_)
  obtain ⟨F_1, eF_1⟩ : ∃ z : Nat → Nat → Int32, z = va_up F 14 (upd (F 14) (nI k0).toNatClampNeg p1) := ⟨_, rfl⟩
  have hP : va_P (dC, dI) vwCl (wC cI cZ h F_1 V) H := by rw [eF_1]; exact hP
  have hD : va_D A (wC cI cZ h F_1 V) := by rw [eF_1]; exact hD
  exact hret (F_1, V) H locs 7 ls dX0_setLimit_7 (trivial) (hP) (hD) hS
def rm_X0_keptPowerAt : Room := { frames := 0, cells := 0, slots := 0, locals := 0 }
set_option maxHeartbeats 4000000 in
set_option maxRecDepth 100000 in
theorem c_X0_keptPowerAt (l : Launch) (dC : Nat → ClassId) (dI : Nat → Nat → Nat) (cI cZ cJ : ClassId) (h : Nat → Nat) (F : Nat → Nat → Int32) (V : Nat → Int32) (k0 : Nat) (hk0 : k0 < 4)  (hF20 : ∀ i, i < 4 → F 20 i = 0) : CtI l (dC, dI) vwCl (tys3 cI cZ cJ) yX0_keptPowerAt wsX0_keptPowerAt rm_X0_keptPowerAt [.ref (h 2), .int (nI k0)] (wC cI cZ h F V) (S := Unit) (fun r _ => r = 0) (fun _ => wC cI cZ h F V) 0 0 := by
  refine ct_I (cc := cX0_keptPowerAt) (maxL := 2) (ty := .int) (own := RX0) (by decide) rfl rfl (Nat.le_of_ble_eq_true rfl) (lv := [(0, .ref (h 2)), (1, .int (nI k0))]) rfl ?_
  intro p e s m args below meth c A Q ls fx hK hP hD hA hl hret
  obtain ⟨hx, hb, hml, hown, hts⟩ := id fx
  have hS : va_S A s.heap s.heap [] := va_S.rf
  have hw0 := hts (.fieldLink RX0 40 "MirrorTower$Face" "keptPowers" "[I") (by decide +kernel)
  have hin_X0 : ∀ w ∈ u_ws RX0 TX0 11, w ∈ wsX0_keptPowerAt := by decide +kernel
  obtain ⟨H, hH⟩ : ∃ H, H = s.heap := ⟨_, rfl⟩
  rw [← hH] at hP ⊢
  have hS : va_S A s.heap H [] := by rw [hH]; exact hS
  generalize ([] : List Loc) = locs at hS ⊢
  refine lv_aload_n hx hb dX0_keptPowerAt_0 rfl (lv_at hl 0 rfl) ?_
  refine va_get (D := (dC, dI)) (ci := 0) (v := .ref (h 20)) (C := RX0) (T := TX0) (N := 11) hx hb hts hin_X0 hown hK hP 2 rfl rfl 7 (by decide) hw0 (fun _ h9 => h9) rfl dX0_keptPowerAt_1 ?_
  refine lv_iload_n hx hb dX0_keptPowerAt_4 rfl (lv_at hl 1 rfl) ?_
  refine va_iald hx hb hK hP 20 0 rfl rfl (vp_in_nI (n := k0) (N := 4) (by omega) (by decide)) dX0_keptPowerAt_5 ?_
  refine lv_topi (fun x_1 ex_1 => ?_)
  obtain rfl : x_1 = 0 := ex_1.trans ((congrArg (F 20) (show (nI k0).toNatClampNeg = k0 from nI_clamp (n := k0) (by omega))).trans (hF20 k0 (by omega)))
  exact hret 0 () H locs 6 ls rfl dX0_keptPowerAt_6 (by first | rfl | (simp []; done) | (exfalso; omega)) (hP) (hD) hS
def rm_X0_readPowers : Room := { frames := 1, cells := 0, slots := 0, locals := 20 }
set_option maxHeartbeats 4000000 in
set_option maxRecDepth 100000 in
theorem c_X0_readPowers (l : Launch) (dC : Nat → ClassId) (dI : Nat → Nat → Nat) (cI cZ cJ : ClassId) (h : Nat → Nat) (F : Nat → Nat → Int32) (V : Nat → Int32) (p0 p1 : Int32) (hV1 : V 1 = 0) : CtV l (dC, dI) vwCl (tys3 cI cZ cJ) yX0_readPowers wsX0_readPowers rm_X0_readPowers [.ref (h 2), .int p0, .int p1] (wC cI cZ h F V) (S := Unit) (fun _ => True) (fun _ => wC cI cZ h F V) 0 0 := by
  refine ct_V (cc := cX0_readPowers) (maxL := 4) (own := RX0) (by decide) rfl rfl (Nat.le_of_ble_eq_true rfl) (lv := [(0, .ref (h 2)), (1, .int p0), (2, .int p1)]) rfl ?_
  intro p e s m args below meth c A Q ls hnm fx hK hP hD hA hl hret
  obtain ⟨hx, hb, hml, hown, hts⟩ := id fx
  have hS : va_S A s.heap s.heap [] := va_S.rf
  have hw0 := hts (.fieldLink RX0 11 "MirrorTower$Face" "field" "LMirrorTower$Field;") (by decide +kernel)
  have hin_X0 : ∀ w ∈ u_ws RX0 TX0 11, w ∈ wsX0_readPowers := by decide +kernel
  obtain ⟨H, hH⟩ : ∃ H, H = s.heap := ⟨_, rfl⟩
  rw [← hH] at hP ⊢
  have hS : va_S A s.heap H [] := by rw [hH]; exact hS
  generalize ([] : List Loc) = locs at hS ⊢
  refine lv_iconst (v := 0) hx hb dX0_readPowers_0 (by decide) ?_
  refine lv_istore_n (lv' := [(3, .int 0), (0, .ref (h 2)), (1, .int p0), (2, .int p1)]) hx hb dX0_readPowers_1 rfl hl (by decide) rfl (fun ls hl => ?_)
  refine lv_iload_n hx hb dX0_readPowers_2 rfl (lv_at hl 0 rfl) ?_
  refine lv_aload_n hx hb dX0_readPowers_3 rfl (lv_at hl 1 rfl) ?_
  refine va_get (D := (dC, dI)) (ci := 0) (v := .ref (h 1)) (C := RX0) (T := TX0) (N := 11) hx hb hts hin_X0 hown hK hP 2 rfl rfl 0 (by decide) hw0 (fun _ h9 => h9) rfl dX0_readPowers_4 ?_
  refine cw_Vi (As := []) (rest := [.int 0]) (c_X1_size l dC dI cI cZ cJ h F V) fx (cwV 0 hts gX0_readPowers_X1_size rfl rfl rfl (by decide +kernel) ⟨Nat.le_of_ble_eq_true rfl, Nat.le_of_ble_eq_true rfl⟩) hK hP hD hS hA 1 rfl rfl rfl rfl hl.1 rfl (Nat.le_of_ble_eq_true rfl) dX0_readPowers_7 ⟨Nat.le_of_ble_eq_true rfl, Nat.le_of_ble_eq_true rfl⟩ (fun r_1 u_2 H locs hw_3 hP hD hS => ?_)
  have hP : va_P (dC, dI) vwCl (wC cI cZ h F V) H := hP
  have hD : va_D A (wC cI cZ h F V) := hD
  obtain rfl : r_1 = 0 := Eq.trans hw_3 hV1
  refine lv_icmp_ge (tgt := 35) hx hb dX0_readPowers_10 (by decide) (fun c_4 => ?_) (fun c_4 => ?_)
  · exact hret () H locs 35 ls dX0_readPowers_35 (trivial) (hP) (hD) hS
  · exact absurd c_4 (by decide)
def rm_X0_rank : Room := { frames := 1, cells := 0, slots := 0, locals := 20 }
set_option maxHeartbeats 4000000 in
set_option maxRecDepth 100000 in
theorem c_X0_rank (l : Launch) (dC : Nat → ClassId) (dI : Nat → Nat → Nat) (cI cZ cJ : ClassId) (h : Nat → Nat) (F : Nat → Nat → Int32) (V : Nat → Int32)  (hV1 : V 1 = 0) : CtV l (dC, dI) vwCl (tys3 cI cZ cJ) yX0_rank wsX0_rank rm_X0_rank [.ref (h 2)] (wC cI cZ h F V) (S := Unit) (fun _ => True) (fun _ => wC cI cZ h F V) 0 0 := by
  refine ct_V (cc := cX0_rank) (maxL := 3) (own := RX0) (by decide) rfl rfl (Nat.le_of_ble_eq_true rfl) (lv := [(0, .ref (h 2))]) rfl ?_
  intro p e s m args below meth c A Q ls hnm fx hK hP hD hA hl hret
  obtain ⟨hx, hb, hml, hown, hts⟩ := id fx
  have hS : va_S A s.heap s.heap [] := va_S.rf
  have hw0 := hts (.fieldLink RX0 11 "MirrorTower$Face" "field" "LMirrorTower$Field;") (by decide +kernel)
  have hin_X0 : ∀ w ∈ u_ws RX0 TX0 11, w ∈ wsX0_rank := by decide +kernel
  obtain ⟨H, hH⟩ : ∃ H, H = s.heap := ⟨_, rfl⟩
  rw [← hH] at hP ⊢
  have hS : va_S A s.heap H [] := by rw [hH]; exact hS
  generalize ([] : List Loc) = locs at hS ⊢
  refine lv_iconst (v := 0) hx hb dX0_rank_0 (by decide) ?_
  refine lv_istore_n (lv' := [(1, .int 0), (0, .ref (h 2))]) hx hb dX0_rank_1 rfl hl (by decide) rfl (fun ls hl => ?_)
  refine lv_iload_n hx hb dX0_rank_2 rfl (lv_at hl 0 rfl) ?_
  refine lv_aload_n hx hb dX0_rank_3 rfl (lv_at hl 1 rfl) ?_
  refine va_get (D := (dC, dI)) (ci := 0) (v := .ref (h 1)) (C := RX0) (T := TX0) (N := 11) hx hb hts hin_X0 hown hK hP 2 rfl rfl 0 (by decide) hw0 (fun _ h9 => h9) rfl dX0_rank_4 ?_
  refine cw_Vi (As := []) (rest := [.int 0]) (c_X1_size l dC dI cI cZ cJ h F V) fx (cwV 0 hts gX0_rank_X1_size rfl rfl rfl (by decide +kernel) ⟨Nat.le_of_ble_eq_true rfl, Nat.le_of_ble_eq_true rfl⟩) hK hP hD hS hA 1 rfl rfl rfl rfl hl.1 rfl (Nat.le_of_ble_eq_true rfl) dX0_rank_7 ⟨Nat.le_of_ble_eq_true rfl, Nat.le_of_ble_eq_true rfl⟩ (fun r_1 u_2 H locs hw_3 hP hD hS => ?_)
  have hP : va_P (dC, dI) vwCl (wC cI cZ h F V) H := hP
  have hD : va_D A (wC cI cZ h F V) := hD
  obtain rfl : r_1 = 0 := Eq.trans hw_3 hV1
  refine lv_icmp_ge (tgt := 74) hx hb dX0_rank_10 (by decide) (fun c_4 => ?_) (fun c_4 => ?_)
  · exact hret () H locs 74 ls dX0_rank_74 (trivial) (hP) (hD) hS
  · exact absurd c_4 (by decide)
def rm_X0_aimAll : Room := { frames := 2, cells := 0, slots := 0, locals := 43 }
set_option maxHeartbeats 4000000 in
set_option maxRecDepth 100000 in
theorem c_X0_aimAll (l : Launch) (dC : Nat → ClassId) (dI : Nat → Nat → Nat) (cI cZ cJ : ClassId) (h : Nat → Nat) (F : Nat → Nat → Int32) (V : Nat → Int32) (p0 p1 : Int32) (hV1 : V 1 = 0) : CtI l (dC, dI) vwCl (tys3 cI cZ cJ) yX0_aimAll wsX0_aimAll rm_X0_aimAll [.ref (h 2), .int p0, .int p1] (wC cI cZ h F V) (S := Nat → Nat → Int32) (fun r u => r = 0 ∧ ∀ j, j ≠ 18 → u j = F j) (fun u => wC cI cZ h u V) 0 0 := by
  refine ct_I (cc := cX0_aimAll) (maxL := 7) (ty := .int) (own := RX0) (by decide) rfl rfl (Nat.le_of_ble_eq_true rfl) (lv := [(0, .ref (h 2)), (1, .int p0), (2, .int p1)]) rfl ?_
  intro p e s m args below meth c A Q ls fx hK hP hD hA hl hret
  obtain ⟨hx, hb, hml, hown, hts⟩ := id fx
  have hS : va_S A s.heap s.heap [] := va_S.rf
  have hw0 := hts (.fieldLink RX0 15 "MirrorTower$Face" "limits" "[I") (by decide +kernel)
  have hin_X0 : ∀ w ∈ u_ws RX0 TX0 11, w ∈ wsX0_aimAll := by decide +kernel
  have hw2 := hts (.fieldLink RX0 34 "MirrorTower$Face" "left" "[I") (by decide +kernel)
  have hw3 := hts (.methodLink RX0 64 arraycopyName) (by decide +kernel)
  have hw4 := hts (.native arraycopyName) (by decide +kernel)
  have hw5 := hts (.static arraycopyName) (by decide +kernel)
  have hw6 := hts (.initialized "java/lang/System") (by decide +kernel)
  have hw7 := hts (.fieldLink RX0 11 "MirrorTower$Face" "field" "LMirrorTower$Field;") (by decide +kernel)
  obtain ⟨H, hH⟩ : ∃ H, H = s.heap := ⟨_, rfl⟩
  rw [← hH] at hP ⊢
  have hS : va_S A s.heap H [] := by rw [hH]; exact hS
  generalize ([] : List Loc) = locs at hS ⊢
  refine lv_aload_n hx hb dX0_aimAll_0 rfl (lv_at hl 0 rfl) ?_
  refine lv_iload_n hx hb dX0_aimAll_1 rfl (lv_at hl 1 rfl) ?_
  refine lv_iload_n hx hb dX0_aimAll_2 rfl (lv_at hl 2 rfl) ?_
  refine cw_Vv (As := [.int p0, .int p1]) (rest := []) (c_X0_readPowers l dC dI cI cZ cJ h F V p0 p1 hV1) fx (cwV 2 hts gX0_aimAll_X0_readPowers rfl rfl rfl (by decide +kernel) ⟨Nat.le_of_ble_eq_true rfl, Nat.le_of_ble_eq_true rfl⟩) hK hP hD hS hA 2 rfl rfl rfl rfl hl.1 rfl (Nat.le_of_ble_eq_true rfl) dX0_aimAll_3 ⟨Nat.le_of_ble_eq_true rfl, Nat.le_of_ble_eq_true rfl⟩ (fun u_2 H locs hw_3 hP hD hS => ?_)
  have hP : va_P (dC, dI) vwCl (wC cI cZ h F V) H := hP
  have hD : va_D A (wC cI cZ h F V) := hD
  refine lv_aload_n hx hb dX0_aimAll_6 rfl (lv_at hl 0 rfl) ?_
  refine cw_Vv (As := []) (rest := []) (c_X0_rank l dC dI cI cZ cJ h F V hV1) fx (cwV 0 hts gX0_aimAll_X0_rank rfl rfl rfl (by decide +kernel) ⟨Nat.le_of_ble_eq_true rfl, Nat.le_of_ble_eq_true rfl⟩) hK hP hD hS hA 2 rfl rfl rfl rfl hl.1 rfl (Nat.le_of_ble_eq_true rfl) dX0_aimAll_7 ⟨Nat.le_of_ble_eq_true rfl, Nat.le_of_ble_eq_true rfl⟩ (fun u_5 H locs hw_6 hP hD hS => ?_)
  have hP : va_P (dC, dI) vwCl (wC cI cZ h F V) H := hP
  have hD : va_D A (wC cI cZ h F V) := hD
  refine lv_aload_n hx hb dX0_aimAll_10 rfl (lv_at hl 0 rfl) ?_
  refine va_get (D := (dC, dI)) (ci := 0) (v := .ref (h 14)) (C := RX0) (T := TX0) (N := 11) hx hb hts hin_X0 hown hK hP 2 rfl rfl 1 (by decide) hw0 (fun _ h9 => h9) rfl dX0_aimAll_11 ?_
  refine lv_iconst (v := 0) hx hb dX0_aimAll_14 (by decide) ?_
  refine lv_aload_n hx hb dX0_aimAll_15 rfl (lv_at hl 0 rfl) ?_
  refine va_get (D := (dC, dI)) (ci := 0) (v := .ref (h 18)) (C := RX0) (T := TX0) (N := 11) hx hb hts hin_X0 hown hK hP 2 rfl rfl 5 (by decide) hw2 (fun _ h9 => h9) rfl dX0_aimAll_16 ?_
  refine lv_iconst (v := 0) hx hb dX0_aimAll_19 (by decide) ?_
  refine lv_iconst (v := 4) hx hb dX0_aimAll_20 (by decide) ?_
  refine va_copyi hx hb (hml.trans hl.1.symm) hown hw3 hw4 hw5 hw6 hK hP hD hS 14 18 0 0 rfl rfl rfl rfl rfl (by decide) (by decide) (by decide) (by decide) (by decide) (fun _ _ => rfl) (Nat.le_of_ble_eq_true rfl) (Nat.le_of_ble_eq_true rfl) dX0_aimAll_21 (fun H locs hP hD hS => ?_)
  obtain ⟨F_7, eF_7⟩ : ∃ z : Nat → Nat → Int32, z = va_up F 18 (va_cpy (F 14) (F 18) (0 : Int32).toNatClampNeg (0 : Int32).toNatClampNeg (4 : Int32).toNatClampNeg) := ⟨_, rfl⟩
  have hP : va_P (dC, dI) vwCl (wC cI cZ h F_7 V) H := by rw [eF_7]; exact hP
  have hD : va_D A (wC cI cZ h F_7 V) := by rw [eF_7]; exact hD
  refine lv_iconst (v := 0) hx hb dX0_aimAll_24 (by decide) ?_
  refine lv_istore_n (lv' := [(3, .int 0), (0, .ref (h 2)), (1, .int p0), (2, .int p1)]) hx hb dX0_aimAll_25 rfl hl (by decide) rfl (fun ls hl => ?_)
  refine lv_iconst (v := 0) hx hb dX0_aimAll_26 (by decide) ?_
  refine lv_istore (lv' := [(4, .int 0), (3, .int 0), (0, .ref (h 2)), (1, .int p0), (2, .int p1)]) hx hb dX0_aimAll_27 hl (by decide) rfl (fun ls hl => ?_)
  refine lv_iload hx hb dX0_aimAll_29 (lv_at hl 0 rfl) ?_
  refine lv_aload_n hx hb dX0_aimAll_31 rfl (lv_at hl 2 rfl) ?_
  refine va_get (D := (dC, dI)) (ci := 0) (v := .ref (h 1)) (C := RX0) (T := TX0) (N := 11) hx hb hts hin_X0 hown hK hP 2 rfl rfl 0 (by decide) hw7 (fun _ h9 => h9) rfl dX0_aimAll_32 ?_
  refine cw_Vi (As := []) (rest := [.int 0]) (c_X1_size l dC dI cI cZ cJ h F_7 V) fx (cwV 0 hts gX0_aimAll_X1_size rfl rfl rfl (by decide +kernel) ⟨Nat.le_of_ble_eq_true rfl, Nat.le_of_ble_eq_true rfl⟩) hK hP hD hS hA 1 rfl rfl rfl rfl hl.1 rfl (Nat.le_of_ble_eq_true rfl) dX0_aimAll_35 ⟨Nat.le_of_ble_eq_true rfl, Nat.le_of_ble_eq_true rfl⟩ (fun r_8 u_9 H locs hw_10 hP hD hS => ?_)
  have hP : va_P (dC, dI) vwCl (wC cI cZ h F_7 V) H := hP
  have hD : va_D A (wC cI cZ h F_7 V) := hD
  obtain rfl : r_8 = 0 := Eq.trans hw_10 hV1
  refine lv_icmp_ge (tgt := 127) hx hb dX0_aimAll_38 (by decide) (fun c_11 => ?_) (fun c_11 => ?_)
  · refine lv_iload_n hx hb dX0_aimAll_127 rfl (lv_at hl 1 rfl) ?_
    exact hret 0 F_7 H locs 128 ls rfl dX0_aimAll_128 (⟨rfl, fun j hj => by rw [eF_7]; simp [va_up, hj]⟩) (hP) (hD) hS
  · exact absurd c_11 (by decide)
def rm_X0_keepAims : Room := { frames := 3, cells := 0, slots := 0, locals := 69 }
set_option maxHeartbeats 4000000 in
set_option maxRecDepth 100000 in
theorem c_X0_keepAims (l : Launch) (dC : Nat → ClassId) (dI : Nat → Nat → Nat) (cI cZ cJ : ClassId) (h : Nat → Nat) (F : Nat → Nat → Int32) (V : Nat → Int32) (p0 : Int32) (hV1 : V 1 = 0) : CtI l (dC, dI) vwCl (tys3 cI cZ cJ) yX0_keepAims wsX0_keepAims rm_X0_keepAims [.ref (h 2), .int p0] (wC cI cZ h F V) (S := (Nat → Nat → Int32) × (Nat → Int32)) (fun r _ => r = 0) (fun u => wC cI cZ h u.1 u.2) 0 0 := by
  refine ct_I (cc := cX0_keepAims) (maxL := 4) (ty := .int) (own := RX0) (by decide) rfl rfl (Nat.le_of_ble_eq_true rfl) (lv := [(0, .ref (h 2)), (1, .int p0)]) rfl ?_
  intro p e s m args below meth c A Q ls fx hK hP hD hA hl hret
  obtain ⟨hx, hb, hml, hown, hts⟩ := id fx
  have hS : va_S A s.heap s.heap [] := va_S.rf
  have hw0 := hts (.fieldLink RX0 11 "MirrorTower$Face" "field" "LMirrorTower$Field;") (by decide +kernel)
  have hin_X0 : ∀ w ∈ u_ws RX0 TX0 11, w ∈ wsX0_keepAims := by decide +kernel
  have hw2 := hts (.fieldLink RX0 60 "MirrorTower$Face" "keptSize" "I") (by decide +kernel)
  have hw3 := hts (.fieldLink RX0 31 "MirrorTower$Face" "cellOf" "[I") (by decide +kernel)
  have hw4 := hts (.fieldLink RX0 37 "MirrorTower$Face" "keptCells" "[I") (by decide +kernel)
  have hw5 := hts (.methodLink RX0 64 arraycopyName) (by decide +kernel)
  have hw6 := hts (.native arraycopyName) (by decide +kernel)
  have hw7 := hts (.static arraycopyName) (by decide +kernel)
  have hw8 := hts (.initialized "java/lang/System") (by decide +kernel)
  have hw9 := hts (.fieldLink RX0 40 "MirrorTower$Face" "keptPowers" "[I") (by decide +kernel)
  have hw10 := hts (.fieldLink RX0 15 "MirrorTower$Face" "limits" "[I") (by decide +kernel)
  have hw11 := hts (.fieldLink RX0 34 "MirrorTower$Face" "left" "[I") (by decide +kernel)
  obtain ⟨H, hH⟩ : ∃ H, H = s.heap := ⟨_, rfl⟩
  rw [← hH] at hP ⊢
  have hS : va_S A s.heap H [] := by rw [hH]; exact hS
  generalize ([] : List Loc) = locs at hS ⊢
  refine lv_aload_n hx hb dX0_keepAims_0 rfl (lv_at hl 0 rfl) ?_
  refine lv_iload_n hx hb dX0_keepAims_1 rfl (lv_at hl 1 rfl) ?_
  refine lv_iconst (v := 0) hx hb dX0_keepAims_2 (by decide) ?_
  refine cw_Vi (As := [.int p0, .int 0]) (rest := []) (c_X0_aimAll l dC dI cI cZ cJ h F V p0 0 hV1) fx (cwV 2 hts gX0_keepAims_X0_aimAll rfl rfl rfl (by decide +kernel) ⟨Nat.le_of_ble_eq_true rfl, Nat.le_of_ble_eq_true rfl⟩) hK hP hD hS hA 2 rfl rfl rfl rfl hl.1 rfl (Nat.le_of_ble_eq_true rfl) dX0_keepAims_3 ⟨Nat.le_of_ble_eq_true rfl, Nat.le_of_ble_eq_true rfl⟩ (fun r_1 u_2 H locs hw_3 hP hD hS => ?_)
  obtain ⟨F_4, rfl⟩ : ∃ z, z = u_2 := ⟨_, rfl⟩
  have hP : va_P (dC, dI) vwCl (wC cI cZ h F_4 V) H := hP
  have hD : va_D A (wC cI cZ h F_4 V) := hD
  obtain rfl : r_1 = 0 := hw_3.1
  refine lv_istore_n (lv' := [(2, .int 0), (0, .ref (h 2)), (1, .int p0)]) hx hb dX0_keepAims_6 rfl hl (by decide) rfl (fun ls hl => ?_)
  refine lv_aload_n hx hb dX0_keepAims_7 rfl (lv_at hl 1 rfl) ?_
  refine lv_aload_n hx hb dX0_keepAims_8 rfl (lv_at hl 1 rfl) ?_
  refine va_get (D := (dC, dI)) (ci := 0) (v := .ref (h 1)) (C := RX0) (T := TX0) (N := 11) hx hb hts hin_X0 hown hK hP 2 rfl rfl 0 (by decide) hw0 (fun _ h9 => h9) rfl dX0_keepAims_9 ?_
  refine cw_Vi (As := []) (rest := [.ref (h 2)]) (c_X1_size l dC dI cI cZ cJ h F_4 V) fx (cwV 0 hts gX0_keepAims_X1_size rfl rfl rfl (by decide +kernel) ⟨Nat.le_of_ble_eq_true rfl, Nat.le_of_ble_eq_true rfl⟩) hK hP hD hS hA 1 rfl rfl rfl rfl hl.1 rfl (Nat.le_of_ble_eq_true rfl) dX0_keepAims_12 ⟨Nat.le_of_ble_eq_true rfl, Nat.le_of_ble_eq_true rfl⟩ (fun r_5 u_6 H locs hw_7 hP hD hS => ?_)
  have hP : va_P (dC, dI) vwCl (wC cI cZ h F_4 V) H := hP
  have hD : va_D A (wC cI cZ h F_4 V) := hD
  obtain rfl : r_5 = 0 := Eq.trans hw_7 hV1
  refine va_put (D := (dC, dI)) (ci := 0) (v := .int 0) (ty := .int) (C := RX0) (T := TX0) (N := 11) hx hb hts hin_X0 tyX0 tyX0_ok nmX0 hown hK hP hD hS 2 rfl rfl 8 (by decide) hw2 (fun _ h9 => h9) rfl (by decide +kernel) rfl rfl (Nat.le_of_ble_eq_true rfl) dX0_keepAims_15 (fun H locs hP hD hS => ?_)
  have hP : va_P (dC, dI) vwCl (wC cI cZ h F_4 (va_up V 3 0)) H := hP
  have hD : va_D A (wC cI cZ h F_4 (va_up V 3 0)) := hD
  refine lv_aload_n hx hb dX0_keepAims_18 rfl (lv_at hl 1 rfl) ?_
  refine va_get (D := (dC, dI)) (ci := 0) (v := .ref (h 17)) (C := RX0) (T := TX0) (N := 11) hx hb hts hin_X0 hown hK hP 2 rfl rfl 4 (by decide) hw3 (fun _ h9 => h9) rfl dX0_keepAims_19 ?_
  refine lv_iconst (v := 0) hx hb dX0_keepAims_22 (by decide) ?_
  refine lv_aload_n hx hb dX0_keepAims_23 rfl (lv_at hl 1 rfl) ?_
  refine va_get (D := (dC, dI)) (ci := 0) (v := .ref (h 19)) (C := RX0) (T := TX0) (N := 11) hx hb hts hin_X0 hown hK hP 2 rfl rfl 6 (by decide) hw4 (fun _ h9 => h9) rfl dX0_keepAims_24 ?_
  refine lv_iconst (v := 0) hx hb dX0_keepAims_27 (by decide) ?_
  refine lv_aload_n hx hb dX0_keepAims_28 rfl (lv_at hl 1 rfl) ?_
  refine va_get (D := (dC, dI)) (ci := 0) (v := .int 0) (C := RX0) (T := TX0) (N := 11) hx hb hts hin_X0 hown hK hP 2 rfl rfl 8 (by decide) hw2 (fun _ h9 => h9) rfl dX0_keepAims_29 ?_
  refine va_copyi hx hb (hml.trans hl.1.symm) hown hw5 hw6 hw7 hw8 hK hP hD hS 17 19 0 0 rfl rfl rfl rfl rfl (by decide) (by decide) (by decide) (by decide) (by decide) (fun _ _ => rfl) (Nat.le_of_ble_eq_true rfl) (Nat.le_of_ble_eq_true rfl) dX0_keepAims_32 (fun H locs hP hD hS => ?_)
  obtain ⟨F_8, eF_8⟩ : ∃ z : Nat → Nat → Int32, z = va_up F_4 19 (va_cpy (F_4 17) (F_4 19) (0 : Int32).toNatClampNeg (0 : Int32).toNatClampNeg (0 : Int32).toNatClampNeg) := ⟨_, rfl⟩
  have hP : va_P (dC, dI) vwCl (wC cI cZ h F_8 (va_up V 3 0)) H := by rw [eF_8]; exact hP
  have hD : va_D A (wC cI cZ h F_8 (va_up V 3 0)) := by rw [eF_8]; exact hD
  refine lv_iconst (v := 0) hx hb dX0_keepAims_35 (by decide) ?_
  refine lv_istore_n (lv' := [(3, .int 0), (2, .int 0), (0, .ref (h 2)), (1, .int p0)]) hx hb dX0_keepAims_36 rfl hl (by decide) rfl (fun ls hl => ?_)
  refine lv_iload_n hx hb dX0_keepAims_37 rfl (lv_at hl 0 rfl) ?_
  refine lv_iconst (v := 4) hx hb dX0_keepAims_38 (by decide) ?_
  refine lv_icmp_ge (tgt := 67) hx hb dX0_keepAims_39 (by decide) (fun c_9 => ?_) (fun c_9 => ?_)
  · exact absurd c_9 (by decide)
  · refine lv_aload_n hx hb dX0_keepAims_42 rfl (lv_at hl 2 rfl) ?_
    refine va_get (D := (dC, dI)) (ci := 0) (v := .ref (h 20)) (C := RX0) (T := TX0) (N := 11) hx hb hts hin_X0 hown hK hP 2 rfl rfl 7 (by decide) hw9 (fun _ h9 => h9) rfl dX0_keepAims_43 ?_
    refine lv_iload_n hx hb dX0_keepAims_46 rfl (lv_at hl 0 rfl) ?_
    refine lv_aload_n hx hb dX0_keepAims_47 rfl (lv_at hl 2 rfl) ?_
    refine va_get (D := (dC, dI)) (ci := 0) (v := .ref (h 14)) (C := RX0) (T := TX0) (N := 11) hx hb hts hin_X0 hown hK hP 2 rfl rfl 1 (by decide) hw10 (fun _ h9 => h9) rfl dX0_keepAims_48 ?_
    refine lv_iload_n hx hb dX0_keepAims_51 rfl (lv_at hl 0 rfl) ?_
    refine va_iald hx hb hK hP 14 0 rfl rfl (vp_in_nI (n := 0) (N := 4) (by decide) (by decide)) dX0_keepAims_52 ?_
    refine lv_topi (fun x_10 ex_10 => ?_)
    refine lv_aload_n hx hb dX0_keepAims_53 rfl (lv_at hl 2 rfl) ?_
    refine va_get (D := (dC, dI)) (ci := 0) (v := .ref (h 18)) (C := RX0) (T := TX0) (N := 11) hx hb hts hin_X0 hown hK hP 2 rfl rfl 5 (by decide) hw11 (fun _ h9 => h9) rfl dX0_keepAims_54 ?_
    refine lv_iload_n hx hb dX0_keepAims_57 rfl (lv_at hl 0 rfl) ?_
    refine va_iald hx hb hK hP 18 0 rfl rfl (vp_in_nI (n := 0) (N := 4) (by decide) (by decide)) dX0_keepAims_58 ?_
    refine lv_topi (fun x_11 ex_11 => ?_)
    refine lv_isub hx hb dX0_keepAims_59 ?_
    refine va_iast hx hb hK hP hD hS 20 0 rfl rfl (vp_in_nI (n := 0) (N := 4) (by decide) (by decide)) dX0_keepAims_60 (fun H locs hP hD hS => ?_)
    obtain ⟨F_12, eF_12⟩ : ∃ z : Nat → Nat → Int32, z = va_up F_8 20 (upd (F_8 20) (0 : Int32).toNatClampNeg (x_10 - x_11)) := ⟨_, rfl⟩
    have hP : va_P (dC, dI) vwCl (wC cI cZ h F_12 (va_up V 3 0)) H := by rw [eF_12]; exact hP
    have hD : va_D A (wC cI cZ h F_12 (va_up V 3 0)) := by rw [eF_12]; exact hD
    refine lv_iinc (v := 1) (lv' := [(3, .int 1), (2, .int 0), (0, .ref (h 2)), (1, .int p0)]) hx hb dX0_keepAims_61 hl (k := 0) rfl (by decide) (by decide) rfl (fun ls hl => ?_)
    refine lv_goto (tgt := 37) hx hb dX0_keepAims_64 (by decide) ?_
    refine lv_iload_n hx hb dX0_keepAims_37 rfl (lv_at hl 0 rfl) ?_
    refine lv_iconst (v := 4) hx hb dX0_keepAims_38 (by decide) ?_
    refine lv_icmp_ge (tgt := 67) hx hb dX0_keepAims_39 (by decide) (fun c_13 => ?_) (fun c_13 => ?_)
    · exact absurd c_13 (by decide)
    · refine lv_aload_n hx hb dX0_keepAims_42 rfl (lv_at hl 2 rfl) ?_
      refine va_get (D := (dC, dI)) (ci := 0) (v := .ref (h 20)) (C := RX0) (T := TX0) (N := 11) hx hb hts hin_X0 hown hK hP 2 rfl rfl 7 (by decide) hw9 (fun _ h9 => h9) rfl dX0_keepAims_43 ?_
      refine lv_iload_n hx hb dX0_keepAims_46 rfl (lv_at hl 0 rfl) ?_
      refine lv_aload_n hx hb dX0_keepAims_47 rfl (lv_at hl 2 rfl) ?_
      refine va_get (D := (dC, dI)) (ci := 0) (v := .ref (h 14)) (C := RX0) (T := TX0) (N := 11) hx hb hts hin_X0 hown hK hP 2 rfl rfl 1 (by decide) hw10 (fun _ h9 => h9) rfl dX0_keepAims_48 ?_
      refine lv_iload_n hx hb dX0_keepAims_51 rfl (lv_at hl 0 rfl) ?_
      refine va_iald hx hb hK hP 14 0 rfl rfl (vp_in_nI (n := 1) (N := 4) (by decide) (by decide)) dX0_keepAims_52 ?_
      refine lv_topi (fun x_14 ex_14 => ?_)
      refine lv_aload_n hx hb dX0_keepAims_53 rfl (lv_at hl 2 rfl) ?_
      refine va_get (D := (dC, dI)) (ci := 0) (v := .ref (h 18)) (C := RX0) (T := TX0) (N := 11) hx hb hts hin_X0 hown hK hP 2 rfl rfl 5 (by decide) hw11 (fun _ h9 => h9) rfl dX0_keepAims_54 ?_
      refine lv_iload_n hx hb dX0_keepAims_57 rfl (lv_at hl 0 rfl) ?_
      refine va_iald hx hb hK hP 18 0 rfl rfl (vp_in_nI (n := 1) (N := 4) (by decide) (by decide)) dX0_keepAims_58 ?_
      refine lv_topi (fun x_15 ex_15 => ?_)
      refine lv_isub hx hb dX0_keepAims_59 ?_
      refine va_iast hx hb hK hP hD hS 20 0 rfl rfl (vp_in_nI (n := 1) (N := 4) (by decide) (by decide)) dX0_keepAims_60 (fun H locs hP hD hS => ?_)
      obtain ⟨F_16, eF_16⟩ : ∃ z : Nat → Nat → Int32, z = va_up F_12 20 (upd (F_12 20) (1 : Int32).toNatClampNeg (x_14 - x_15)) := ⟨_, rfl⟩
      have hP : va_P (dC, dI) vwCl (wC cI cZ h F_16 (va_up V 3 0)) H := by rw [eF_16]; exact hP
      have hD : va_D A (wC cI cZ h F_16 (va_up V 3 0)) := by rw [eF_16]; exact hD
      refine lv_iinc (v := 2) (lv' := [(3, .int 2), (2, .int 0), (0, .ref (h 2)), (1, .int p0)]) hx hb dX0_keepAims_61 hl (k := 0) rfl (by decide) (by decide) rfl (fun ls hl => ?_)
      refine lv_goto (tgt := 37) hx hb dX0_keepAims_64 (by decide) ?_
      refine lv_iload_n hx hb dX0_keepAims_37 rfl (lv_at hl 0 rfl) ?_
      refine lv_iconst (v := 4) hx hb dX0_keepAims_38 (by decide) ?_
      refine lv_icmp_ge (tgt := 67) hx hb dX0_keepAims_39 (by decide) (fun c_17 => ?_) (fun c_17 => ?_)
      · exact absurd c_17 (by decide)
      · refine lv_aload_n hx hb dX0_keepAims_42 rfl (lv_at hl 2 rfl) ?_
        refine va_get (D := (dC, dI)) (ci := 0) (v := .ref (h 20)) (C := RX0) (T := TX0) (N := 11) hx hb hts hin_X0 hown hK hP 2 rfl rfl 7 (by decide) hw9 (fun _ h9 => h9) rfl dX0_keepAims_43 ?_
        refine lv_iload_n hx hb dX0_keepAims_46 rfl (lv_at hl 0 rfl) ?_
        refine lv_aload_n hx hb dX0_keepAims_47 rfl (lv_at hl 2 rfl) ?_
        refine va_get (D := (dC, dI)) (ci := 0) (v := .ref (h 14)) (C := RX0) (T := TX0) (N := 11) hx hb hts hin_X0 hown hK hP 2 rfl rfl 1 (by decide) hw10 (fun _ h9 => h9) rfl dX0_keepAims_48 ?_
        refine lv_iload_n hx hb dX0_keepAims_51 rfl (lv_at hl 0 rfl) ?_
        refine va_iald hx hb hK hP 14 0 rfl rfl (vp_in_nI (n := 2) (N := 4) (by decide) (by decide)) dX0_keepAims_52 ?_
        refine lv_topi (fun x_18 ex_18 => ?_)
        refine lv_aload_n hx hb dX0_keepAims_53 rfl (lv_at hl 2 rfl) ?_
        refine va_get (D := (dC, dI)) (ci := 0) (v := .ref (h 18)) (C := RX0) (T := TX0) (N := 11) hx hb hts hin_X0 hown hK hP 2 rfl rfl 5 (by decide) hw11 (fun _ h9 => h9) rfl dX0_keepAims_54 ?_
        refine lv_iload_n hx hb dX0_keepAims_57 rfl (lv_at hl 0 rfl) ?_
        refine va_iald hx hb hK hP 18 0 rfl rfl (vp_in_nI (n := 2) (N := 4) (by decide) (by decide)) dX0_keepAims_58 ?_
        refine lv_topi (fun x_19 ex_19 => ?_)
        refine lv_isub hx hb dX0_keepAims_59 ?_
        refine va_iast hx hb hK hP hD hS 20 0 rfl rfl (vp_in_nI (n := 2) (N := 4) (by decide) (by decide)) dX0_keepAims_60 (fun H locs hP hD hS => ?_)
        obtain ⟨F_20, eF_20⟩ : ∃ z : Nat → Nat → Int32, z = va_up F_16 20 (upd (F_16 20) (2 : Int32).toNatClampNeg (x_18 - x_19)) := ⟨_, rfl⟩
        have hP : va_P (dC, dI) vwCl (wC cI cZ h F_20 (va_up V 3 0)) H := by rw [eF_20]; exact hP
        have hD : va_D A (wC cI cZ h F_20 (va_up V 3 0)) := by rw [eF_20]; exact hD
        refine lv_iinc (v := 3) (lv' := [(3, .int 3), (2, .int 0), (0, .ref (h 2)), (1, .int p0)]) hx hb dX0_keepAims_61 hl (k := 0) rfl (by decide) (by decide) rfl (fun ls hl => ?_)
        refine lv_goto (tgt := 37) hx hb dX0_keepAims_64 (by decide) ?_
        refine lv_iload_n hx hb dX0_keepAims_37 rfl (lv_at hl 0 rfl) ?_
        refine lv_iconst (v := 4) hx hb dX0_keepAims_38 (by decide) ?_
        refine lv_icmp_ge (tgt := 67) hx hb dX0_keepAims_39 (by decide) (fun c_21 => ?_) (fun c_21 => ?_)
        · exact absurd c_21 (by decide)
        · refine lv_aload_n hx hb dX0_keepAims_42 rfl (lv_at hl 2 rfl) ?_
          refine va_get (D := (dC, dI)) (ci := 0) (v := .ref (h 20)) (C := RX0) (T := TX0) (N := 11) hx hb hts hin_X0 hown hK hP 2 rfl rfl 7 (by decide) hw9 (fun _ h9 => h9) rfl dX0_keepAims_43 ?_
          refine lv_iload_n hx hb dX0_keepAims_46 rfl (lv_at hl 0 rfl) ?_
          refine lv_aload_n hx hb dX0_keepAims_47 rfl (lv_at hl 2 rfl) ?_
          refine va_get (D := (dC, dI)) (ci := 0) (v := .ref (h 14)) (C := RX0) (T := TX0) (N := 11) hx hb hts hin_X0 hown hK hP 2 rfl rfl 1 (by decide) hw10 (fun _ h9 => h9) rfl dX0_keepAims_48 ?_
          refine lv_iload_n hx hb dX0_keepAims_51 rfl (lv_at hl 0 rfl) ?_
          refine va_iald hx hb hK hP 14 0 rfl rfl (vp_in_nI (n := 3) (N := 4) (by decide) (by decide)) dX0_keepAims_52 ?_
          refine lv_topi (fun x_22 ex_22 => ?_)
          refine lv_aload_n hx hb dX0_keepAims_53 rfl (lv_at hl 2 rfl) ?_
          refine va_get (D := (dC, dI)) (ci := 0) (v := .ref (h 18)) (C := RX0) (T := TX0) (N := 11) hx hb hts hin_X0 hown hK hP 2 rfl rfl 5 (by decide) hw11 (fun _ h9 => h9) rfl dX0_keepAims_54 ?_
          refine lv_iload_n hx hb dX0_keepAims_57 rfl (lv_at hl 0 rfl) ?_
          refine va_iald hx hb hK hP 18 0 rfl rfl (vp_in_nI (n := 3) (N := 4) (by decide) (by decide)) dX0_keepAims_58 ?_
          refine lv_topi (fun x_23 ex_23 => ?_)
          refine lv_isub hx hb dX0_keepAims_59 ?_
          refine va_iast hx hb hK hP hD hS 20 0 rfl rfl (vp_in_nI (n := 3) (N := 4) (by decide) (by decide)) dX0_keepAims_60 (fun H locs hP hD hS => ?_)
          obtain ⟨F_24, eF_24⟩ : ∃ z : Nat → Nat → Int32, z = va_up F_20 20 (upd (F_20 20) (3 : Int32).toNatClampNeg (x_22 - x_23)) := ⟨_, rfl⟩
          have hP : va_P (dC, dI) vwCl (wC cI cZ h F_24 (va_up V 3 0)) H := by rw [eF_24]; exact hP
          have hD : va_D A (wC cI cZ h F_24 (va_up V 3 0)) := by rw [eF_24]; exact hD
          refine lv_iinc (v := 4) (lv' := [(3, .int 4), (2, .int 0), (0, .ref (h 2)), (1, .int p0)]) hx hb dX0_keepAims_61 hl (k := 0) rfl (by decide) (by decide) rfl (fun ls hl => ?_)
          refine lv_goto (tgt := 37) hx hb dX0_keepAims_64 (by decide) ?_
          refine lv_iload_n hx hb dX0_keepAims_37 rfl (lv_at hl 0 rfl) ?_
          refine lv_iconst (v := 4) hx hb dX0_keepAims_38 (by decide) ?_
          refine lv_icmp_ge (tgt := 67) hx hb dX0_keepAims_39 (by decide) (fun c_25 => ?_) (fun c_25 => ?_)
          · refine lv_iload_n hx hb dX0_keepAims_67 rfl (lv_at hl 1 rfl) ?_
            exact hret 0 (F_24, va_up V 3 0) H locs 68 ls rfl dX0_keepAims_68 (rfl) (hP) (hD) hS
          · exact absurd c_25 (by decide)
def rm_X0_addUpSets : Room := { frames := 0, cells := 0, slots := 0, locals := 0 }
set_option maxHeartbeats 4000000 in
set_option maxRecDepth 100000 in
theorem c_X0_addUpSets (l : Launch) (dC : Nat → ClassId) (dI : Nat → Nat → Nat) (cI cZ cJ : ClassId) (h : Nat → Nat) (F : Nat → Nat → Int32) (V : Nat → Int32)   : CtV l (dC, dI) vwCl (tys3 cI cZ cJ) yX0_addUpSets wsX0_addUpSets rm_X0_addUpSets [.ref (h 2), .int 0] (wC cI cZ h F V) (S := Nat → Nat → Int32) (fun u => u 21 0 = 0) (fun u => wC cI cZ h u V) 0 0 := by
  refine ct_V (cc := cX0_addUpSets) (maxL := 5) (own := RX0) (by decide) rfl rfl (Nat.le_of_ble_eq_true rfl) (lv := [(0, .ref (h 2)), (1, .int 0)]) rfl ?_
  intro p e s m args below meth c A Q ls hnm fx hK hP hD hA hl hret
  obtain ⟨hx, hb, hml, hown, hts⟩ := id fx
  have hS : va_S A s.heap s.heap [] := va_S.rf
  have hw0 := hts (.fieldLink RX0 43 "MirrorTower$Face" "setPowers" "[I") (by decide +kernel)
  have hin_X0 : ∀ w ∈ u_ws RX0 TX0 11, w ∈ wsX0_addUpSets := by decide +kernel
  obtain ⟨H, hH⟩ : ∃ H, H = s.heap := ⟨_, rfl⟩
  rw [← hH] at hP ⊢
  have hS : va_S A s.heap H [] := by rw [hH]; exact hS
  generalize ([] : List Loc) = locs at hS ⊢
  refine lv_aload_n hx hb dX0_addUpSets_0 rfl (lv_at hl 0 rfl) ?_
  refine va_get (D := (dC, dI)) (ci := 0) (v := .ref (h 21)) (C := RX0) (T := TX0) (N := 11) hx hb hts hin_X0 hown hK hP 2 rfl rfl 9 (by decide) hw0 (fun _ h9 => h9) rfl dX0_addUpSets_1 ?_
  refine lv_iconst (v := 0) hx hb dX0_addUpSets_4 (by decide) ?_
  refine lv_iconst (v := 0) hx hb dX0_addUpSets_5 (by decide) ?_
  refine va_iast hx hb hK hP hD hS 21 0 rfl rfl (vp_in_nI (n := 0) (N := 128) (by decide) (by decide)) dX0_addUpSets_6 (fun H locs hP hD hS => ?_)
  obtain ⟨F_1, eF_1⟩ : ∃ z : Nat → Nat → Int32, z = va_up F 21 (upd (F 21) (0 : Int32).toNatClampNeg 0) := ⟨_, rfl⟩
  have hP : va_P (dC, dI) vwCl (wC cI cZ h F_1 V) H := by rw [eF_1]; exact hP
  have hD : va_D A (wC cI cZ h F_1 V) := by rw [eF_1]; exact hD
  have hE_2 : F_1 21 0 = 0 := by rw [eF_1]; rfl
  refine lv_iconst (v := 0) hx hb dX0_addUpSets_7 (by decide) ?_
  refine lv_istore_n (lv' := [(2, .int 0), (0, .ref (h 2)), (1, .int 0)]) hx hb dX0_addUpSets_8 rfl hl (by decide) rfl (fun ls hl => ?_)
  refine lv_iload_n hx hb dX0_addUpSets_9 rfl (lv_at hl 0 rfl) ?_
  refine lv_iload_n hx hb dX0_addUpSets_10 rfl (lv_at hl 2 rfl) ?_
  refine lv_icmp_ge (tgt := 67) hx hb dX0_addUpSets_11 (by decide) (fun c_3 => ?_) (fun c_3 => ?_)
  · exact hret F_1 H locs 67 ls dX0_addUpSets_67 (hE_2) (hP) (hD) hS
  · exact absurd c_3 (by decide)
def rm_X0_widen : Room := { frames := 0, cells := 0, slots := 0, locals := 0 }
set_option maxHeartbeats 4000000 in
set_option maxRecDepth 100000 in
theorem c_X0_widen (l : Launch) (dC : Nat → ClassId) (dI : Nat → Nat → Nat) (cI cZ cJ : ClassId) (h : Nat → Nat) (F : Nat → Nat → Int32) (V : Nat → Int32) (p1 : Int32)  : CtV l (dC, dI) vwCl (tys3 cI cZ cJ) yX0_widen wsX0_widen rm_X0_widen [.ref (h 2), .int 1, .int p1] (wC cI cZ h F V) (S := Unit) (fun _ => True) (fun _ => wC cI cZ h F V) 0 0 := by
  refine ct_V (cc := cX0_widen) (maxL := 5) (own := RX0) (by decide) rfl rfl (Nat.le_of_ble_eq_true rfl) (lv := [(0, .ref (h 2)), (1, .int 1), (2, .int p1)]) rfl ?_
  intro p e s m args below meth c A Q ls hnm fx hK hP hD hA hl hret
  obtain ⟨hx, hb, hml, hown, hts⟩ := id fx
  have hS : va_S A s.heap s.heap [] := va_S.rf
  obtain ⟨H, hH⟩ : ∃ H, H = s.heap := ⟨_, rfl⟩
  rw [← hH] at hP ⊢
  have hS : va_S A s.heap H [] := by rw [hH]; exact hS
  generalize ([] : List Loc) = locs at hS ⊢
  refine lv_iload_n hx hb dX0_widen_0 rfl (lv_at hl 1 rfl) ?_
  refine lv_iconst (v := 1) hx hb dX0_widen_1 (by decide) ?_
  refine lv_isub hx hb dX0_widen_2 ?_
  refine lv_topi (fun x_1 ex_1 => ?_)
  obtain rfl : x_1 = 0 := ex_1.trans (by decide)
  refine lv_istore_n (lv' := [(3, .int 0), (0, .ref (h 2)), (1, .int 1), (2, .int p1)]) hx hb dX0_widen_3 rfl hl (by decide) rfl (fun ls hl => ?_)
  refine lv_iload_n hx hb dX0_widen_4 rfl (lv_at hl 0 rfl) ?_
  refine lv_if_le (tgt := 76) hx hb dX0_widen_5 (by decide) (fun c_2 => ?_) (fun c_2 => ?_)
  · exact hret () H locs 76 ls dX0_widen_76 (trivial) (hP) (hD) hS
  · exact absurd c_2 (by decide)
def rm_X0_bestHeat : Room := { frames := 2, cells := 0, slots := 0, locals := 43 }
set_option maxHeartbeats 4000000 in
set_option maxRecDepth 100000 in
theorem c_X0_bestHeat (l : Launch) (dC : Nat → ClassId) (dI : Nat → Nat → Nat) (cI cZ cJ : ClassId) (h : Nat → Nat) (F : Nat → Nat → Int32) (V : Nat → Int32) (p0 : Int32) (hV1 : V 1 = 0) : CtI l (dC, dI) vwCl (tys3 cI cZ cJ) yX0_bestHeat wsX0_bestHeat rm_X0_bestHeat [.ref (h 2), .int p0] (wC cI cZ h F V) (S := Nat → Nat → Int32) (fun r _ => r = 0) (fun u => wC cI cZ h u V) 0 0 := by
  refine ct_I (cc := cX0_bestHeat) (maxL := 6) (ty := .int) (own := RX0) (by decide) rfl rfl (Nat.le_of_ble_eq_true rfl) (lv := [(0, .ref (h 2)), (1, .int p0)]) rfl ?_
  intro p e s m args below meth c A Q ls fx hK hP hD hA hl hret
  obtain ⟨hx, hb, hml, hown, hts⟩ := id fx
  have hS : va_S A s.heap s.heap [] := va_S.rf
  have hw0 := hts (.fieldLink RX0 11 "MirrorTower$Face" "field" "LMirrorTower$Field;") (by decide +kernel)
  have hin_X0 : ∀ w ∈ u_ws RX0 TX0 11, w ∈ wsX0_bestHeat := by decide +kernel
  have hw2 := hts (.methodLink RX0 84 Lib.Math.min.name) (by decide +kernel)
  have hw3 := hts (.static Lib.Math.min.name) (by decide +kernel)
  have hw4 := hts (.initialized "java/lang/Math") (by decide +kernel)
  have hw5 := hts (.code Lib.Math.min.name Lib.Math.min.code 2 (some .int)) (by decide +kernel)
  have hw6 := hts (.fieldLink RX0 46 "MirrorTower$Face" "fits" "[Z") (by decide +kernel)
  have hw7 := hts (.fieldLink RX0 15 "MirrorTower$Face" "limits" "[I") (by decide +kernel)
  have hw8 := hts (.fieldLink RX0 43 "MirrorTower$Face" "setPowers" "[I") (by decide +kernel)
  have hw9 := hts (.methodLink RX0 96 Lib.Math.max.name) (by decide +kernel)
  have hw10 := hts (.static Lib.Math.max.name) (by decide +kernel)
  have hw11 := hts (.code Lib.Math.max.name Lib.Math.max.code 2 (some .int)) (by decide +kernel)
  obtain ⟨H, hH⟩ : ∃ H, H = s.heap := ⟨_, rfl⟩
  rw [← hH] at hP ⊢
  have hS : va_S A s.heap H [] := by rw [hH]; exact hS
  generalize ([] : List Loc) = locs at hS ⊢
  refine lv_aload_n hx hb dX0_bestHeat_0 rfl (lv_at hl 0 rfl) ?_
  refine lv_iload_n hx hb dX0_bestHeat_1 rfl (lv_at hl 1 rfl) ?_
  refine lv_iconst (v := 0) hx hb dX0_bestHeat_2 (by decide) ?_
  refine cw_Vv (As := [.int p0, .int 0]) (rest := []) (c_X0_readPowers l dC dI cI cZ cJ h F V p0 0 hV1) fx (cwV 2 hts gX0_bestHeat_X0_readPowers rfl rfl rfl (by decide +kernel) ⟨Nat.le_of_ble_eq_true rfl, Nat.le_of_ble_eq_true rfl⟩) hK hP hD hS hA 2 rfl rfl rfl rfl hl.1 rfl (Nat.le_of_ble_eq_true rfl) dX0_bestHeat_3 ⟨Nat.le_of_ble_eq_true rfl, Nat.le_of_ble_eq_true rfl⟩ (fun u_2 H locs hw_3 hP hD hS => ?_)
  have hP : va_P (dC, dI) vwCl (wC cI cZ h F V) H := hP
  have hD : va_D A (wC cI cZ h F V) := hD
  refine lv_aload_n hx hb dX0_bestHeat_6 rfl (lv_at hl 0 rfl) ?_
  refine cw_Vv (As := []) (rest := []) (c_X0_rank l dC dI cI cZ cJ h F V hV1) fx (cwV 0 hts gX0_bestHeat_X0_rank rfl rfl rfl (by decide +kernel) ⟨Nat.le_of_ble_eq_true rfl, Nat.le_of_ble_eq_true rfl⟩) hK hP hD hS hA 2 rfl rfl rfl rfl hl.1 rfl (Nat.le_of_ble_eq_true rfl) dX0_bestHeat_7 ⟨Nat.le_of_ble_eq_true rfl, Nat.le_of_ble_eq_true rfl⟩ (fun u_5 H locs hw_6 hP hD hS => ?_)
  have hP : va_P (dC, dI) vwCl (wC cI cZ h F V) H := hP
  have hD : va_D A (wC cI cZ h F V) := hD
  refine lv_bipush (v := 7) hx hb dX0_bestHeat_10 (by decide) ?_
  refine lv_aload_n hx hb dX0_bestHeat_12 rfl (lv_at hl 0 rfl) ?_
  refine va_get (D := (dC, dI)) (ci := 0) (v := .ref (h 1)) (C := RX0) (T := TX0) (N := 11) hx hb hts hin_X0 hown hK hP 2 rfl rfl 0 (by decide) hw0 (fun _ h9 => h9) rfl dX0_bestHeat_13 ?_
  refine cw_Vi (As := []) (rest := [.int 7]) (c_X1_size l dC dI cI cZ cJ h F V) fx (cwV 0 hts gX0_bestHeat_X1_size rfl rfl rfl (by decide +kernel) ⟨Nat.le_of_ble_eq_true rfl, Nat.le_of_ble_eq_true rfl⟩) hK hP hD hS hA 1 rfl rfl rfl rfl hl.1 rfl (Nat.le_of_ble_eq_true rfl) dX0_bestHeat_16 ⟨Nat.le_of_ble_eq_true rfl, Nat.le_of_ble_eq_true rfl⟩ (fun r_7 u_8 H locs hw_9 hP hD hS => ?_)
  have hP : va_P (dC, dI) vwCl (wC cI cZ h F V) H := hP
  have hD : va_D A (wC cI cZ h F V) := hD
  obtain rfl : r_7 = 0 := Eq.trans hw_9 hV1
  refine va_mmin hx hb (hml.trans hl.1.symm) hown hw2 hw3 hw4 hw5 (Nat.le_of_ble_eq_true rfl) (Nat.le_of_ble_eq_true rfl) (Nat.le_of_ble_eq_true rfl) (Nat.le_of_ble_eq_true rfl) dX0_bestHeat_19 ?_
  refine lv_topi (fun x_10 ex_10 => ?_)
  obtain rfl : x_10 = 0 := ex_10.trans (by decide)
  refine lv_istore_n (lv' := [(2, .int 0), (0, .ref (h 2)), (1, .int p0)]) hx hb dX0_bestHeat_22 rfl hl (by decide) rfl (fun ls hl => ?_)
  refine lv_iconst (v := 1) hx hb dX0_bestHeat_23 (by decide) ?_
  refine lv_iload_n hx hb dX0_bestHeat_24 rfl (lv_at hl 0 rfl) ?_
  refine lv_ishl hx hb dX0_bestHeat_25 ?_
  refine lv_topi (fun x_11 ex_11 => ?_)
  obtain rfl : x_11 = 1 := ex_11.trans (by decide)
  refine lv_istore_n (lv' := [(3, .int 1), (2, .int 0), (0, .ref (h 2)), (1, .int p0)]) hx hb dX0_bestHeat_26 rfl hl (by decide) rfl (fun ls hl => ?_)
  refine lv_aload_n hx hb dX0_bestHeat_27 rfl (lv_at hl 2 rfl) ?_
  refine lv_iload_n hx hb dX0_bestHeat_28 rfl (lv_at hl 1 rfl) ?_
  refine cw_Vv (As := [.int 0]) (rest := []) (c_X0_addUpSets l dC dI cI cZ cJ h F V) fx (cwV 1 hts gX0_bestHeat_X0_addUpSets rfl rfl rfl (by decide +kernel) ⟨Nat.le_of_ble_eq_true rfl, Nat.le_of_ble_eq_true rfl⟩) hK hP hD hS hA 2 rfl rfl rfl rfl hl.1 rfl (Nat.le_of_ble_eq_true rfl) dX0_bestHeat_29 ⟨Nat.le_of_ble_eq_true rfl, Nat.le_of_ble_eq_true rfl⟩ (fun u_13 H locs hw_14 hP hD hS => ?_)
  obtain ⟨F_15, rfl⟩ : ∃ z, z = u_13 := ⟨_, rfl⟩
  have hP : va_P (dC, dI) vwCl (wC cI cZ h F_15 V) H := hP
  have hD : va_D A (wC cI cZ h F_15 V) := hD
  have hw_14 : F_15 21 0 = 0 := hw_14
  refine lv_iconst (v := 0) hx hb dX0_bestHeat_32 (by decide) ?_
  refine lv_istore (lv' := [(4, .int 0), (3, .int 1), (2, .int 0), (0, .ref (h 2)), (1, .int p0)]) hx hb dX0_bestHeat_33 hl (by decide) rfl (fun ls hl => ?_)
  refine lv_iload hx hb dX0_bestHeat_35 (lv_at hl 0 rfl) ?_
  refine lv_iload_n hx hb dX0_bestHeat_37 rfl (lv_at hl 1 rfl) ?_
  refine lv_icmp_ge (tgt := 64) hx hb dX0_bestHeat_38 (by decide) (fun c_16 => ?_) (fun c_16 => ?_)
  · exact absurd c_16 (by decide)
  · refine lv_aload_n hx hb dX0_bestHeat_41 rfl (lv_at hl 3 rfl) ?_
    refine va_get (D := (dC, dI)) (ci := 0) (v := .ref (h 22)) (C := RX0) (T := TX0) (N := 11) hx hb hts hin_X0 hown hK hP 2 rfl rfl 10 (by decide) hw6 (fun _ h9 => h9) rfl dX0_bestHeat_42 ?_
    refine lv_iload hx hb dX0_bestHeat_45 (lv_at hl 0 rfl) ?_
    refine lv_iload hx hb dX0_bestHeat_47 (lv_at hl 0 rfl) ?_
    refine lv_if_ne (tgt := 56) hx hb dX0_bestHeat_49 (by decide) (fun c_17 => ?_) (fun c_17 => ?_)
    · exact absurd c_17 (by decide)
    · refine lv_iconst (v := 1) hx hb dX0_bestHeat_52 (by decide) ?_
      refine lv_goto (tgt := 57) hx hb dX0_bestHeat_53 (by decide) ?_
      refine va_zast hx hb hK hP hD hS 22 1 rfl rfl (vp_in_nI (n := 0) (N := 128) (by decide) (by decide)) dX0_bestHeat_57 (fun H locs hP hD hS => ?_)
      obtain ⟨F_18, eF_18⟩ : ∃ z : Nat → Nat → Int32, z = va_up F_15 22 (upd (F_15 22) (0 : Int32).toNatClampNeg (vp_nar .boolean 1)) := ⟨_, rfl⟩
      have hP : va_P (dC, dI) vwCl (wC cI cZ h F_18 V) H := by rw [eF_18]; exact hP
      have hD : va_D A (wC cI cZ h F_18 V) := by rw [eF_18]; exact hD
      have hE_19 : F_18 21 0 = 0 := by rw [eF_18]; exact hw_14
      have hE_20 : F_18 22 0 = 1 := by rw [eF_18]; rfl
      refine lv_iinc (v := 1) (lv' := [(4, .int 1), (3, .int 1), (2, .int 0), (0, .ref (h 2)), (1, .int p0)]) hx hb dX0_bestHeat_58 hl (k := 0) rfl (by decide) (by decide) rfl (fun ls hl => ?_)
      refine lv_goto (tgt := 35) hx hb dX0_bestHeat_61 (by decide) ?_
      refine lv_iload hx hb dX0_bestHeat_35 (lv_at hl 0 rfl) ?_
      refine lv_iload_n hx hb dX0_bestHeat_37 rfl (lv_at hl 1 rfl) ?_
      refine lv_icmp_ge (tgt := 64) hx hb dX0_bestHeat_38 (by decide) (fun c_21 => ?_) (fun c_21 => ?_)
      · refine lv_iconst (v := 0) hx hb dX0_bestHeat_64 (by decide) ?_
        refine lv_istore (lv' := [(4, .int 0), (3, .int 1), (2, .int 0), (0, .ref (h 2)), (1, .int p0)]) hx hb dX0_bestHeat_65 hl (by decide) rfl (fun ls hl => ?_)
        refine lv_iload hx hb dX0_bestHeat_67 (lv_at hl 0 rfl) ?_
        refine lv_iconst (v := 4) hx hb dX0_bestHeat_69 (by decide) ?_
        refine lv_icmp_ge (tgt := 91) hx hb dX0_bestHeat_70 (by decide) (fun c_22 => ?_) (fun c_22 => ?_)
        · exact absurd c_22 (by decide)
        · refine lv_aload_n hx hb dX0_bestHeat_73 rfl (lv_at hl 3 rfl) ?_
          refine lv_iload_n hx hb dX0_bestHeat_74 rfl (lv_at hl 1 rfl) ?_
          refine lv_aload_n hx hb dX0_bestHeat_75 rfl (lv_at hl 3 rfl) ?_
          refine va_get (D := (dC, dI)) (ci := 0) (v := .ref (h 14)) (C := RX0) (T := TX0) (N := 11) hx hb hts hin_X0 hown hK hP 2 rfl rfl 1 (by decide) hw7 (fun _ h9 => h9) rfl dX0_bestHeat_76 ?_
          refine lv_iload hx hb dX0_bestHeat_79 (lv_at hl 0 rfl) ?_
          refine va_iald hx hb hK hP 14 0 rfl rfl (vp_in_nI (n := 0) (N := 4) (by decide) (by decide)) dX0_bestHeat_81 ?_
          refine lv_topi (fun x_23 ex_23 => ?_)
          refine cw_Vv (As := [.int 1, .int x_23]) (rest := []) (c_X0_widen l dC dI cI cZ cJ h F_18 V x_23) fx (cwV 2 hts gX0_bestHeat_X0_widen rfl rfl rfl (by decide +kernel) ⟨Nat.le_of_ble_eq_true rfl, Nat.le_of_ble_eq_true rfl⟩) hK hP hD hS hA 2 rfl rfl rfl rfl hl.1 rfl (Nat.le_of_ble_eq_true rfl) dX0_bestHeat_82 ⟨Nat.le_of_ble_eq_true rfl, Nat.le_of_ble_eq_true rfl⟩ (fun u_25 H locs hw_26 hP hD hS => ?_)
          have hP : va_P (dC, dI) vwCl (wC cI cZ h F_18 V) H := hP
          have hD : va_D A (wC cI cZ h F_18 V) := hD
          refine lv_iinc (v := 1) (lv' := [(4, .int 1), (3, .int 1), (2, .int 0), (0, .ref (h 2)), (1, .int p0)]) hx hb dX0_bestHeat_85 hl (k := 0) rfl (by decide) (by decide) rfl (fun ls hl => ?_)
          refine lv_goto (tgt := 67) hx hb dX0_bestHeat_88 (by decide) ?_
          refine lv_iload hx hb dX0_bestHeat_67 (lv_at hl 0 rfl) ?_
          refine lv_iconst (v := 4) hx hb dX0_bestHeat_69 (by decide) ?_
          refine lv_icmp_ge (tgt := 91) hx hb dX0_bestHeat_70 (by decide) (fun c_27 => ?_) (fun c_27 => ?_)
          · exact absurd c_27 (by decide)
          · refine lv_aload_n hx hb dX0_bestHeat_73 rfl (lv_at hl 3 rfl) ?_
            refine lv_iload_n hx hb dX0_bestHeat_74 rfl (lv_at hl 1 rfl) ?_
            refine lv_aload_n hx hb dX0_bestHeat_75 rfl (lv_at hl 3 rfl) ?_
            refine va_get (D := (dC, dI)) (ci := 0) (v := .ref (h 14)) (C := RX0) (T := TX0) (N := 11) hx hb hts hin_X0 hown hK hP 2 rfl rfl 1 (by decide) hw7 (fun _ h9 => h9) rfl dX0_bestHeat_76 ?_
            refine lv_iload hx hb dX0_bestHeat_79 (lv_at hl 0 rfl) ?_
            refine va_iald hx hb hK hP 14 0 rfl rfl (vp_in_nI (n := 1) (N := 4) (by decide) (by decide)) dX0_bestHeat_81 ?_
            refine lv_topi (fun x_28 ex_28 => ?_)
            refine cw_Vv (As := [.int 1, .int x_28]) (rest := []) (c_X0_widen l dC dI cI cZ cJ h F_18 V x_28) fx (cwV 2 hts gX0_bestHeat_X0_widen rfl rfl rfl (by decide +kernel) ⟨Nat.le_of_ble_eq_true rfl, Nat.le_of_ble_eq_true rfl⟩) hK hP hD hS hA 2 rfl rfl rfl rfl hl.1 rfl (Nat.le_of_ble_eq_true rfl) dX0_bestHeat_82 ⟨Nat.le_of_ble_eq_true rfl, Nat.le_of_ble_eq_true rfl⟩ (fun u_30 H locs hw_31 hP hD hS => ?_)
            have hP : va_P (dC, dI) vwCl (wC cI cZ h F_18 V) H := hP
            have hD : va_D A (wC cI cZ h F_18 V) := hD
            refine lv_iinc (v := 2) (lv' := [(4, .int 2), (3, .int 1), (2, .int 0), (0, .ref (h 2)), (1, .int p0)]) hx hb dX0_bestHeat_85 hl (k := 0) rfl (by decide) (by decide) rfl (fun ls hl => ?_)
            refine lv_goto (tgt := 67) hx hb dX0_bestHeat_88 (by decide) ?_
            refine lv_iload hx hb dX0_bestHeat_67 (lv_at hl 0 rfl) ?_
            refine lv_iconst (v := 4) hx hb dX0_bestHeat_69 (by decide) ?_
            refine lv_icmp_ge (tgt := 91) hx hb dX0_bestHeat_70 (by decide) (fun c_32 => ?_) (fun c_32 => ?_)
            · exact absurd c_32 (by decide)
            · refine lv_aload_n hx hb dX0_bestHeat_73 rfl (lv_at hl 3 rfl) ?_
              refine lv_iload_n hx hb dX0_bestHeat_74 rfl (lv_at hl 1 rfl) ?_
              refine lv_aload_n hx hb dX0_bestHeat_75 rfl (lv_at hl 3 rfl) ?_
              refine va_get (D := (dC, dI)) (ci := 0) (v := .ref (h 14)) (C := RX0) (T := TX0) (N := 11) hx hb hts hin_X0 hown hK hP 2 rfl rfl 1 (by decide) hw7 (fun _ h9 => h9) rfl dX0_bestHeat_76 ?_
              refine lv_iload hx hb dX0_bestHeat_79 (lv_at hl 0 rfl) ?_
              refine va_iald hx hb hK hP 14 0 rfl rfl (vp_in_nI (n := 2) (N := 4) (by decide) (by decide)) dX0_bestHeat_81 ?_
              refine lv_topi (fun x_33 ex_33 => ?_)
              refine cw_Vv (As := [.int 1, .int x_33]) (rest := []) (c_X0_widen l dC dI cI cZ cJ h F_18 V x_33) fx (cwV 2 hts gX0_bestHeat_X0_widen rfl rfl rfl (by decide +kernel) ⟨Nat.le_of_ble_eq_true rfl, Nat.le_of_ble_eq_true rfl⟩) hK hP hD hS hA 2 rfl rfl rfl rfl hl.1 rfl (Nat.le_of_ble_eq_true rfl) dX0_bestHeat_82 ⟨Nat.le_of_ble_eq_true rfl, Nat.le_of_ble_eq_true rfl⟩ (fun u_35 H locs hw_36 hP hD hS => ?_)
              have hP : va_P (dC, dI) vwCl (wC cI cZ h F_18 V) H := hP
              have hD : va_D A (wC cI cZ h F_18 V) := hD
              refine lv_iinc (v := 3) (lv' := [(4, .int 3), (3, .int 1), (2, .int 0), (0, .ref (h 2)), (1, .int p0)]) hx hb dX0_bestHeat_85 hl (k := 0) rfl (by decide) (by decide) rfl (fun ls hl => ?_)
              refine lv_goto (tgt := 67) hx hb dX0_bestHeat_88 (by decide) ?_
              refine lv_iload hx hb dX0_bestHeat_67 (lv_at hl 0 rfl) ?_
              refine lv_iconst (v := 4) hx hb dX0_bestHeat_69 (by decide) ?_
              refine lv_icmp_ge (tgt := 91) hx hb dX0_bestHeat_70 (by decide) (fun c_37 => ?_) (fun c_37 => ?_)
              · exact absurd c_37 (by decide)
              · refine lv_aload_n hx hb dX0_bestHeat_73 rfl (lv_at hl 3 rfl) ?_
                refine lv_iload_n hx hb dX0_bestHeat_74 rfl (lv_at hl 1 rfl) ?_
                refine lv_aload_n hx hb dX0_bestHeat_75 rfl (lv_at hl 3 rfl) ?_
                refine va_get (D := (dC, dI)) (ci := 0) (v := .ref (h 14)) (C := RX0) (T := TX0) (N := 11) hx hb hts hin_X0 hown hK hP 2 rfl rfl 1 (by decide) hw7 (fun _ h9 => h9) rfl dX0_bestHeat_76 ?_
                refine lv_iload hx hb dX0_bestHeat_79 (lv_at hl 0 rfl) ?_
                refine va_iald hx hb hK hP 14 0 rfl rfl (vp_in_nI (n := 3) (N := 4) (by decide) (by decide)) dX0_bestHeat_81 ?_
                refine lv_topi (fun x_38 ex_38 => ?_)
                refine cw_Vv (As := [.int 1, .int x_38]) (rest := []) (c_X0_widen l dC dI cI cZ cJ h F_18 V x_38) fx (cwV 2 hts gX0_bestHeat_X0_widen rfl rfl rfl (by decide +kernel) ⟨Nat.le_of_ble_eq_true rfl, Nat.le_of_ble_eq_true rfl⟩) hK hP hD hS hA 2 rfl rfl rfl rfl hl.1 rfl (Nat.le_of_ble_eq_true rfl) dX0_bestHeat_82 ⟨Nat.le_of_ble_eq_true rfl, Nat.le_of_ble_eq_true rfl⟩ (fun u_40 H locs hw_41 hP hD hS => ?_)
                have hP : va_P (dC, dI) vwCl (wC cI cZ h F_18 V) H := hP
                have hD : va_D A (wC cI cZ h F_18 V) := hD
                refine lv_iinc (v := 4) (lv' := [(4, .int 4), (3, .int 1), (2, .int 0), (0, .ref (h 2)), (1, .int p0)]) hx hb dX0_bestHeat_85 hl (k := 0) rfl (by decide) (by decide) rfl (fun ls hl => ?_)
                refine lv_goto (tgt := 67) hx hb dX0_bestHeat_88 (by decide) ?_
                refine lv_iload hx hb dX0_bestHeat_67 (lv_at hl 0 rfl) ?_
                refine lv_iconst (v := 4) hx hb dX0_bestHeat_69 (by decide) ?_
                refine lv_icmp_ge (tgt := 91) hx hb dX0_bestHeat_70 (by decide) (fun c_42 => ?_) (fun c_42 => ?_)
                · refine lv_iconst (v := 0) hx hb dX0_bestHeat_91 (by decide) ?_
                  refine lv_istore (lv' := [(4, .int 0), (3, .int 1), (2, .int 0), (0, .ref (h 2)), (1, .int p0)]) hx hb dX0_bestHeat_92 hl (by decide) rfl (fun ls hl => ?_)
                  refine lv_iconst (v := 0) hx hb dX0_bestHeat_94 (by decide) ?_
                  refine lv_istore (lv' := [(5, .int 0), (4, .int 0), (3, .int 1), (2, .int 0), (0, .ref (h 2)), (1, .int p0)]) hx hb dX0_bestHeat_95 hl (by decide) rfl (fun ls hl => ?_)
                  refine lv_iload hx hb dX0_bestHeat_97 (lv_at hl 0 rfl) ?_
                  refine lv_iload_n hx hb dX0_bestHeat_99 rfl (lv_at hl 2 rfl) ?_
                  refine lv_icmp_ge (tgt := 133) hx hb dX0_bestHeat_100 (by decide) (fun c_43 => ?_) (fun c_43 => ?_)
                  · exact absurd c_43 (by decide)
                  · refine lv_aload_n hx hb dX0_bestHeat_103 rfl (lv_at hl 4 rfl) ?_
                    refine va_get (D := (dC, dI)) (ci := 0) (v := .ref (h 22)) (C := RX0) (T := TX0) (N := 11) hx hb hts hin_X0 hown hK hP 2 rfl rfl 10 (by decide) hw6 (fun _ h9 => h9) rfl dX0_bestHeat_104 ?_
                    refine lv_iload hx hb dX0_bestHeat_107 (lv_at hl 0 rfl) ?_
                    refine va_zald hx hb hK hP 22 1 rfl rfl (vp_in_nI (n := 0) (N := 128) (by decide) (by decide)) dX0_bestHeat_109 ?_
                    refine lv_topi (fun x_44 ex_44 => ?_)
                    obtain rfl : x_44 = 1 := ex_44.trans ((congrArg (F_18 22) (by decide : (0 : Int32).toNatClampNeg = 0)).trans hE_20)
                    refine lv_if_eq (tgt := 127) hx hb dX0_bestHeat_110 (by decide) (fun c_45 => ?_) (fun c_45 => ?_)
                    · exact absurd c_45 (by decide)
                    · refine lv_iload hx hb dX0_bestHeat_113 (lv_at hl 1 rfl) ?_
                      refine lv_aload_n hx hb dX0_bestHeat_115 rfl (lv_at hl 4 rfl) ?_
                      refine va_get (D := (dC, dI)) (ci := 0) (v := .ref (h 21)) (C := RX0) (T := TX0) (N := 11) hx hb hts hin_X0 hown hK hP 2 rfl rfl 9 (by decide) hw8 (fun _ h9 => h9) rfl dX0_bestHeat_116 ?_
                      refine lv_iload hx hb dX0_bestHeat_119 (lv_at hl 0 rfl) ?_
                      refine va_iald hx hb hK hP 21 0 rfl rfl (vp_in_nI (n := 0) (N := 128) (by decide) (by decide)) dX0_bestHeat_121 ?_
                      refine lv_topi (fun x_46 ex_46 => ?_)
                      obtain rfl : x_46 = 0 := ex_46.trans ((congrArg (F_18 21) (by decide : (0 : Int32).toNatClampNeg = 0)).trans hE_19)
                      refine va_mmax hx hb (hml.trans hl.1.symm) hown hw9 hw10 hw4 hw11 (Nat.le_of_ble_eq_true rfl) (Nat.le_of_ble_eq_true rfl) (Nat.le_of_ble_eq_true rfl) (Nat.le_of_ble_eq_true rfl) dX0_bestHeat_122 ?_
                      refine lv_topi (fun x_47 ex_47 => ?_)
                      obtain rfl : x_47 = 0 := ex_47.trans (by decide)
                      refine lv_istore (lv' := [(4, .int 0), (5, .int 0), (3, .int 1), (2, .int 0), (0, .ref (h 2)), (1, .int p0)]) hx hb dX0_bestHeat_125 hl (by decide) rfl (fun ls hl => ?_)
                      refine lv_iinc (v := 1) (lv' := [(5, .int 1), (4, .int 0), (3, .int 1), (2, .int 0), (0, .ref (h 2)), (1, .int p0)]) hx hb dX0_bestHeat_127 hl (k := 1) rfl (by decide) (by decide) rfl (fun ls hl => ?_)
                      refine lv_goto (tgt := 97) hx hb dX0_bestHeat_130 (by decide) ?_
                      refine lv_iload hx hb dX0_bestHeat_97 (lv_at hl 0 rfl) ?_
                      refine lv_iload_n hx hb dX0_bestHeat_99 rfl (lv_at hl 2 rfl) ?_
                      refine lv_icmp_ge (tgt := 133) hx hb dX0_bestHeat_100 (by decide) (fun c_48 => ?_) (fun c_48 => ?_)
                      · refine lv_iload hx hb dX0_bestHeat_133 (lv_at hl 1 rfl) ?_
                        exact hret 0 F_18 H locs 135 ls rfl dX0_bestHeat_135 (rfl) (hP) (hD) hS
                      · exact absurd c_48 (by decide)
                · exact absurd c_42 (by decide)
      · exact absurd c_21 (by decide)
