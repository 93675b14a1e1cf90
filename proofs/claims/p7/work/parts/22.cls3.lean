def rm_X1_setSun : Room := { frames := 0, cells := 0, slots := 0, locals := 0 }
set_option maxHeartbeats 4000000 in
set_option maxRecDepth 100000 in
theorem c_X1_setSun (l : Launch) (dC : Nat → ClassId) (dI : Nat → Nat → Nat) (cI cZ cJ : ClassId) (h : Nat → Nat) (F : Nat → Nat → Int32) (V : Nat → Int32)  (k0 : Nat) (p1 p2 p3 : Int32) (hk0 : k0 < 24)   : CtV l (dC, dI) vwCl (tys3 cI cZ cJ) yX1_setSun wsX1_setSun rm_X1_setSun [.ref (h 1), .int (nI k0), .int p1, .int p2, .int p3] (wC cI cZ h F V) (S := Unit) (fun _ => True) (fun _ => wC cI cZ h (va_up (va_up (va_up F 10 (upd (F 10) k0 p1)) 11 (upd (F 11) k0 p2)) 12 (upd (F 12) k0 p3)) V) 0 0 := by
  refine ct_V (cc := cX1_setSun) (maxL := 5) (own := RX1) (by decide) rfl rfl (Nat.le_of_ble_eq_true rfl) (lv := [(0, .ref (h 1)), (1, .int (nI k0)), (2, .int p1), (3, .int p2), (4, .int p3)]) rfl ?_
  intro p e s m args below meth c A Q ls hnm fx hK hP hD hA hl hret
  obtain ⟨hx, hb, hml, hown, hts⟩ := id fx
  have hS : va_S A s.heap s.heap [] := va_S.rf
  have hw0 := hts (.fieldLink RX1 27 "MirrorTower$Field" "stepsX" "[I") (by decide +kernel)
  have hin_X1 : ∀ w ∈ u_ws RX1 TX1 11, w ∈ wsX1_setSun := by decide +kernel
  have hw2 := hts (.fieldLink RX1 30 "MirrorTower$Field" "stepsY" "[I") (by decide +kernel)
  have hw3 := hts (.fieldLink RX1 33 "MirrorTower$Field" "heights" "[I") (by decide +kernel)
  obtain ⟨H, hH⟩ : ∃ H, H = s.heap := ⟨_, rfl⟩
  rw [← hH] at hP ⊢
  have hS : va_S A s.heap H [] := by rw [hH]; exact hS
  generalize ([] : List Loc) = locs at hS ⊢
  refine lv_aload_n hx hb dX1_setSun_0 rfl (lv_at hl 0 rfl) ?_
  refine va_get (D := (dC, dI)) (ci := 1) (v := .ref (h 10)) (C := RX1) (T := TX1) (N := 11) hx hb hts hin_X1 hown hK hP 1 rfl rfl 6 (by decide) hw0 (fun _ h9 => h9) rfl dX1_setSun_1 ?_
  refine lv_iload_n hx hb dX1_setSun_4 rfl (lv_at hl 1 rfl) ?_
  refine lv_iload_n hx hb dX1_setSun_5 rfl (lv_at hl 2 rfl) ?_
  refine va_iast hx hb hK hP hD hS 10 0 rfl rfl (vp_in_nI (n := k0) (N := 24) (by omega) (by decide)) dX1_setSun_6 (fun H locs hP hD hS => ?_)
  obtain ⟨F_1, eF_1⟩ : ∃ z : Nat → Nat → Int32, z = va_up F 10 (upd (F 10) (nI k0).toNatClampNeg p1) := ⟨_, rfl⟩
  have hP : va_P (dC, dI) vwCl (wC cI cZ h F_1 V) H := by rw [eF_1]; exact hP
  have hD : va_D A (wC cI cZ h F_1 V) := by rw [eF_1]; exact hD
  refine lv_aload_n hx hb dX1_setSun_7 rfl (lv_at hl 0 rfl) ?_
  refine va_get (D := (dC, dI)) (ci := 1) (v := .ref (h 11)) (C := RX1) (T := TX1) (N := 11) hx hb hts hin_X1 hown hK hP 1 rfl rfl 7 (by decide) hw2 (fun _ h9 => h9) rfl dX1_setSun_8 ?_
  refine lv_iload_n hx hb dX1_setSun_11 rfl (lv_at hl 1 rfl) ?_
  refine lv_iload_n hx hb dX1_setSun_12 rfl (lv_at hl 3 rfl) ?_
  refine va_iast hx hb hK hP hD hS 11 0 rfl rfl (vp_in_nI (n := k0) (N := 24) (by omega) (by decide)) dX1_setSun_13 (fun H locs hP hD hS => ?_)
  obtain ⟨F_2, eF_2⟩ : ∃ z : Nat → Nat → Int32, z = va_up F_1 11 (upd (F_1 11) (nI k0).toNatClampNeg p2) := ⟨_, rfl⟩
  have hP : va_P (dC, dI) vwCl (wC cI cZ h F_2 V) H := by rw [eF_2]; exact hP
  have hD : va_D A (wC cI cZ h F_2 V) := by rw [eF_2]; exact hD
  refine lv_aload_n hx hb dX1_setSun_14 rfl (lv_at hl 0 rfl) ?_
  refine va_get (D := (dC, dI)) (ci := 1) (v := .ref (h 12)) (C := RX1) (T := TX1) (N := 11) hx hb hts hin_X1 hown hK hP 1 rfl rfl 8 (by decide) hw3 (fun _ h9 => h9) rfl dX1_setSun_15 ?_
  refine lv_iload_n hx hb dX1_setSun_18 rfl (lv_at hl 1 rfl) ?_
  refine lv_iload hx hb dX1_setSun_19 (lv_at hl 4 rfl) ?_
  refine va_iast hx hb hK hP hD hS 12 0 rfl rfl (vp_in_nI (n := k0) (N := 24) (by omega) (by decide)) dX1_setSun_21 (fun H locs hP hD hS => ?_)
  obtain ⟨F_3, eF_3⟩ : ∃ z : Nat → Nat → Int32, z = va_up F_2 12 (upd (F_2 12) (nI k0).toNatClampNeg p3) := ⟨_, rfl⟩
  have hP : va_P (dC, dI) vwCl (wC cI cZ h F_3 V) H := by rw [eF_3]; exact hP
  have hD : va_D A (wC cI cZ h F_3 V) := by rw [eF_3]; exact hD
  rw [eF_3, eF_2, eF_1, nI_clamp (by omega)] at hP hD
  exact hret () H locs 22 ls dX1_setSun_22 (trivial) (hP) (hD) hS
def rm_X1_setWind : Room := { frames := 0, cells := 0, slots := 0, locals := 0 }
set_option maxHeartbeats 4000000 in
set_option maxRecDepth 100000 in
theorem c_X1_setWind (l : Launch) (dC : Nat → ClassId) (dI : Nat → Nat → Nat) (cI cZ cJ : ClassId) (h : Nat → Nat) (F : Nat → Nat → Int32) (V : Nat → Int32)  (k0 : Nat) (p1 : Int32) (hk0 : k0 < 24)   : CtV l (dC, dI) vwCl (tys3 cI cZ cJ) yX1_setWind wsX1_setWind rm_X1_setWind [.ref (h 1), .int (nI k0), .int p1] (wC cI cZ h F V) (S := Unit) (fun _ => True) (fun _ => wC cI cZ h (va_up F 13 (upd (F 13) k0 p1)) V) 0 0 := by
  refine ct_V (cc := cX1_setWind) (maxL := 3) (own := RX1) (by decide) rfl rfl (Nat.le_of_ble_eq_true rfl) (lv := [(0, .ref (h 1)), (1, .int (nI k0)), (2, .int p1)]) rfl ?_
  intro p e s m args below meth c A Q ls hnm fx hK hP hD hA hl hret
  obtain ⟨hx, hb, hml, hown, hts⟩ := id fx
  have hS : va_S A s.heap s.heap [] := va_S.rf
  have hw0 := hts (.fieldLink RX1 36 "MirrorTower$Field" "winds" "[I") (by decide +kernel)
  have hin_X1 : ∀ w ∈ u_ws RX1 TX1 11, w ∈ wsX1_setWind := by decide +kernel
  obtain ⟨H, hH⟩ : ∃ H, H = s.heap := ⟨_, rfl⟩
  rw [← hH] at hP ⊢
  have hS : va_S A s.heap H [] := by rw [hH]; exact hS
  generalize ([] : List Loc) = locs at hS ⊢
  refine lv_aload_n hx hb dX1_setWind_0 rfl (lv_at hl 0 rfl) ?_
  refine va_get (D := (dC, dI)) (ci := 1) (v := .ref (h 13)) (C := RX1) (T := TX1) (N := 11) hx hb hts hin_X1 hown hK hP 1 rfl rfl 9 (by decide) hw0 (fun _ h9 => h9) rfl dX1_setWind_1 ?_
  refine lv_iload_n hx hb dX1_setWind_4 rfl (lv_at hl 1 rfl) ?_
  refine lv_iload_n hx hb dX1_setWind_5 rfl (lv_at hl 2 rfl) ?_
  refine va_iast hx hb hK hP hD hS 13 0 rfl rfl (vp_in_nI (n := k0) (N := 24) (by omega) (by decide)) dX1_setWind_6 (fun H locs hP hD hS => ?_)
  obtain ⟨F_1, eF_1⟩ : ∃ z : Nat → Nat → Int32, z = va_up F 13 (upd (F 13) (nI k0).toNatClampNeg p1) := ⟨_, rfl⟩
  have hP : va_P (dC, dI) vwCl (wC cI cZ h F_1 V) H := by rw [eF_1]; exact hP
  have hD : va_D A (wC cI cZ h F_1 V) := by rw [eF_1]; exact hD
  rw [eF_1, nI_clamp (by omega)] at hP hD
  exact hret () H locs 7 ls dX1_setWind_7 (trivial) (hP) (hD) hS
def rm_X1_setDust : Room := { frames := 0, cells := 0, slots := 0, locals := 0 }
set_option maxHeartbeats 4000000 in
set_option maxRecDepth 100000 in
theorem c_X1_setDust (l : Launch) (dC : Nat → ClassId) (dI : Nat → Nat → Nat) (cI cZ cJ : ClassId) (h : Nat → Nat) (F : Nat → Nat → Int32) (V : Nat → Int32)  (p0 : Int32)   : CtV l (dC, dI) vwCl (tys3 cI cZ cJ) yX1_setDust wsX1_setDust rm_X1_setDust [.ref (h 1), .int p0] (wC cI cZ h F V) (S := Unit) (fun _ => True) (fun _ => wC cI cZ h F (va_up V 2 p0)) 0 0 := by
  refine ct_V (cc := cX1_setDust) (maxL := 2) (own := RX1) (by decide) rfl rfl (Nat.le_of_ble_eq_true rfl) (lv := [(0, .ref (h 1)), (1, .int p0)]) rfl ?_
  intro p e s m args below meth c A Q ls hnm fx hK hP hD hA hl hret
  obtain ⟨hx, hb, hml, hown, hts⟩ := id fx
  have hS : va_S A s.heap s.heap [] := va_S.rf
  have hw0 := hts (.fieldLink RX1 39 "MirrorTower$Field" "dustAnHour" "I") (by decide +kernel)
  have hin_X1 : ∀ w ∈ u_ws RX1 TX1 11, w ∈ wsX1_setDust := by decide +kernel
  obtain ⟨H, hH⟩ : ∃ H, H = s.heap := ⟨_, rfl⟩
  rw [← hH] at hP ⊢
  have hS : va_S A s.heap H [] := by rw [hH]; exact hS
  generalize ([] : List Loc) = locs at hS ⊢
  refine lv_aload_n hx hb dX1_setDust_0 rfl (lv_at hl 0 rfl) ?_
  refine lv_iload_n hx hb dX1_setDust_1 rfl (lv_at hl 1 rfl) ?_
  refine va_put (D := (dC, dI)) (ci := 1) (v := .int p0) (ty := .int) (C := RX1) (T := TX1) (N := 11) hx hb hts hin_X1 tyX1 tyX1_ok nmX1 hown hK hP hD hS 1 rfl rfl 10 (by decide) hw0 (fun _ h9 => h9) rfl (by decide +kernel) rfl rfl (Nat.le_of_ble_eq_true rfl) dX1_setDust_2 (fun H locs hP hD hS => ?_)
  have hP : va_P (dC, dI) vwCl (wC cI cZ h F (va_up V 2 p0)) H := hP
  have hD : va_D A (wC cI cZ h F (va_up V 2 p0)) := hD
  exact hret () H locs 5 ls dX1_setDust_5 (trivial) (hP) (hD) hS
def rm_X0_setLimit : Room := { frames := 0, cells := 0, slots := 0, locals := 0 }
set_option maxHeartbeats 4000000 in
set_option maxRecDepth 100000 in
theorem c_X0_setLimit (l : Launch) (dC : Nat → ClassId) (dI : Nat → Nat → Nat) (cI cZ cJ : ClassId) (h : Nat → Nat) (F : Nat → Nat → Int32) (V : Nat → Int32)  (k0 : Nat) (p1 : Int32) (hk0 : k0 < 4)   : CtV l (dC, dI) vwCl (tys3 cI cZ cJ) yX0_setLimit wsX0_setLimit rm_X0_setLimit [.ref (h 2), .int (nI k0), .int p1] (wC cI cZ h F V) (S := Unit) (fun _ => True) (fun _ => wC cI cZ h (va_up F 14 (upd (F 14) k0 p1)) V) 0 0 := by
  refine ct_V (cc := cX0_setLimit) (maxL := 3) (own := RX0) (by decide) rfl rfl (Nat.le_of_ble_eq_true rfl) (lv := [(0, .ref (h 2)), (1, .int (nI k0)), (2, .int p1)]) rfl ?_
  intro p e s m args below meth c A Q ls hnm fx hK hP hD hA hl hret
  obtain ⟨hx, hb, hml, hown, hts⟩ := id fx
  have hS : va_S A s.heap s.heap [] := va_S.rf
  have hw0 := hts (.fieldLink RX0 15 "MirrorTower$Face" "limits" "[I") (by decide +kernel)
  have hin_X0 : ∀ w ∈ u_ws RX0 TX0 11, w ∈ wsX0_setLimit := by decide +kernel
  obtain ⟨H, hH⟩ : ∃ H, H = s.heap := ⟨_, rfl⟩
  rw [← hH] at hP ⊢
  have hS : va_S A s.heap H [] := by rw [hH]; exact hS
  generalize ([] : List Loc) = locs at hS ⊢
  refine lv_aload_n hx hb dX0_setLimit_0 rfl (lv_at hl 0 rfl) ?_
  refine va_get (D := (dC, dI)) (ci := 0) (v := .ref (h 14)) (C := RX0) (T := TX0) (N := 11) hx hb hts hin_X0 hown hK hP 2 rfl rfl 1 (by decide) hw0 (fun _ h9 => h9) rfl dX0_setLimit_1 ?_
  refine lv_iload_n hx hb dX0_setLimit_4 rfl (lv_at hl 1 rfl) ?_
  refine lv_iload_n hx hb dX0_setLimit_5 rfl (lv_at hl 2 rfl) ?_
  refine va_iast hx hb hK hP hD hS 14 0 rfl rfl (vp_in_nI (n := k0) (N := 4) (by omega) (by decide)) dX0_setLimit_6 (fun H locs hP hD hS => ?_)
  obtain ⟨F_1, eF_1⟩ : ∃ z : Nat → Nat → Int32, z = va_up F 14 (upd (F 14) (nI k0).toNatClampNeg p1) := ⟨_, rfl⟩
  have hP : va_P (dC, dI) vwCl (wC cI cZ h F_1 V) H := by rw [eF_1]; exact hP
  have hD : va_D A (wC cI cZ h F_1 V) := by rw [eF_1]; exact hD
  rw [eF_1, nI_clamp (by omega)] at hP hD
  exact hret () H locs 7 ls dX0_setLimit_7 (trivial) (hP) (hD) hS
def rm_X3_setPrice : Room := { frames := 0, cells := 0, slots := 0, locals := 0 }
set_option maxHeartbeats 4000000 in
set_option maxRecDepth 100000 in
theorem c_X3_setPrice (l : Launch) (dC : Nat → ClassId) (dI : Nat → Nat → Nat) (cI cZ cJ : ClassId) (h : Nat → Nat) (F : Nat → Nat → Int32) (V : Nat → Int32)  (k0 : Nat) (p1 : Int32) (hk0 : k0 < 24)   : CtV l (dC, dI) vwCl (tys3 cI cZ cJ) yX3_setPrice wsX3_setPrice rm_X3_setPrice [.ref (h 3), .int (nI k0), .int p1] (wC cI cZ h F V) (S := Unit) (fun _ => True) (fun _ => wC cI cZ h (va_up F 23 (upd (F 23) k0 p1)) V) 0 0 := by
  refine ct_V (cc := cX3_setPrice) (maxL := 3) (own := RX3) (by decide) rfl rfl (Nat.le_of_ble_eq_true rfl) (lv := [(0, .ref (h 3)), (1, .int (nI k0)), (2, .int p1)]) rfl ?_
  intro p e s m args below meth c A Q ls hnm fx hK hP hD hA hl hret
  obtain ⟨hx, hb, hml, hown, hts⟩ := id fx
  have hS : va_S A s.heap s.heap [] := va_S.rf
  have hw0 := hts (.fieldLink RX3 19 "MirrorTower$Store" "prices" "[I") (by decide +kernel)
  have hin_X3 : ∀ w ∈ u_ws RX3 TX3 14, w ∈ wsX3_setPrice := by decide +kernel
  obtain ⟨H, hH⟩ : ∃ H, H = s.heap := ⟨_, rfl⟩
  rw [← hH] at hP ⊢
  have hS : va_S A s.heap H [] := by rw [hH]; exact hS
  generalize ([] : List Loc) = locs at hS ⊢
  refine lv_aload_n hx hb dX3_setPrice_0 rfl (lv_at hl 0 rfl) ?_
  refine va_get (D := (dC, dI)) (ci := 3) (v := .ref (h 23)) (C := RX3) (T := TX3) (N := 14) hx hb hts hin_X3 hown hK hP 3 rfl rfl 2 (by decide) hw0 (fun _ h9 => h9) rfl dX3_setPrice_1 ?_
  refine lv_iload_n hx hb dX3_setPrice_4 rfl (lv_at hl 1 rfl) ?_
  refine lv_iload_n hx hb dX3_setPrice_5 rfl (lv_at hl 2 rfl) ?_
  refine va_iast hx hb hK hP hD hS 23 0 rfl rfl (vp_in_nI (n := k0) (N := 24) (by omega) (by decide)) dX3_setPrice_6 (fun H locs hP hD hS => ?_)
  obtain ⟨F_1, eF_1⟩ : ∃ z : Nat → Nat → Int32, z = va_up F 23 (upd (F 23) (nI k0).toNatClampNeg p1) := ⟨_, rfl⟩
  have hP : va_P (dC, dI) vwCl (wC cI cZ h F_1 V) H := by rw [eF_1]; exact hP
  have hD : va_D A (wC cI cZ h F_1 V) := by rw [eF_1]; exact hD
  rw [eF_1, nI_clamp (by omega)] at hP hD
  exact hret () H locs 7 ls dX3_setPrice_7 (trivial) (hP) (hD) hS
def rm_X1_blockersOf : Room := { frames := 0, cells := 0, slots := 0, locals := 0 }
set_option maxHeartbeats 4000000 in
set_option maxRecDepth 100000 in
theorem c_X1_blockersOf (l : Launch) (dC : Nat → ClassId) (dI : Nat → Nat → Nat) (cI cZ cJ : ClassId) (h : Nat → Nat) (F : Nat → Nat → Int32) (V : Nat → Int32)  (k0 : Nat) (hk0 : k0 < 40)   : CtI l (dC, dI) vwCl (tys3 cI cZ cJ) yX1_blockersOf wsX1_blockersOf rm_X1_blockersOf [.ref (h 1), .int (nI k0)] (wC cI cZ h F V) (S := Unit) (fun r _ => r = F 8 k0) (fun _ => wC cI cZ h F V) 0 0 := by
  refine ct_I (cc := cX1_blockersOf) (maxL := 2) (ty := .int) (own := RX1) (by decide) rfl rfl (Nat.le_of_ble_eq_true rfl) (lv := [(0, .ref (h 1)), (1, .int (nI k0))]) rfl ?_
  intro p e s m args below meth c A Q ls fx hK hP hD hA hl hret
  obtain ⟨hx, hb, hml, hown, hts⟩ := id fx
  have hS : va_S A s.heap s.heap [] := va_S.rf
  have hw0 := hts (.fieldLink RX1 21 "MirrorTower$Field" "blockers" "[I") (by decide +kernel)
  have hin_X1 : ∀ w ∈ u_ws RX1 TX1 11, w ∈ wsX1_blockersOf := by decide +kernel
  obtain ⟨H, hH⟩ : ∃ H, H = s.heap := ⟨_, rfl⟩
  rw [← hH] at hP ⊢
  have hS : va_S A s.heap H [] := by rw [hH]; exact hS
  generalize ([] : List Loc) = locs at hS ⊢
  refine lv_aload_n hx hb dX1_blockersOf_0 rfl (lv_at hl 0 rfl) ?_
  refine va_get (D := (dC, dI)) (ci := 1) (v := .ref (h 8)) (C := RX1) (T := TX1) (N := 11) hx hb hts hin_X1 hown hK hP 1 rfl rfl 3 (by decide) hw0 (fun _ h9 => h9) rfl dX1_blockersOf_1 ?_
  refine lv_iload_n hx hb dX1_blockersOf_4 rfl (lv_at hl 1 rfl) ?_
  refine va_iald hx hb hK hP 8 0 rfl rfl (vp_in_nI (n := k0) (N := 40) (by omega) (by decide)) dX1_blockersOf_5 ?_
  refine lv_topi (fun x_1 ex_1 => ?_)
  rw [nI_clamp (n := k0) (by omega)] at ex_1
  exact hret x_1 () H locs 6 ls rfl dX1_blockersOf_6 (ex_1) (hP) (hD) hS
def rm_X0_keepAims : Room := { frames := 5, cells := 0, slots := 0, locals := 109 }
set_option maxHeartbeats 4000000 in
set_option maxRecDepth 100000 in
theorem c_X0_keepAims (l : Launch) (dC : Nat → ClassId) (dI : Nat → Nat → Nat) (cI cZ cJ : ClassId) (h : Nat → Nat) (F : Nat → Nat → Int32) (V : Nat → Int32) (n : Nat) (hV1 : V 1 = nI n) (bV1 : n ≤ 40) (d : Nat) (hV2 : V 2 = nI d) (bV2 : d ≤ 20) (So : Nat → Nat) (hSo : ∀ i, i < 40 → F 9 i = nI (So i)) (bSo : ∀ i, i < 40 → So i ≤ 90) (Hh : Nat → Nat) (hHh : ∀ i, i < 24 → F 12 i = nI (Hh i)) (bHh : ∀ i, i < 24 → Hh i ≤ 9) (Wd : Nat → Nat) (hWd : ∀ i, i < 24 → F 13 i = nI (Wd i)) (bWd : ∀ i, i < 24 → Wd i ≤ 99) (Lm : Nat → Nat) (hLm : ∀ i, i < 4 → F 14 i = nI (Lm i)) (bLm : ∀ i, i < 4 → Lm i ≤ 10000) (k0 : Nat) (hk0 : k0 < 24)   : CtI l (dC, dI) vwCl (tys3 cI cZ cJ) yX0_keepAims wsX0_keepAims rm_X0_keepAims [.ref (h 2), .int (nI k0)] (wC cI cZ h F V) (S := Nat → Nat → Int32) (fun r u => (r = nI (ahF F Hh So Wd Lm d n k0 0)) ∧ (∀ j, j ∉ ([15, 16, 17, 18, 19, 20] : List Nat) → u j = F j) ∧ ((∀ i, i < 4 → u 20 i = nI (Lm i - alF F Hh So Wd Lm d n k0 0 i)) ∧ ∀ i, i < n → u 19 i = acF F Hh So Wd Lm d n k0 0 i)) (fun u => wC cI cZ h u (va_up V 3 (nI n))) 0 0 := by
  refine ct_I (cc := cX0_keepAims) (maxL := 4) (ty := .int) (own := RX0) (by decide) rfl rfl (Nat.le_of_ble_eq_true rfl) (lv := [(0, .ref (h 2)), (1, .int (nI k0))]) rfl ?_
  intro p e s m args below meth c A Q ls fx hK hP hD hA hl hret
  obtain ⟨hx, hb, hml, hown, hts⟩ := id fx
  have hS : va_S A s.heap s.heap [] := va_S.rf
  have hw0 := hts (.fieldLink RX0 11 "MirrorTower$Face" "field" "LMirrorTower$Field;") (by decide +kernel)
  have hin_X0 : ∀ w ∈ u_ws RX0 TX0 11, w ∈ wsX0_keepAims := by decide +kernel
  have hw2 := hts (.fieldLink RX0 60 "MirrorTower$Face" "keptSize" "I") (by decide +kernel)
  have hw3 := hts (.fieldLink RX0 31 "MirrorTower$Face" "cellOf" "[I") (by decide +kernel)
  have hw4 := hts (.fieldLink RX0 37 "MirrorTower$Face" "keptCells" "[I") (by decide +kernel)
  have hw5 := hts (.methodLink RX0 64 arraycopyName) (by decide +kernel)
  have hw6 := hts (.native arraycopyName) (by decide +kernel)
  have hw7 := hts (.static arraycopyName) (by decide +kernel)
  have hw8 := hts (.initialized "java/lang/System") (by decide +kernel)
  have hw9 := hts (.fieldLink RX0 40 "MirrorTower$Face" "keptPowers" "[I") (by decide +kernel)
  have hw10 := hts (.fieldLink RX0 15 "MirrorTower$Face" "limits" "[I") (by decide +kernel)
  have hw11 := hts (.fieldLink RX0 34 "MirrorTower$Face" "left" "[I") (by decide +kernel)
  obtain ⟨H, hH⟩ : ∃ H, H = s.heap := ⟨_, rfl⟩
  rw [← hH] at hP ⊢
  have hS : va_S A s.heap H [] := by rw [hH]; exact hS
  generalize ([] : List Loc) = locs at hS ⊢
  refine lv_aload_n hx hb dX0_keepAims_0 rfl (lv_at hl 0 rfl) ?_
  refine lv_iload_n hx hb dX0_keepAims_1 rfl (lv_at hl 1 rfl) ?_
  refine lv_iconst (v := 0) hx hb dX0_keepAims_2 (by decide) ?_
  refine cw_Vi (As := [.int (nI k0), .int 0]) (rest := []) (c_X0_aimAll l dC dI cI cZ cJ h F V n hV1 (by omega) d hV2 (by omega) So hSo bSo Hh hHh bHh Wd hWd bWd Lm hLm bLm k0 0 (by omega) (by omega)) fx (cwV 2 hts gX0_keepAims_X0_aimAll rfl rfl rfl (by decide +kernel) ⟨Nat.le_of_ble_eq_true rfl, Nat.le_of_ble_eq_true rfl⟩) hK hP hD hS hA 2 rfl rfl rfl rfl hl.1 rfl (Nat.le_of_ble_eq_true rfl) dX0_keepAims_3 ⟨Nat.le_of_ble_eq_true rfl, Nat.le_of_ble_eq_true rfl⟩ (fun r_1 u_2 H locs hw_3 hP hD hS => ?_)
  obtain ⟨F_4, rfl⟩ : ∃ z, z = u_2 := ⟨_, rfl⟩
  have hf_5 : ∀ j, j ∉ ([15, 16, 17, 18] : List Nat) → F_4 j = F j := hw_3.2.1
  have hP : va_P (dC, dI) vwCl (wC cI cZ h F_4 V) H := hP
  have hD : va_D A (wC cI cZ h F_4 V) := hD
  have hN_6 : ∀ i, i < 40 → F_4 9 i = nI (So i) := by rw [hf_5 9 (by decide)]; exact hSo
  have hN_7 : ∀ i, i < 24 → F_4 12 i = nI (Hh i) := by rw [hf_5 12 (by decide)]; exact hHh
  have hN_8 : ∀ i, i < 24 → F_4 13 i = nI (Wd i) := by rw [hf_5 13 (by decide)]; exact hWd
  have hN_9 : ∀ i, i < 4 → F_4 14 i = nI (Lm i) := by rw [hf_5 14 (by decide)]; exact hLm
  have hN_10 : ∀ i, i < 4 → F_4 18 i = nI ((alF F Hh So Wd Lm d n k0 0) i) := hw_3.2.2.1
  have bN_11 : ∀ i, i < 4 → (alF F Hh So Wd Lm d n k0 0) i ≤ 10000 := hw_3.2.2.2.1
  have hb_12 : ahF F Hh So Wd Lm d n k0 0 ≤ 4000 := ahF_le (by omega) (bHh k0 (by omega))
  obtain rfl : r_1 = nI (ahF F Hh So Wd Lm d n k0 0) := hw_3.1
  refine lv_istore_n (lv' := [(2, .int (nI (ahF F Hh So Wd Lm d n k0 0))), (0, .ref (h 2)), (1, .int (nI k0))]) hx hb dX0_keepAims_6 rfl hl (by decide) rfl (fun ls hl => ?_)
  refine lv_aload_n hx hb dX0_keepAims_7 rfl (lv_at hl 1 rfl) ?_
  refine lv_aload_n hx hb dX0_keepAims_8 rfl (lv_at hl 1 rfl) ?_
  refine va_get (D := (dC, dI)) (ci := 0) (v := .ref (h 1)) (C := RX0) (T := TX0) (N := 11) hx hb hts hin_X0 hown hK hP 2 rfl rfl 0 (by decide) hw0 (fun _ h9 => h9) rfl dX0_keepAims_9 ?_
  refine cw_Vi (As := []) (rest := [.ref (h 2)]) (c_X1_size l dC dI cI cZ cJ h F_4 V) fx (cwV 0 hts gX0_keepAims_X1_size rfl rfl rfl (by decide +kernel) ⟨Nat.le_of_ble_eq_true rfl, Nat.le_of_ble_eq_true rfl⟩) hK hP hD hS hA 1 rfl rfl rfl rfl hl.1 rfl (Nat.le_of_ble_eq_true rfl) dX0_keepAims_12 ⟨Nat.le_of_ble_eq_true rfl, Nat.le_of_ble_eq_true rfl⟩ (fun r_13 u_14 H locs hw_15 hP hD hS => ?_)
  have hP : va_P (dC, dI) vwCl (wC cI cZ h F_4 V) H := hP
  have hD : va_D A (wC cI cZ h F_4 V) := hD
  obtain rfl : r_13 = nI n := Eq.trans hw_15 hV1
  have al0 := alF_le F Hh So Wd Lm d n k0 0 0
  have al1 := alF_le F Hh So Wd Lm d n k0 0 1
  have al2 := alF_le F Hh So Wd Lm d n k0 0 2
  have al3 := alF_le F Hh So Wd Lm d n k0 0 3
  refine va_put (D := (dC, dI)) (ci := 0) (v := .int (nI n)) (ty := .int) (C := RX0) (T := TX0) (N := 11) hx hb hts hin_X0 tyX0 tyX0_ok nmX0 hown hK hP hD hS 2 rfl rfl 8 (by decide) hw2 (fun _ h9 => h9) rfl (by decide +kernel) rfl rfl (Nat.le_of_ble_eq_true rfl) dX0_keepAims_15 (fun H locs hP hD hS => ?_)
  have hP : va_P (dC, dI) vwCl (wC cI cZ h F_4 (va_up V 3 (nI n))) H := hP
  have hD : va_D A (wC cI cZ h F_4 (va_up V 3 (nI n))) := hD
  refine lv_aload_n hx hb dX0_keepAims_18 rfl (lv_at hl 1 rfl) ?_
  refine va_get (D := (dC, dI)) (ci := 0) (v := .ref (h 17)) (C := RX0) (T := TX0) (N := 11) hx hb hts hin_X0 hown hK hP 2 rfl rfl 4 (by decide) hw3 (fun _ h9 => h9) rfl dX0_keepAims_19 ?_
  refine lv_iconst (v := 0) hx hb dX0_keepAims_22 (by decide) ?_
  refine lv_aload_n hx hb dX0_keepAims_23 rfl (lv_at hl 1 rfl) ?_
  refine va_get (D := (dC, dI)) (ci := 0) (v := .ref (h 19)) (C := RX0) (T := TX0) (N := 11) hx hb hts hin_X0 hown hK hP 2 rfl rfl 6 (by decide) hw4 (fun _ h9 => h9) rfl dX0_keepAims_24 ?_
  refine lv_iconst (v := 0) hx hb dX0_keepAims_27 (by decide) ?_
  refine lv_aload_n hx hb dX0_keepAims_28 rfl (lv_at hl 1 rfl) ?_
  refine va_get (D := (dC, dI)) (ci := 0) (v := .int (nI n)) (C := RX0) (T := TX0) (N := 11) hx hb hts hin_X0 hown hK hP 2 rfl rfl 8 (by decide) hw2 (fun _ h9 => h9) rfl dX0_keepAims_29 ?_
  refine va_copyi hx hb (hml.trans hl.1.symm) hown hw5 hw6 hw7 hw8 hK hP hD hS 17 19 0 0 rfl rfl rfl rfl rfl (by decide) (by decide) (nI_pos (by omega)) (by rw [nI_clamp (by omega)]; show 0 + _ ≤ _; omega) (by rw [nI_clamp (by omega)]; show 0 + _ ≤ _; omega) (fun _ _ => rfl) (Nat.le_of_ble_eq_true rfl) (Nat.le_of_ble_eq_true rfl) dX0_keepAims_32 (fun H locs hP hD hS => ?_)
  obtain ⟨F_16, eF_16⟩ : ∃ z : Nat → Nat → Int32, z = va_up F_4 19 (va_cpy (F_4 17) (F_4 19) (0 : Int32).toNatClampNeg (0 : Int32).toNatClampNeg (nI n).toNatClampNeg) := ⟨_, rfl⟩
  have hP : va_P (dC, dI) vwCl (wC cI cZ h F_16 (va_up V 3 (nI n))) H := by rw [eF_16]; exact hP
  have hD : va_D A (wC cI cZ h F_16 (va_up V 3 (nI n))) := by rw [eF_16]; exact hD
  have hN_17 : ∀ i, i < 40 → F_16 9 i = nI (So i) := by rw [eF_16]; exact hN_6
  have hN_18 : ∀ i, i < 24 → F_16 12 i = nI (Hh i) := by rw [eF_16]; exact hN_7
  have hN_19 : ∀ i, i < 24 → F_16 13 i = nI (Wd i) := by rw [eF_16]; exact hN_8
  have hN_20 : ∀ i, i < 4 → F_16 14 i = nI (Lm i) := by rw [eF_16]; exact hN_9
  have hN_21 : ∀ i, i < 4 → F_16 18 i = nI ((alF F Hh So Wd Lm d n k0 0) i) := by rw [eF_16]; exact hN_10
  refine lv_iconst (v := 0) hx hb dX0_keepAims_35 (by decide) ?_
  refine lv_istore_n (lv' := [(3, .int 0), (2, .int (nI (ahF F Hh So Wd Lm d n k0 0))), (0, .ref (h 2)), (1, .int (nI k0))]) hx hb dX0_keepAims_36 rfl hl (by decide) rfl (fun ls hl => ?_)
  refine lv_iload_n hx hb dX0_keepAims_37 rfl (lv_at hl 0 rfl) ?_
  refine lv_iconst (v := 4) hx hb dX0_keepAims_38 (by decide) ?_
  refine lv_icmp_ge (tgt := 67) hx hb dX0_keepAims_39 (by decide) (fun c_22 => ?_) (fun c_22 => ?_)
  · exact absurd c_22 (by decide)
  · refine lv_aload_n hx hb dX0_keepAims_42 rfl (lv_at hl 2 rfl) ?_
    refine va_get (D := (dC, dI)) (ci := 0) (v := .ref (h 20)) (C := RX0) (T := TX0) (N := 11) hx hb hts hin_X0 hown hK hP 2 rfl rfl 7 (by decide) hw9 (fun _ h9 => h9) rfl dX0_keepAims_43 ?_
    refine lv_iload_n hx hb dX0_keepAims_46 rfl (lv_at hl 0 rfl) ?_
    refine lv_aload_n hx hb dX0_keepAims_47 rfl (lv_at hl 2 rfl) ?_
    refine va_get (D := (dC, dI)) (ci := 0) (v := .ref (h 14)) (C := RX0) (T := TX0) (N := 11) hx hb hts hin_X0 hown hK hP 2 rfl rfl 1 (by decide) hw10 (fun _ h9 => h9) rfl dX0_keepAims_48 ?_
    refine lv_iload_n hx hb dX0_keepAims_51 rfl (lv_at hl 0 rfl) ?_
    refine va_iald hx hb hK hP 14 0 rfl rfl (vp_in_nI (n := 0) (N := 4) (by decide) (by decide)) dX0_keepAims_52 ?_
    have hb_23 := bLm 0 (by omega)
    refine lv_topi (fun x_24 ex_24 => ?_)
    obtain rfl : x_24 = nI (Lm 0) := ex_24.trans ((congrArg (F_16 14) (by decide : (0 : Int32).toNatClampNeg = 0)).trans (hN_20 0 (by omega)))
    refine lv_aload_n hx hb dX0_keepAims_53 rfl (lv_at hl 2 rfl) ?_
    refine va_get (D := (dC, dI)) (ci := 0) (v := .ref (h 18)) (C := RX0) (T := TX0) (N := 11) hx hb hts hin_X0 hown hK hP 2 rfl rfl 5 (by decide) hw11 (fun _ h9 => h9) rfl dX0_keepAims_54 ?_
    refine lv_iload_n hx hb dX0_keepAims_57 rfl (lv_at hl 0 rfl) ?_
    refine va_iald hx hb hK hP 18 0 rfl rfl (vp_in_nI (n := 0) (N := 4) (by decide) (by decide)) dX0_keepAims_58 ?_
    have hb_25 := bN_11 0 (by omega)
    try dsimp only at hb_25
    refine lv_topi (fun x_26 ex_26 => ?_)
    obtain rfl : x_26 = nI ((alF F Hh So Wd Lm d n k0 0) 0) := ex_26.trans ((congrArg (F_16 18) (by decide : (0 : Int32).toNatClampNeg = 0)).trans (hN_21 0 (by omega)))
    refine lv_isub hx hb dX0_keepAims_59 ?_
    refine lv_topi (fun x_27 ex_27 => ?_)
    obtain rfl : x_27 = nI ((Lm 0) - ((alF F Hh So Wd Lm d n k0 0) 0)) := ex_27.trans (pk_sub (a := Lm 0) (b := (alF F Hh So Wd Lm d n k0 0) 0) (by omega))
    refine va_iast hx hb hK hP hD hS 20 0 rfl rfl (vp_in_nI (n := 0) (N := 4) (by decide) (by decide)) dX0_keepAims_60 (fun H locs hP hD hS => ?_)
    obtain ⟨F_28, eF_28⟩ : ∃ z : Nat → Nat → Int32, z = va_up F_16 20 (upd (F_16 20) (0 : Int32).toNatClampNeg (nI ((Lm 0) - ((alF F Hh So Wd Lm d n k0 0) 0)))) := ⟨_, rfl⟩
    have hP : va_P (dC, dI) vwCl (wC cI cZ h F_28 (va_up V 3 (nI n))) H := by rw [eF_28]; exact hP
    have hD : va_D A (wC cI cZ h F_28 (va_up V 3 (nI n))) := by rw [eF_28]; exact hD
    have hN_29 : ∀ i, i < 40 → F_28 9 i = nI (So i) := by rw [eF_28]; exact hN_17
    have hN_30 : ∀ i, i < 24 → F_28 12 i = nI (Hh i) := by rw [eF_28]; exact hN_18
    have hN_31 : ∀ i, i < 24 → F_28 13 i = nI (Wd i) := by rw [eF_28]; exact hN_19
    have hN_32 : ∀ i, i < 4 → F_28 14 i = nI (Lm i) := by rw [eF_28]; exact hN_20
    have hN_33 : ∀ i, i < 4 → F_28 18 i = nI ((alF F Hh So Wd Lm d n k0 0) i) := by rw [eF_28]; exact hN_21
    refine lv_iinc (v := 1) (lv' := [(3, .int 1), (2, .int (nI (ahF F Hh So Wd Lm d n k0 0))), (0, .ref (h 2)), (1, .int (nI k0))]) hx hb dX0_keepAims_61 hl (k := 0) rfl (by decide) (by decide) rfl (fun ls hl => ?_)
    refine lv_goto (tgt := 37) hx hb dX0_keepAims_64 (by decide) ?_
    refine lv_iload_n hx hb dX0_keepAims_37 rfl (lv_at hl 0 rfl) ?_
    refine lv_iconst (v := 4) hx hb dX0_keepAims_38 (by decide) ?_
    refine lv_icmp_ge (tgt := 67) hx hb dX0_keepAims_39 (by decide) (fun c_34 => ?_) (fun c_34 => ?_)
    · exact absurd c_34 (by decide)
    · refine lv_aload_n hx hb dX0_keepAims_42 rfl (lv_at hl 2 rfl) ?_
      refine va_get (D := (dC, dI)) (ci := 0) (v := .ref (h 20)) (C := RX0) (T := TX0) (N := 11) hx hb hts hin_X0 hown hK hP 2 rfl rfl 7 (by decide) hw9 (fun _ h9 => h9) rfl dX0_keepAims_43 ?_
      refine lv_iload_n hx hb dX0_keepAims_46 rfl (lv_at hl 0 rfl) ?_
      refine lv_aload_n hx hb dX0_keepAims_47 rfl (lv_at hl 2 rfl) ?_
      refine va_get (D := (dC, dI)) (ci := 0) (v := .ref (h 14)) (C := RX0) (T := TX0) (N := 11) hx hb hts hin_X0 hown hK hP 2 rfl rfl 1 (by decide) hw10 (fun _ h9 => h9) rfl dX0_keepAims_48 ?_
      refine lv_iload_n hx hb dX0_keepAims_51 rfl (lv_at hl 0 rfl) ?_
      refine va_iald hx hb hK hP 14 0 rfl rfl (vp_in_nI (n := 1) (N := 4) (by decide) (by decide)) dX0_keepAims_52 ?_
      have hb_35 := bLm 1 (by omega)
      refine lv_topi (fun x_36 ex_36 => ?_)
      obtain rfl : x_36 = nI (Lm 1) := ex_36.trans ((congrArg (F_28 14) (by decide : (1 : Int32).toNatClampNeg = 1)).trans (hN_32 1 (by omega)))
      refine lv_aload_n hx hb dX0_keepAims_53 rfl (lv_at hl 2 rfl) ?_
      refine va_get (D := (dC, dI)) (ci := 0) (v := .ref (h 18)) (C := RX0) (T := TX0) (N := 11) hx hb hts hin_X0 hown hK hP 2 rfl rfl 5 (by decide) hw11 (fun _ h9 => h9) rfl dX0_keepAims_54 ?_
      refine lv_iload_n hx hb dX0_keepAims_57 rfl (lv_at hl 0 rfl) ?_
      refine va_iald hx hb hK hP 18 0 rfl rfl (vp_in_nI (n := 1) (N := 4) (by decide) (by decide)) dX0_keepAims_58 ?_
      have hb_37 := bN_11 1 (by omega)
      try dsimp only at hb_37
      refine lv_topi (fun x_38 ex_38 => ?_)
      obtain rfl : x_38 = nI ((alF F Hh So Wd Lm d n k0 0) 1) := ex_38.trans ((congrArg (F_28 18) (by decide : (1 : Int32).toNatClampNeg = 1)).trans (hN_33 1 (by omega)))
      refine lv_isub hx hb dX0_keepAims_59 ?_
      refine lv_topi (fun x_39 ex_39 => ?_)
      obtain rfl : x_39 = nI ((Lm 1) - ((alF F Hh So Wd Lm d n k0 0) 1)) := ex_39.trans (pk_sub (a := Lm 1) (b := (alF F Hh So Wd Lm d n k0 0) 1) (by omega))
      refine va_iast hx hb hK hP hD hS 20 0 rfl rfl (vp_in_nI (n := 1) (N := 4) (by decide) (by decide)) dX0_keepAims_60 (fun H locs hP hD hS => ?_)
      obtain ⟨F_40, eF_40⟩ : ∃ z : Nat → Nat → Int32, z = va_up F_28 20 (upd (F_28 20) (1 : Int32).toNatClampNeg (nI ((Lm 1) - ((alF F Hh So Wd Lm d n k0 0) 1)))) := ⟨_, rfl⟩
      have hP : va_P (dC, dI) vwCl (wC cI cZ h F_40 (va_up V 3 (nI n))) H := by rw [eF_40]; exact hP
      have hD : va_D A (wC cI cZ h F_40 (va_up V 3 (nI n))) := by rw [eF_40]; exact hD
      have hN_41 : ∀ i, i < 40 → F_40 9 i = nI (So i) := by rw [eF_40]; exact hN_29
      have hN_42 : ∀ i, i < 24 → F_40 12 i = nI (Hh i) := by rw [eF_40]; exact hN_30
      have hN_43 : ∀ i, i < 24 → F_40 13 i = nI (Wd i) := by rw [eF_40]; exact hN_31
      have hN_44 : ∀ i, i < 4 → F_40 14 i = nI (Lm i) := by rw [eF_40]; exact hN_32
      have hN_45 : ∀ i, i < 4 → F_40 18 i = nI ((alF F Hh So Wd Lm d n k0 0) i) := by rw [eF_40]; exact hN_33
      refine lv_iinc (v := 2) (lv' := [(3, .int 2), (2, .int (nI (ahF F Hh So Wd Lm d n k0 0))), (0, .ref (h 2)), (1, .int (nI k0))]) hx hb dX0_keepAims_61 hl (k := 0) rfl (by decide) (by decide) rfl (fun ls hl => ?_)
      refine lv_goto (tgt := 37) hx hb dX0_keepAims_64 (by decide) ?_
      refine lv_iload_n hx hb dX0_keepAims_37 rfl (lv_at hl 0 rfl) ?_
      refine lv_iconst (v := 4) hx hb dX0_keepAims_38 (by decide) ?_
      refine lv_icmp_ge (tgt := 67) hx hb dX0_keepAims_39 (by decide) (fun c_46 => ?_) (fun c_46 => ?_)
      · exact absurd c_46 (by decide)
      · refine lv_aload_n hx hb dX0_keepAims_42 rfl (lv_at hl 2 rfl) ?_
        refine va_get (D := (dC, dI)) (ci := 0) (v := .ref (h 20)) (C := RX0) (T := TX0) (N := 11) hx hb hts hin_X0 hown hK hP 2 rfl rfl 7 (by decide) hw9 (fun _ h9 => h9) rfl dX0_keepAims_43 ?_
        refine lv_iload_n hx hb dX0_keepAims_46 rfl (lv_at hl 0 rfl) ?_
        refine lv_aload_n hx hb dX0_keepAims_47 rfl (lv_at hl 2 rfl) ?_
        refine va_get (D := (dC, dI)) (ci := 0) (v := .ref (h 14)) (C := RX0) (T := TX0) (N := 11) hx hb hts hin_X0 hown hK hP 2 rfl rfl 1 (by decide) hw10 (fun _ h9 => h9) rfl dX0_keepAims_48 ?_
        refine lv_iload_n hx hb dX0_keepAims_51 rfl (lv_at hl 0 rfl) ?_
        refine va_iald hx hb hK hP 14 0 rfl rfl (vp_in_nI (n := 2) (N := 4) (by decide) (by decide)) dX0_keepAims_52 ?_
        have hb_47 := bLm 2 (by omega)
        refine lv_topi (fun x_48 ex_48 => ?_)
        obtain rfl : x_48 = nI (Lm 2) := ex_48.trans ((congrArg (F_40 14) (by decide : (2 : Int32).toNatClampNeg = 2)).trans (hN_44 2 (by omega)))
        refine lv_aload_n hx hb dX0_keepAims_53 rfl (lv_at hl 2 rfl) ?_
        refine va_get (D := (dC, dI)) (ci := 0) (v := .ref (h 18)) (C := RX0) (T := TX0) (N := 11) hx hb hts hin_X0 hown hK hP 2 rfl rfl 5 (by decide) hw11 (fun _ h9 => h9) rfl dX0_keepAims_54 ?_
        refine lv_iload_n hx hb dX0_keepAims_57 rfl (lv_at hl 0 rfl) ?_
        refine va_iald hx hb hK hP 18 0 rfl rfl (vp_in_nI (n := 2) (N := 4) (by decide) (by decide)) dX0_keepAims_58 ?_
        have hb_49 := bN_11 2 (by omega)
        try dsimp only at hb_49
        refine lv_topi (fun x_50 ex_50 => ?_)
        obtain rfl : x_50 = nI ((alF F Hh So Wd Lm d n k0 0) 2) := ex_50.trans ((congrArg (F_40 18) (by decide : (2 : Int32).toNatClampNeg = 2)).trans (hN_45 2 (by omega)))
        refine lv_isub hx hb dX0_keepAims_59 ?_
        refine lv_topi (fun x_51 ex_51 => ?_)
        obtain rfl : x_51 = nI ((Lm 2) - ((alF F Hh So Wd Lm d n k0 0) 2)) := ex_51.trans (pk_sub (a := Lm 2) (b := (alF F Hh So Wd Lm d n k0 0) 2) (by omega))
        refine va_iast hx hb hK hP hD hS 20 0 rfl rfl (vp_in_nI (n := 2) (N := 4) (by decide) (by decide)) dX0_keepAims_60 (fun H locs hP hD hS => ?_)
        obtain ⟨F_52, eF_52⟩ : ∃ z : Nat → Nat → Int32, z = va_up F_40 20 (upd (F_40 20) (2 : Int32).toNatClampNeg (nI ((Lm 2) - ((alF F Hh So Wd Lm d n k0 0) 2)))) := ⟨_, rfl⟩
        have hP : va_P (dC, dI) vwCl (wC cI cZ h F_52 (va_up V 3 (nI n))) H := by rw [eF_52]; exact hP
        have hD : va_D A (wC cI cZ h F_52 (va_up V 3 (nI n))) := by rw [eF_52]; exact hD
        have hN_53 : ∀ i, i < 40 → F_52 9 i = nI (So i) := by rw [eF_52]; exact hN_41
        have hN_54 : ∀ i, i < 24 → F_52 12 i = nI (Hh i) := by rw [eF_52]; exact hN_42
        have hN_55 : ∀ i, i < 24 → F_52 13 i = nI (Wd i) := by rw [eF_52]; exact hN_43
        have hN_56 : ∀ i, i < 4 → F_52 14 i = nI (Lm i) := by rw [eF_52]; exact hN_44
        have hN_57 : ∀ i, i < 4 → F_52 18 i = nI ((alF F Hh So Wd Lm d n k0 0) i) := by rw [eF_52]; exact hN_45
        refine lv_iinc (v := 3) (lv' := [(3, .int 3), (2, .int (nI (ahF F Hh So Wd Lm d n k0 0))), (0, .ref (h 2)), (1, .int (nI k0))]) hx hb dX0_keepAims_61 hl (k := 0) rfl (by decide) (by decide) rfl (fun ls hl => ?_)
        refine lv_goto (tgt := 37) hx hb dX0_keepAims_64 (by decide) ?_
        refine lv_iload_n hx hb dX0_keepAims_37 rfl (lv_at hl 0 rfl) ?_
        refine lv_iconst (v := 4) hx hb dX0_keepAims_38 (by decide) ?_
        refine lv_icmp_ge (tgt := 67) hx hb dX0_keepAims_39 (by decide) (fun c_58 => ?_) (fun c_58 => ?_)
        · exact absurd c_58 (by decide)
        · refine lv_aload_n hx hb dX0_keepAims_42 rfl (lv_at hl 2 rfl) ?_
          refine va_get (D := (dC, dI)) (ci := 0) (v := .ref (h 20)) (C := RX0) (T := TX0) (N := 11) hx hb hts hin_X0 hown hK hP 2 rfl rfl 7 (by decide) hw9 (fun _ h9 => h9) rfl dX0_keepAims_43 ?_
          refine lv_iload_n hx hb dX0_keepAims_46 rfl (lv_at hl 0 rfl) ?_
          refine lv_aload_n hx hb dX0_keepAims_47 rfl (lv_at hl 2 rfl) ?_
          refine va_get (D := (dC, dI)) (ci := 0) (v := .ref (h 14)) (C := RX0) (T := TX0) (N := 11) hx hb hts hin_X0 hown hK hP 2 rfl rfl 1 (by decide) hw10 (fun _ h9 => h9) rfl dX0_keepAims_48 ?_
          refine lv_iload_n hx hb dX0_keepAims_51 rfl (lv_at hl 0 rfl) ?_
          refine va_iald hx hb hK hP 14 0 rfl rfl (vp_in_nI (n := 3) (N := 4) (by decide) (by decide)) dX0_keepAims_52 ?_
          have hb_59 := bLm 3 (by omega)
          refine lv_topi (fun x_60 ex_60 => ?_)
          obtain rfl : x_60 = nI (Lm 3) := ex_60.trans ((congrArg (F_52 14) (by decide : (3 : Int32).toNatClampNeg = 3)).trans (hN_56 3 (by omega)))
          refine lv_aload_n hx hb dX0_keepAims_53 rfl (lv_at hl 2 rfl) ?_
          refine va_get (D := (dC, dI)) (ci := 0) (v := .ref (h 18)) (C := RX0) (T := TX0) (N := 11) hx hb hts hin_X0 hown hK hP 2 rfl rfl 5 (by decide) hw11 (fun _ h9 => h9) rfl dX0_keepAims_54 ?_
          refine lv_iload_n hx hb dX0_keepAims_57 rfl (lv_at hl 0 rfl) ?_
          refine va_iald hx hb hK hP 18 0 rfl rfl (vp_in_nI (n := 3) (N := 4) (by decide) (by decide)) dX0_keepAims_58 ?_
          have hb_61 := bN_11 3 (by omega)
          try dsimp only at hb_61
          refine lv_topi (fun x_62 ex_62 => ?_)
          obtain rfl : x_62 = nI ((alF F Hh So Wd Lm d n k0 0) 3) := ex_62.trans ((congrArg (F_52 18) (by decide : (3 : Int32).toNatClampNeg = 3)).trans (hN_57 3 (by omega)))
          refine lv_isub hx hb dX0_keepAims_59 ?_
          refine lv_topi (fun x_63 ex_63 => ?_)
          obtain rfl : x_63 = nI ((Lm 3) - ((alF F Hh So Wd Lm d n k0 0) 3)) := ex_63.trans (pk_sub (a := Lm 3) (b := (alF F Hh So Wd Lm d n k0 0) 3) (by omega))
          refine va_iast hx hb hK hP hD hS 20 0 rfl rfl (vp_in_nI (n := 3) (N := 4) (by decide) (by decide)) dX0_keepAims_60 (fun H locs hP hD hS => ?_)
          obtain ⟨F_64, eF_64⟩ : ∃ z : Nat → Nat → Int32, z = va_up F_52 20 (upd (F_52 20) (3 : Int32).toNatClampNeg (nI ((Lm 3) - ((alF F Hh So Wd Lm d n k0 0) 3)))) := ⟨_, rfl⟩
          have hP : va_P (dC, dI) vwCl (wC cI cZ h F_64 (va_up V 3 (nI n))) H := by rw [eF_64]; exact hP
          have hD : va_D A (wC cI cZ h F_64 (va_up V 3 (nI n))) := by rw [eF_64]; exact hD
          have hN_65 : ∀ i, i < 40 → F_64 9 i = nI (So i) := by rw [eF_64]; exact hN_53
          have hN_66 : ∀ i, i < 24 → F_64 12 i = nI (Hh i) := by rw [eF_64]; exact hN_54
          have hN_67 : ∀ i, i < 24 → F_64 13 i = nI (Wd i) := by rw [eF_64]; exact hN_55
          have hN_68 : ∀ i, i < 4 → F_64 14 i = nI (Lm i) := by rw [eF_64]; exact hN_56
          have hN_69 : ∀ i, i < 4 → F_64 18 i = nI ((alF F Hh So Wd Lm d n k0 0) i) := by rw [eF_64]; exact hN_57
          refine lv_iinc (v := 4) (lv' := [(3, .int 4), (2, .int (nI (ahF F Hh So Wd Lm d n k0 0))), (0, .ref (h 2)), (1, .int (nI k0))]) hx hb dX0_keepAims_61 hl (k := 0) rfl (by decide) (by decide) rfl (fun ls hl => ?_)
          refine lv_goto (tgt := 37) hx hb dX0_keepAims_64 (by decide) ?_
          refine lv_iload_n hx hb dX0_keepAims_37 rfl (lv_at hl 0 rfl) ?_
          refine lv_iconst (v := 4) hx hb dX0_keepAims_38 (by decide) ?_
          refine lv_icmp_ge (tgt := 67) hx hb dX0_keepAims_39 (by decide) (fun c_70 => ?_) (fun c_70 => ?_)
          · refine lv_iload_n hx hb dX0_keepAims_67 rfl (lv_at hl 1 rfl) ?_
            exact hret (nI (ahF F Hh So Wd Lm d n k0 0)) F_64 H locs 68 ls rfl dX0_keepAims_68 (by
                        refine ⟨rfl, fun j hj => ((va_ne eF_64 (fun h => hj (by rw [h]; decide))).trans ((va_ne eF_52 (fun h => hj (by rw [h]; decide))).trans ((va_ne eF_40 (fun h => hj (by rw [h]; decide))).trans ((va_ne eF_28 (fun h => hj (by rw [h]; decide))).trans ((va_ne eF_16 (fun h => hj (by rw [h]; decide))).trans (hf_5 j (fun h => hj ((by decide : ∀ x ∈ ([15, 16, 17, 18] : List Nat), x ∈ ([15, 16, 17, 18, 19, 20] : List Nat)) j h)))))))), ?_, ?_⟩
                        · intro i hi
                          rw [eF_64, eF_52, eF_40, eF_28]
                          match i, hi with
                          | 0, _ => rfl
                          | 1, _ => rfl
                          | 2, _ => rfl
                          | 3, _ => rfl
                          | i + 4, hi => exact absurd hi (by omega)
                        · intro i hi
                          have q : F_64 19 = F_16 19 := by rw [eF_64, eF_52, eF_40, eF_28]; rfl
                          rw [q, eF_16]
                          show va_cpy (F_4 17) _ _ _ _ i = _
                          rw [nI_clamp (by omega), cpy0 (by decide) (by decide) rfl hi, hw_3.2.2.2.2]) (hP) (hD) hS
          · exact absurd c_70 (by decide)
