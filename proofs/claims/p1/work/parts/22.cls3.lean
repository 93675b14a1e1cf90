def rm_X3_setPrice : Room := { frames := 0, cells := 0, slots := 0, locals := 0 }
set_option maxHeartbeats 4000000 in
set_option maxRecDepth 100000 in
theorem c_X3_setPrice (l : Launch) (dC : Nat → ClassId) (dI : Nat → Nat → Nat) (cI cZ cJ : ClassId) (h : Nat → Nat) (F : Nat → Nat → Int32) (V : Nat → Int32) (k0 : Nat) (p1 : Int32) (hk0 : k0 < 24)  : CtV l (dC, dI) vwCl (tys3 cI cZ cJ) yX3_setPrice wsX3_setPrice rm_X3_setPrice [.ref (h 3), .int (nI k0), .int p1] (wC cI cZ h F V) (S := (Nat → Nat → Int32) × (Nat → Int32)) (fun _ => True) (fun u => wC cI cZ h u.1 u.2) 0 0 := by
  refine ct_V (cc := cX3_setPrice) (maxL := 3) (own := RX3) (by decide) rfl rfl (Nat.le_of_ble_eq_true rfl) (lv := [(0, .ref (h 3)), (1, .int (nI k0)), (2, .int p1)]) rfl ?_
  intro p e s m args below meth c A Q ls hnm fx hK hP hD hA hl hret
  obtain ⟨hx, hb, hml, hown, hts⟩ := id fx
  have hS : va_S A s.heap s.heap [] := va_S.rf
  have hw0 := hts (.fieldLink RX3 19 "MirrorTower$Store" "prices" "[I") (by decide +kernel)
  have hin_X3 : ∀ w ∈ u_ws RX3 TX3 14, w ∈ wsX3_setPrice := by decide +kernel
  obtain ⟨H, hH⟩ : ∃ H, H = s.heap := ⟨_, rfl⟩
  rw [← hH] at hP ⊢
  have hS : va_S A s.heap H [] := by rw [hH]; exact hS
  generalize ([] : List Loc) = locs at hS ⊢
  refine lv_aload_n hx hb dX3_setPrice_0 rfl (lv_at hl 0 rfl) ?_
  refine va_get (D := (dC, dI)) (ci := 3) (v := .ref (h 23)) (C := RX3) (T := TX3) (N := 14) hx hb hts hin_X3 hown hK hP 3 rfl rfl 2 (by decide) hw0 (fun _ h9 => h9) rfl dX3_setPrice_1 ?_
  refine lv_iload_n hx hb dX3_setPrice_4 rfl (lv_at hl 1 rfl) ?_
  refine lv_iload_n hx hb dX3_setPrice_5 rfl (lv_at hl 2 rfl) ?_
  refine va_iast hx hb hK hP hD hS 23 0 rfl rfl (vp_in_nI (n := k0) (N := 24) (by omega) (by decide)) dX3_setPrice_6 (fun H locs hP hD hS => ?_)
  obtain ⟨F_1, eF_1⟩ : ∃ z : Nat → Nat → Int32, z = va_up F 23 (upd (F 23) (nI k0).toNatClampNeg p1) := ⟨_, rfl⟩
  have hP : va_P (dC, dI) vwCl (wC cI cZ h F_1 V) H := by rw [eF_1]; exact hP
  have hD : va_D A (wC cI cZ h F_1 V) := by rw [eF_1]; exact hD
  exact hret (F_1, V) H locs 7 ls dX3_setPrice_7 (trivial) (hP) (hD) hS
def rm_X3_hourNow : Room := { frames := 0, cells := 0, slots := 0, locals := 0 }
set_option maxHeartbeats 4000000 in
set_option maxRecDepth 100000 in
theorem c_X3_hourNow (l : Launch) (dC : Nat → ClassId) (dI : Nat → Nat → Nat) (cI cZ cJ : ClassId) (h : Nat → Nat) (F : Nat → Nat → Int32) (V : Nat → Int32)   : CtI l (dC, dI) vwCl (tys3 cI cZ cJ) yX3_hourNow wsX3_hourNow rm_X3_hourNow [.ref (h 3)] (wC cI cZ h F V) (S := Unit) (fun r _ => r = V 4) (fun _ => wC cI cZ h F V) 0 0 := by
  refine ct_I (cc := cX3_hourNow) (maxL := 1) (ty := .int) (own := RX3) (by decide) rfl rfl (Nat.le_of_ble_eq_true rfl) (lv := [(0, .ref (h 3))]) rfl ?_
  intro p e s m args below meth c A Q ls fx hK hP hD hA hl hret
  obtain ⟨hx, hb, hml, hown, hts⟩ := id fx
  have hS : va_S A s.heap s.heap [] := va_S.rf
  have hw0 := hts (.fieldLink RX3 48 "MirrorTower$Store" "now" "I") (by decide +kernel)
  have hin_X3 : ∀ w ∈ u_ws RX3 TX3 14, w ∈ wsX3_hourNow := by decide +kernel
  obtain ⟨H, hH⟩ : ∃ H, H = s.heap := ⟨_, rfl⟩
  rw [← hH] at hP ⊢
  have hS : va_S A s.heap H [] := by rw [hH]; exact hS
  generalize ([] : List Loc) = locs at hS ⊢
  refine lv_aload_n hx hb dX3_hourNow_0 rfl (lv_at hl 0 rfl) ?_
  refine va_get (D := (dC, dI)) (ci := 3) (v := .int (V 4)) (C := RX3) (T := TX3) (N := 14) hx hb hts hin_X3 hown hK hP 3 rfl rfl 3 (by decide) hw0 (fun _ h9 => h9) rfl dX3_hourNow_1 ?_
  exact hret (V 4) () H locs 4 ls rfl dX3_hourNow_4 (by first | rfl | (simp []; done) | (exfalso; omega)) (hP) (hD) hS
def rm_X3_unitsHeld : Room := { frames := 0, cells := 0, slots := 0, locals := 0 }
set_option maxHeartbeats 4000000 in
set_option maxRecDepth 100000 in
theorem c_X3_unitsHeld (l : Launch) (dC : Nat → ClassId) (dI : Nat → Nat → Nat) (cI cZ cJ : ClassId) (h : Nat → Nat) (F : Nat → Nat → Int32) (V : Nat → Int32)   : CtI l (dC, dI) vwCl (tys3 cI cZ cJ) yX3_unitsHeld wsX3_unitsHeld rm_X3_unitsHeld [.ref (h 3)] (wC cI cZ h F V) (S := Unit) (fun r _ => r = V 5) (fun _ => wC cI cZ h F V) 0 0 := by
  refine ct_I (cc := cX3_unitsHeld) (maxL := 1) (ty := .int) (own := RX3) (by decide) rfl rfl (Nat.le_of_ble_eq_true rfl) (lv := [(0, .ref (h 3))]) rfl ?_
  intro p e s m args below meth c A Q ls fx hK hP hD hA hl hret
  obtain ⟨hx, hb, hml, hown, hts⟩ := id fx
  have hS : va_S A s.heap s.heap [] := va_S.rf
  have hw0 := hts (.fieldLink RX3 51 "MirrorTower$Store" "units" "I") (by decide +kernel)
  have hin_X3 : ∀ w ∈ u_ws RX3 TX3 14, w ∈ wsX3_unitsHeld := by decide +kernel
  obtain ⟨H, hH⟩ : ∃ H, H = s.heap := ⟨_, rfl⟩
  rw [← hH] at hP ⊢
  have hS : va_S A s.heap H [] := by rw [hH]; exact hS
  generalize ([] : List Loc) = locs at hS ⊢
  refine lv_aload_n hx hb dX3_unitsHeld_0 rfl (lv_at hl 0 rfl) ?_
  refine va_get (D := (dC, dI)) (ci := 3) (v := .int (V 5)) (C := RX3) (T := TX3) (N := 14) hx hb hts hin_X3 hown hK hP 3 rfl rfl 4 (by decide) hw0 (fun _ h9 => h9) rfl dX3_unitsHeld_1 ?_
  exact hret (V 5) () H locs 4 ls rfl dX3_unitsHeld_4 (by first | rfl | (simp []; done) | (exfalso; omega)) (hP) (hD) hS
def rm_X3_earnedInAll : Room := { frames := 0, cells := 0, slots := 0, locals := 0 }
set_option maxHeartbeats 4000000 in
set_option maxRecDepth 100000 in
theorem c_X3_earnedInAll (l : Launch) (dC : Nat → ClassId) (dI : Nat → Nat → Nat) (cI cZ cJ : ClassId) (h : Nat → Nat) (F : Nat → Nat → Int32) (V : Nat → Int32)   : CtI l (dC, dI) vwCl (tys3 cI cZ cJ) yX3_earnedInAll wsX3_earnedInAll rm_X3_earnedInAll [.ref (h 3)] (wC cI cZ h F V) (S := Unit) (fun r _ => r = V 7) (fun _ => wC cI cZ h F V) 0 0 := by
  refine ct_I (cc := cX3_earnedInAll) (maxL := 1) (ty := .int) (own := RX3) (by decide) rfl rfl (Nat.le_of_ble_eq_true rfl) (lv := [(0, .ref (h 3))]) rfl ?_
  intro p e s m args below meth c A Q ls fx hK hP hD hA hl hret
  obtain ⟨hx, hb, hml, hown, hts⟩ := id fx
  have hS : va_S A s.heap s.heap [] := va_S.rf
  have hw0 := hts (.fieldLink RX3 58 "MirrorTower$Store" "earnings" "I") (by decide +kernel)
  have hin_X3 : ∀ w ∈ u_ws RX3 TX3 14, w ∈ wsX3_earnedInAll := by decide +kernel
  obtain ⟨H, hH⟩ : ∃ H, H = s.heap := ⟨_, rfl⟩
  rw [← hH] at hP ⊢
  have hS : va_S A s.heap H [] := by rw [hH]; exact hS
  generalize ([] : List Loc) = locs at hS ⊢
  refine lv_aload_n hx hb dX3_earnedInAll_0 rfl (lv_at hl 0 rfl) ?_
  refine va_get (D := (dC, dI)) (ci := 3) (v := .int (V 7)) (C := RX3) (T := TX3) (N := 14) hx hb hts hin_X3 hown hK hP 3 rfl rfl 6 (by decide) hw0 (fun _ h9 => h9) rfl dX3_earnedInAll_1 ?_
  exact hret (V 7) () H locs 4 ls rfl dX3_earnedInAll_4 (by first | rfl | (simp []; done) | (exfalso; omega)) (hP) (hD) hS
def rm_X3_isWarm : Room := { frames := 0, cells := 0, slots := 0, locals := 0 }
set_option maxHeartbeats 4000000 in
set_option maxRecDepth 100000 in
theorem c_X3_isWarm (l : Launch) (dC : Nat → ClassId) (dI : Nat → Nat → Nat) (cI cZ cJ : ClassId) (h : Nat → Nat) (F : Nat → Nat → Int32) (V : Nat → Int32)  (hV6 : V 6 = 0) : CtI l (dC, dI) vwCl (tys3 cI cZ cJ) yX3_isWarm wsX3_isWarm rm_X3_isWarm [.ref (h 3)] (wC cI cZ h F V) (S := Unit) (fun r _ => r = 0) (fun _ => wC cI cZ h F V) 0 0 := by
  refine ct_I (cc := cX3_isWarm) (maxL := 1) (ty := .boolean) (own := RX3) (by decide) rfl rfl (Nat.le_of_ble_eq_true rfl) (lv := [(0, .ref (h 3))]) rfl ?_
  intro p e s m args below meth c A Q ls fx hK hP hD hA hl hret
  obtain ⟨hx, hb, hml, hown, hts⟩ := id fx
  have hS : va_S A s.heap s.heap [] := va_S.rf
  have hw0 := hts (.fieldLink RX3 54 "MirrorTower$Store" "warm" "Z") (by decide +kernel)
  have hin_X3 : ∀ w ∈ u_ws RX3 TX3 14, w ∈ wsX3_isWarm := by decide +kernel
  obtain ⟨H, hH⟩ : ∃ H, H = s.heap := ⟨_, rfl⟩
  rw [← hH] at hP ⊢
  have hS : va_S A s.heap H [] := by rw [hH]; exact hS
  generalize ([] : List Loc) = locs at hS ⊢
  refine lv_aload_n hx hb dX3_isWarm_0 rfl (lv_at hl 0 rfl) ?_
  refine va_get (D := (dC, dI)) (ci := 3) (v := .int (V 6)) (C := RX3) (T := TX3) (N := 14) hx hb hts hin_X3 hown hK hP 3 rfl rfl 5 (by decide) hw0 (fun _ h9 => h9) rfl dX3_isWarm_1 ?_
  refine lv_topi (fun x_1 ex_1 => ?_)
  obtain rfl : x_1 = 0 := ex_1.trans (hV6)
  exact hret 0 () H locs 4 ls rfl dX3_isWarm_4 (by first | rfl | (simp []; done) | (exfalso; omega)) (hP) (hD) hS
def rm_X3_filled : Room := { frames := 1, cells := 0, slots := 0, locals := 13 }
set_option maxHeartbeats 4000000 in
set_option maxRecDepth 100000 in
theorem c_X3_filled (l : Launch) (dC : Nat → ClassId) (dI : Nat → Nat → Nat) (cI cZ cJ : ClassId) (w : va_W) (a0 a1 : Nat) (ha : a0 + a1 < 1000000)  : CtI l (dC, dI) vwCl (tys3 cI cZ cJ) yX3_filled wsX3_filled rm_X3_filled [.int (nI a0), .int (nI a1)] (w) (S := Unit) (fun r _ => r = nI (min 200 (a0 + a1))) (fun _ => w) 0 0 := by
  refine ct_I (cc := cX3_filled) (maxL := 2) (ty := .int) (own := RX3) (by decide) rfl rfl (Nat.le_of_ble_eq_true rfl) (lv := [(0, .int (nI a0)), (1, .int (nI a1))]) rfl ?_
  intro p e s m args below meth c A Q ls fx hK hP hD hA hl hret
  obtain ⟨hx, hb, hml, hown, hts⟩ := id fx
  have hS : va_S A s.heap s.heap [] := va_S.rf
  have hw0 := hts (.methodLink RX3 83 Lib.Math.min.name) (by decide +kernel)
  have hw1 := hts (.static Lib.Math.min.name) (by decide +kernel)
  have hw2 := hts (.initialized "java/lang/Math") (by decide +kernel)
  have hw3 := hts (.code Lib.Math.min.name Lib.Math.min.code 2 (some .int)) (by decide +kernel)
  obtain ⟨H, hH⟩ : ∃ H, H = s.heap := ⟨_, rfl⟩
  rw [← hH] at hP ⊢
  have hS : va_S A s.heap H [] := by rw [hH]; exact hS
  generalize ([] : List Loc) = locs at hS ⊢
  refine lv_sipush (v := 200) hx hb dX3_filled_0 (by decide) ?_
  refine lv_iload_n hx hb dX3_filled_3 rfl (lv_at hl 0 rfl) ?_
  refine lv_iload_n hx hb dX3_filled_4 rfl (lv_at hl 1 rfl) ?_
  refine lv_iadd hx hb dX3_filled_5 ?_
  refine lv_topi (fun x_1 ex_1 => ?_)
  obtain rfl : x_1 = nI (a0 + a1) := ex_1.trans (nI_add a0 a1)
  refine va_mmin hx hb (hml.trans hl.1.symm) hown hw0 hw1 hw2 hw3 (Nat.le_of_ble_eq_true rfl) (Nat.le_of_ble_eq_true rfl) (Nat.le_of_ble_eq_true rfl) (Nat.le_of_ble_eq_true rfl) dX3_filled_6 ?_
  refine lv_topi (fun x_2 ex_2 => ?_)
  obtain rfl : x_2 = nI (min 200 (a0 + a1)) := ex_2.trans (mm_min (a := 200) (b := a0 + a1) (by omega) (by omega))
  exact hret (nI (min 200 (a0 + a1))) () H locs 9 ls rfl dX3_filled_9 (by first | rfl | (simp []; done) | (exfalso; omega)) (hP) (hD) hS
def rm_X3_needed : Room := { frames := 0, cells := 0, slots := 0, locals := 0 }
set_option maxHeartbeats 4000000 in
set_option maxRecDepth 100000 in
theorem c_X3_needed (l : Launch) (dC : Nat → ClassId) (dI : Nat → Nat → Nat) (cI cZ cJ : ClassId) (w : va_W) (p0 : Int32)  : CtI l (dC, dI) vwCl (tys3 cI cZ cJ) yX3_needed wsX3_needed rm_X3_needed [.int p0] (w) (S := Unit) (fun r _ => r = if eqI p0 0 then 7 else 5) (fun _ => w) 0 0 := by
  refine ct_I (cc := cX3_needed) (maxL := 1) (ty := .int) (own := RX3) (by decide) rfl rfl (Nat.le_of_ble_eq_true rfl) (lv := [(0, .int p0)]) rfl ?_
  intro p e s m args below meth c A Q ls fx hK hP hD hA hl hret
  obtain ⟨hx, hb, hml, hown, hts⟩ := id fx
  have hS : va_S A s.heap s.heap [] := va_S.rf
  obtain ⟨H, hH⟩ : ∃ H, H = s.heap := ⟨_, rfl⟩
  rw [← hH] at hP ⊢
  have hS : va_S A s.heap H [] := by rw [hH]; exact hS
  generalize ([] : List Loc) = locs at hS ⊢
  refine lv_iload_n hx hb dX3_needed_0 rfl (lv_at hl 0 rfl) ?_
  refine lv_if_eq (tgt := 8) hx hb dX3_needed_1 (by decide) (fun c_1 => ?_) (fun c_1 => ?_)
  · have c_1 : eqI p0 0 = true := decide_eq_true c_1
    refine lv_bipush (v := 7) hx hb dX3_needed_8 (by decide) ?_
    exact hret 7 () H locs 10 ls rfl dX3_needed_10 (by first | rfl | (simp [c_1]; done) | (exfalso; omega)) (hP) (hD) hS
  · have c_1 : eqI p0 0 = false := decide_eq_false c_1
    refine lv_iconst (v := 5) hx hb dX3_needed_4 (by decide) ?_
    refine lv_goto (tgt := 10) hx hb dX3_needed_5 (by decide) ?_
    exact hret 5 () H locs 10 ls rfl dX3_needed_10 (by first | rfl | (simp [c_1]; done) | (exfalso; omega)) (hP) (hD) hS
def rm_X3_plannedRun : Room := { frames := 0, cells := 0, slots := 0, locals := 0 }
set_option maxHeartbeats 4000000 in
set_option maxRecDepth 100000 in
theorem c_X3_plannedRun (l : Launch) (dC : Nat → ClassId) (dI : Nat → Nat → Nat) (cI cZ cJ : ClassId) (h : Nat → Nat) (F : Nat → Nat → Int32) (V : Nat → Int32) (k0 : Nat) (hk0 : k0 < 24) (hV9 : V 9 = 24) : CtI l (dC, dI) vwCl (tys3 cI cZ cJ) yX3_plannedRun wsX3_plannedRun rm_X3_plannedRun [.ref (h 3), .int (nI k0)] (wC cI cZ h F V) (S := Unit) (fun r _ => r = (-1)) (fun _ => wC cI cZ h F V) 0 0 := by
  refine ct_I (cc := cX3_plannedRun) (maxL := 2) (ty := .int) (own := RX3) (by decide) rfl rfl (Nat.le_of_ble_eq_true rfl) (lv := [(0, .ref (h 3)), (1, .int (nI k0))]) rfl ?_
  intro p e s m args below meth c A Q ls fx hK hP hD hA hl hret
  obtain ⟨hx, hb, hml, hown, hts⟩ := id fx
  have hS : va_S A s.heap s.heap [] := va_S.rf
  have hw0 := hts (.fieldLink RX3 44 "MirrorTower$Store" "plannedFrom" "I") (by decide +kernel)
  have hin_X3 : ∀ w ∈ u_ws RX3 TX3 14, w ∈ wsX3_plannedRun := by decide +kernel
  have hw2 := hts (.fieldLink RX3 88 "MirrorTower$Store" "planned" "I") (by decide +kernel)
  obtain ⟨H, hH⟩ : ∃ H, H = s.heap := ⟨_, rfl⟩
  rw [← hH] at hP ⊢
  have hS : va_S A s.heap H [] := by rw [hH]; exact hS
  generalize ([] : List Loc) = locs at hS ⊢
  refine lv_iload_n hx hb dX3_plannedRun_0 rfl (lv_at hl 1 rfl) ?_
  refine lv_aload_n hx hb dX3_plannedRun_1 rfl (lv_at hl 0 rfl) ?_
  refine va_get (D := (dC, dI)) (ci := 3) (v := .int (V 9)) (C := RX3) (T := TX3) (N := 14) hx hb hts hin_X3 hown hK hP 3 rfl rfl 13 (by decide) hw0 (fun _ h9 => h9) rfl dX3_plannedRun_2 ?_
  refine lv_topi (fun x_1 ex_1 => ?_)
  obtain rfl : x_1 = 24 := ex_1.trans (hV9)
  refine lv_icmp_ge (tgt := 12) hx hb dX3_plannedRun_5 (by decide) (fun c_2 => ?_) (fun c_2 => ?_)
  · have c_2 : 24 ≤ k0 := (nI_leI (a := 24) (b := k0) (by omega) (by omega)).mp c_2
    refine lv_aload_n hx hb dX3_plannedRun_12 rfl (lv_at hl 0 rfl) ?_
    refine va_get (D := (dC, dI)) (ci := 3) (v := .int (V 8)) (C := RX3) (T := TX3) (N := 14) hx hb hts hin_X3 hown hK hP 3 rfl rfl 12 (by decide) hw2 (fun _ h9 => h9) rfl dX3_plannedRun_13 ?_
    refine lv_iload_n hx hb dX3_plannedRun_16 rfl (lv_at hl 1 rfl) ?_
    refine lv_ishr hx hb dX3_plannedRun_17 ?_
    refine lv_iconst (v := 1) hx hb dX3_plannedRun_18 (by decide) ?_
    refine lv_iand hx hb dX3_plannedRun_19 ?_
    exact hret (((V 8) >>> ((nI k0) &&& 31)) &&& 1) () H locs 20 ls rfl dX3_plannedRun_20 (by first | rfl | (simp []; done) | (exfalso; omega)) (hP) (hD) hS
  · have c_2 : ¬ 24 ≤ k0 := fun h => c_2 ((nI_leI (a := 24) (b := k0) (by omega) (by omega)).mpr h)
    refine lv_iconst (v := (-1)) hx hb dX3_plannedRun_8 (by decide) ?_
    refine lv_goto (tgt := 20) hx hb dX3_plannedRun_9 (by decide) ?_
    exact hret (-1) () H locs 20 ls rfl dX3_plannedRun_20 (by first | rfl | (simp []; done) | (exfalso; omega)) (hP) (hD) hS
def rm_X3_stateOf0 : Room := { frames := 0, cells := 0, slots := 0, locals := 0 }
set_option maxHeartbeats 4000000 in
set_option maxRecDepth 100000 in
theorem c_X3_stateOf0 (l : Launch) (dC : Nat → ClassId) (dI : Nat → Nat → Nat) (cI cZ cJ : ClassId) (w : va_W) (a0 : Nat)  : CtI l (dC, dI) vwCl (tys3 cI cZ cJ) yX3_stateOf wsX3_stateOf rm_X3_stateOf0 [.int (nI a0), .int 0] (w) (S := Unit) (fun r _ => r = nI (2 * a0 + 0)) (fun _ => w) 0 0 := by
  refine ct_I (cc := cX3_stateOf) (maxL := 2) (ty := .int) (own := RX3) (by decide) rfl rfl (Nat.le_of_ble_eq_true rfl) (lv := [(0, .int (nI a0)), (1, .int 0)]) rfl ?_
  intro p e s m args below meth c A Q ls fx hK hP hD hA hl hret
  obtain ⟨hx, hb, hml, hown, hts⟩ := id fx
  have hS : va_S A s.heap s.heap [] := va_S.rf
  obtain ⟨H, hH⟩ : ∃ H, H = s.heap := ⟨_, rfl⟩
  rw [← hH] at hP ⊢
  have hS : va_S A s.heap H [] := by rw [hH]; exact hS
  generalize ([] : List Loc) = locs at hS ⊢
  refine lv_iconst (v := 2) hx hb dX3_stateOf_0 (by decide) ?_
  refine lv_iload_n hx hb dX3_stateOf_1 rfl (lv_at hl 0 rfl) ?_
  refine lv_imul hx hb dX3_stateOf_2 ?_
  refine lv_topi (fun x_1 ex_1 => ?_)
  obtain rfl : x_1 = nI (2 * a0) := ex_1.trans (pk_mul 2 a0)
  refine lv_iload_n hx hb dX3_stateOf_3 rfl (lv_at hl 1 rfl) ?_
  refine lv_if_eq (tgt := 11) hx hb dX3_stateOf_4 (by decide) (fun c_2 => ?_) (fun c_2 => ?_)
  · refine lv_iconst (v := 0) hx hb dX3_stateOf_11 (by decide) ?_
    refine lv_iadd hx hb dX3_stateOf_12 ?_
    refine lv_topi (fun x_3 ex_3 => ?_)
    obtain rfl : x_3 = nI ((2 * a0) + 0) := ex_3.trans (nI_add (2 * a0) 0)
    exact hret (nI ((2 * a0) + 0)) () H locs 13 ls rfl dX3_stateOf_13 (by first | rfl | (simp []; done) | (exfalso; omega)) (hP) (hD) hS
  · exact absurd c_2 (by decide)
def rm_X3_stateOf1 : Room := { frames := 0, cells := 0, slots := 0, locals := 0 }
set_option maxHeartbeats 4000000 in
set_option maxRecDepth 100000 in
theorem c_X3_stateOf1 (l : Launch) (dC : Nat → ClassId) (dI : Nat → Nat → Nat) (cI cZ cJ : ClassId) (w : va_W) (a0 : Nat)  : CtI l (dC, dI) vwCl (tys3 cI cZ cJ) yX3_stateOf wsX3_stateOf rm_X3_stateOf1 [.int (nI a0), .int 1] (w) (S := Unit) (fun r _ => r = nI (2 * a0 + 1)) (fun _ => w) 0 0 := by
  refine ct_I (cc := cX3_stateOf) (maxL := 2) (ty := .int) (own := RX3) (by decide) rfl rfl (Nat.le_of_ble_eq_true rfl) (lv := [(0, .int (nI a0)), (1, .int 1)]) rfl ?_
  intro p e s m args below meth c A Q ls fx hK hP hD hA hl hret
  obtain ⟨hx, hb, hml, hown, hts⟩ := id fx
  have hS : va_S A s.heap s.heap [] := va_S.rf
  obtain ⟨H, hH⟩ : ∃ H, H = s.heap := ⟨_, rfl⟩
  rw [← hH] at hP ⊢
  have hS : va_S A s.heap H [] := by rw [hH]; exact hS
  generalize ([] : List Loc) = locs at hS ⊢
  refine lv_iconst (v := 2) hx hb dX3_stateOf_0 (by decide) ?_
  refine lv_iload_n hx hb dX3_stateOf_1 rfl (lv_at hl 0 rfl) ?_
  refine lv_imul hx hb dX3_stateOf_2 ?_
  refine lv_topi (fun x_1 ex_1 => ?_)
  obtain rfl : x_1 = nI (2 * a0) := ex_1.trans (pk_mul 2 a0)
  refine lv_iload_n hx hb dX3_stateOf_3 rfl (lv_at hl 1 rfl) ?_
  refine lv_if_eq (tgt := 11) hx hb dX3_stateOf_4 (by decide) (fun c_2 => ?_) (fun c_2 => ?_)
  · exact absurd c_2 (by decide)
  · refine lv_iconst (v := 1) hx hb dX3_stateOf_7 (by decide) ?_
    refine lv_goto (tgt := 12) hx hb dX3_stateOf_8 (by decide) ?_
    refine lv_iadd hx hb dX3_stateOf_12 ?_
    refine lv_topi (fun x_3 ex_3 => ?_)
    obtain rfl : x_3 = nI ((2 * a0) + 1) := ex_3.trans (nI_add (2 * a0) 1)
    exact hret (nI ((2 * a0) + 1)) () H locs 13 ls rfl dX3_stateOf_13 (by first | rfl | (simp []; done) | (exfalso; omega)) (hP) (hD) hS
def rm_X3_weigh0 : Room := { frames := 2, cells := 0, slots := 0, locals := 34 }
set_option maxHeartbeats 4000000 in
set_option maxRecDepth 100000 in
theorem c_X3_weigh0 (l : Launch) (dC : Nat → ClassId) (dI : Nat → Nat → Nat) (cI cZ cJ : ClassId) (h : Nat → Nat) (F : Nat → Nat → Int32) (V : Nat → Int32) (k0 : Nat) (hk0 : k0 < 24) (hU : F 27 k0 = 0)  : CtV l (dC, dI) vwCl (tys3 cI cZ cJ) yX3_weigh wsX3_weigh rm_X3_weigh0 [.ref (h 3), .int (nI k0), .int 0, .int 0] (wC cI cZ h F V) (S := Nat → Nat → Int32) (fun u => u 24 0 = F 25 0 ∧ ∀ j, j ≠ 24 → u j = F j) (fun u => wC cI cZ h u V) 0 0 := by
  refine ct_V (cc := cX3_weigh) (maxL := 8) (own := RX3) (by decide) rfl rfl (Nat.le_of_ble_eq_true rfl) (lv := [(0, .ref (h 3)), (1, .int (nI k0)), (2, .int 0), (3, .int 0)]) rfl ?_
  intro p e s m args below meth c A Q ls hnm fx hK hP hD hA hl hret
  obtain ⟨hx, hb, hml, hown, hts⟩ := id fx
  have hS : va_S A s.heap s.heap [] := va_S.rf
  have hw0 := hts (.fieldLink RX3 38 "MirrorTower$Store" "unitsIn" "[I") (by decide +kernel)
  have hin_X3 : ∀ w ∈ u_ws RX3 TX3 14, w ∈ wsX3_weigh := by decide +kernel
  have hw2 := hts (.fieldLink RX3 29 "MirrorTower$Store" "gains" "[I") (by decide +kernel)
  have hw3 := hts (.fieldLink RX3 32 "MirrorTower$Store" "laterGains" "[I") (by decide +kernel)
  obtain ⟨H, hH⟩ : ∃ H, H = s.heap := ⟨_, rfl⟩
  rw [← hH] at hP ⊢
  have hS : va_S A s.heap H [] := by rw [hH]; exact hS
  generalize ([] : List Loc) = locs at hS ⊢
  refine lv_iload_n hx hb dX3_weigh_0 rfl (lv_at hl 2 rfl) ?_
  refine lv_iload_n hx hb dX3_weigh_1 rfl (lv_at hl 3 rfl) ?_
  refine cw_Si (As := [.int 0, .int 0]) (rest := []) (c_X3_stateOf0 l dC dI cI cZ cJ (wC cI cZ h F V) 0) fx (va_cwS 2 hts gX3_weigh_X3_stateOf rfl rfl rfl (by decide +kernel) ⟨Nat.le_of_ble_eq_true rfl, Nat.le_of_ble_eq_true rfl⟩) hK hP hD hS hA rfl hl.1 rfl (Nat.le_of_ble_eq_true rfl) dX3_weigh_2 ⟨Nat.le_of_ble_eq_true rfl, Nat.le_of_ble_eq_true rfl⟩ (fun r_1 u_2 H locs hw_3 hP hD hS => ?_)
  have hP : va_P (dC, dI) vwCl (wC cI cZ h F V) H := hP
  have hD : va_D A (wC cI cZ h F V) := hD
  obtain rfl : r_1 = 0 := hw_3
  refine lv_istore (lv' := [(4, .int 0), (0, .ref (h 3)), (1, .int (nI k0)), (2, .int 0), (3, .int 0)]) hx hb dX3_weigh_5 hl (by decide) rfl (fun ls hl => ?_)
  refine lv_iload_n hx hb dX3_weigh_7 rfl (lv_at hl 3 rfl) ?_
  refine lv_aload_n hx hb dX3_weigh_8 rfl (lv_at hl 1 rfl) ?_
  refine va_get (D := (dC, dI)) (ci := 3) (v := .ref (h 27)) (C := RX3) (T := TX3) (N := 14) hx hb hts hin_X3 hown hK hP 3 rfl rfl 10 (by decide) hw0 (fun _ h9 => h9) rfl dX3_weigh_9 ?_
  refine lv_iload_n hx hb dX3_weigh_12 rfl (lv_at hl 2 rfl) ?_
  refine va_iald hx hb hK hP 27 0 rfl rfl (vp_in_nI (n := k0) (N := 24) (by omega) (by decide)) dX3_weigh_13 ?_
  refine lv_topi (fun x_4 ex_4 => ?_)
  obtain rfl : x_4 = 0 := ex_4.trans ((congrArg (F 27) (nI_clamp (n := k0) (by omega))).trans hU)
  refine cw_Si (As := [.int 0, .int 0]) (rest := []) (c_X3_filled l dC dI cI cZ cJ (wC cI cZ h F V) 0 0 (by omega)) fx (va_cwS 2 hts gX3_weigh_X3_filled rfl rfl rfl (by decide +kernel) ⟨Nat.le_of_ble_eq_true rfl, Nat.le_of_ble_eq_true rfl⟩) hK hP hD hS hA rfl hl.1 rfl (Nat.le_of_ble_eq_true rfl) dX3_weigh_14 ⟨Nat.le_of_ble_eq_true rfl, Nat.le_of_ble_eq_true rfl⟩ (fun r_5 u_6 H locs hw_7 hP hD hS => ?_)
  have hP : va_P (dC, dI) vwCl (wC cI cZ h F V) H := hP
  have hD : va_D A (wC cI cZ h F V) := hD
  obtain rfl : r_5 = 0 := hw_7
  refine lv_istore (lv' := [(5, .int 0), (4, .int 0), (0, .ref (h 3)), (1, .int (nI k0)), (2, .int 0), (3, .int 0)]) hx hb dX3_weigh_17 hl (by decide) rfl (fun ls hl => ?_)
  refine lv_iload_n hx hb dX3_weigh_19 rfl (lv_at hl 5 rfl) ?_
  refine cw_Si (As := [.int 0]) (rest := []) (c_X3_needed l dC dI cI cZ cJ (wC cI cZ h F V) 0) fx (va_cwS 1 hts gX3_weigh_X3_needed rfl rfl rfl (by decide +kernel) ⟨Nat.le_of_ble_eq_true rfl, Nat.le_of_ble_eq_true rfl⟩) hK hP hD hS hA rfl hl.1 rfl (Nat.le_of_ble_eq_true rfl) dX3_weigh_20 ⟨Nat.le_of_ble_eq_true rfl, Nat.le_of_ble_eq_true rfl⟩ (fun r_8 u_9 H locs hw_10 hP hD hS => ?_)
  have hP : va_P (dC, dI) vwCl (wC cI cZ h F V) H := hP
  have hD : va_D A (wC cI cZ h F V) := hD
  obtain rfl : r_8 = 7 := Eq.trans hw_10 (by decide)
  refine lv_istore (lv' := [(6, .int 7), (5, .int 0), (4, .int 0), (0, .ref (h 3)), (1, .int (nI k0)), (2, .int 0), (3, .int 0)]) hx hb dX3_weigh_23 hl (by decide) rfl (fun ls hl => ?_)
  refine lv_aload_n hx hb dX3_weigh_25 rfl (lv_at hl 3 rfl) ?_
  refine va_get (D := (dC, dI)) (ci := 3) (v := .ref (h 24)) (C := RX3) (T := TX3) (N := 14) hx hb hts hin_X3 hown hK hP 3 rfl rfl 7 (by decide) hw2 (fun _ h9 => h9) rfl dX3_weigh_26 ?_
  refine lv_iload hx hb dX3_weigh_29 (lv_at hl 2 rfl) ?_
  refine lv_aload_n hx hb dX3_weigh_31 rfl (lv_at hl 3 rfl) ?_
  refine va_get (D := (dC, dI)) (ci := 3) (v := .ref (h 25)) (C := RX3) (T := TX3) (N := 14) hx hb hts hin_X3 hown hK hP 3 rfl rfl 8 (by decide) hw3 (fun _ h9 => h9) rfl dX3_weigh_32 ?_
  refine lv_iload hx hb dX3_weigh_35 (lv_at hl 1 rfl) ?_
  refine lv_iconst (v := 0) hx hb dX3_weigh_37 (by decide) ?_
  refine cw_Si (As := [.int 0, .int 0]) (rest := [.ref (h 25), .int 0, .ref (h 24)]) (c_X3_stateOf0 l dC dI cI cZ cJ (wC cI cZ h F V) 0) fx (va_cwS 2 hts gX3_weigh_X3_stateOf rfl rfl rfl (by decide +kernel) ⟨Nat.le_of_ble_eq_true rfl, Nat.le_of_ble_eq_true rfl⟩) hK hP hD hS hA rfl hl.1 rfl (Nat.le_of_ble_eq_true rfl) dX3_weigh_38 ⟨Nat.le_of_ble_eq_true rfl, Nat.le_of_ble_eq_true rfl⟩ (fun r_11 u_12 H locs hw_13 hP hD hS => ?_)
  have hP : va_P (dC, dI) vwCl (wC cI cZ h F V) H := hP
  have hD : va_D A (wC cI cZ h F V) := hD
  obtain rfl : r_11 = 0 := hw_13
  refine va_iald hx hb hK hP 25 0 rfl rfl (vp_in_nI (n := 0) (N := 402) (by decide) (by decide)) dX3_weigh_41 ?_
  refine lv_topi (fun x_14 ex_14 => ?_)
  refine va_iast hx hb hK hP hD hS 24 0 rfl rfl (vp_in_nI (n := 0) (N := 402) (by decide) (by decide)) dX3_weigh_42 (fun H locs hP hD hS => ?_)
  obtain ⟨F_15, eF_15⟩ : ∃ z : Nat → Nat → Int32, z = va_up F 24 (upd (F 24) (0 : Int32).toNatClampNeg x_14) := ⟨_, rfl⟩
  have hP : va_P (dC, dI) vwCl (wC cI cZ h F_15 V) H := by rw [eF_15]; exact hP
  have hD : va_D A (wC cI cZ h F_15 V) := by rw [eF_15]; exact hD
  have hE_16 : F_15 27 k0 = 0 := by rw [eF_15]; exact hU
  refine lv_iload hx hb dX3_weigh_43 (lv_at hl 1 rfl) ?_
  refine lv_iload hx hb dX3_weigh_45 (lv_at hl 0 rfl) ?_
  refine lv_icmp_lt (tgt := 106) hx hb dX3_weigh_47 (by decide) (fun c_17 => ?_) (fun c_17 => ?_)
  · exact hret F_15 H locs 106 ls dX3_weigh_106 (⟨by rw [eF_15]; exact ex_14, fun j hj => by rw [eF_15]; simp [va_up, hj]⟩) (hP) (hD) hS
  · exact absurd c_17 (by decide)
def rm_X3_weigh1 : Room := { frames := 2, cells := 0, slots := 0, locals := 34 }
set_option maxHeartbeats 4000000 in
set_option maxRecDepth 100000 in
theorem c_X3_weigh1 (l : Launch) (dC : Nat → ClassId) (dI : Nat → Nat → Nat) (cI cZ cJ : ClassId) (h : Nat → Nat) (F : Nat → Nat → Int32) (V : Nat → Int32) (k0 : Nat) (hk0 : k0 < 24) (hU : F 27 k0 = 0)  : CtV l (dC, dI) vwCl (tys3 cI cZ cJ) yX3_weigh wsX3_weigh rm_X3_weigh1 [.ref (h 3), .int (nI k0), .int 0, .int 1] (wC cI cZ h F V) (S := Nat → Nat → Int32) (fun u => u 24 0 = F 24 0 ∧ ∀ j, j ≠ 24 → u j = F j) (fun u => wC cI cZ h u V) 0 0 := by
  refine ct_V (cc := cX3_weigh) (maxL := 8) (own := RX3) (by decide) rfl rfl (Nat.le_of_ble_eq_true rfl) (lv := [(0, .ref (h 3)), (1, .int (nI k0)), (2, .int 0), (3, .int 1)]) rfl ?_
  intro p e s m args below meth c A Q ls hnm fx hK hP hD hA hl hret
  obtain ⟨hx, hb, hml, hown, hts⟩ := id fx
  have hS : va_S A s.heap s.heap [] := va_S.rf
  have hw0 := hts (.fieldLink RX3 38 "MirrorTower$Store" "unitsIn" "[I") (by decide +kernel)
  have hin_X3 : ∀ w ∈ u_ws RX3 TX3 14, w ∈ wsX3_weigh := by decide +kernel
  have hw2 := hts (.fieldLink RX3 29 "MirrorTower$Store" "gains" "[I") (by decide +kernel)
  have hw3 := hts (.fieldLink RX3 32 "MirrorTower$Store" "laterGains" "[I") (by decide +kernel)
  obtain ⟨H, hH⟩ : ∃ H, H = s.heap := ⟨_, rfl⟩
  rw [← hH] at hP ⊢
  have hS : va_S A s.heap H [] := by rw [hH]; exact hS
  generalize ([] : List Loc) = locs at hS ⊢
  refine lv_iload_n hx hb dX3_weigh_0 rfl (lv_at hl 2 rfl) ?_
  refine lv_iload_n hx hb dX3_weigh_1 rfl (lv_at hl 3 rfl) ?_
  refine cw_Si (As := [.int 0, .int 1]) (rest := []) (c_X3_stateOf1 l dC dI cI cZ cJ (wC cI cZ h F V) 0) fx (va_cwS 2 hts gX3_weigh_X3_stateOf rfl rfl rfl (by decide +kernel) ⟨Nat.le_of_ble_eq_true rfl, Nat.le_of_ble_eq_true rfl⟩) hK hP hD hS hA rfl hl.1 rfl (Nat.le_of_ble_eq_true rfl) dX3_weigh_2 ⟨Nat.le_of_ble_eq_true rfl, Nat.le_of_ble_eq_true rfl⟩ (fun r_1 u_2 H locs hw_3 hP hD hS => ?_)
  have hP : va_P (dC, dI) vwCl (wC cI cZ h F V) H := hP
  have hD : va_D A (wC cI cZ h F V) := hD
  obtain rfl : r_1 = 1 := hw_3
  refine lv_istore (lv' := [(4, .int 1), (0, .ref (h 3)), (1, .int (nI k0)), (2, .int 0), (3, .int 1)]) hx hb dX3_weigh_5 hl (by decide) rfl (fun ls hl => ?_)
  refine lv_iload_n hx hb dX3_weigh_7 rfl (lv_at hl 3 rfl) ?_
  refine lv_aload_n hx hb dX3_weigh_8 rfl (lv_at hl 1 rfl) ?_
  refine va_get (D := (dC, dI)) (ci := 3) (v := .ref (h 27)) (C := RX3) (T := TX3) (N := 14) hx hb hts hin_X3 hown hK hP 3 rfl rfl 10 (by decide) hw0 (fun _ h9 => h9) rfl dX3_weigh_9 ?_
  refine lv_iload_n hx hb dX3_weigh_12 rfl (lv_at hl 2 rfl) ?_
  refine va_iald hx hb hK hP 27 0 rfl rfl (vp_in_nI (n := k0) (N := 24) (by omega) (by decide)) dX3_weigh_13 ?_
  refine lv_topi (fun x_4 ex_4 => ?_)
  obtain rfl : x_4 = 0 := ex_4.trans ((congrArg (F 27) (nI_clamp (n := k0) (by omega))).trans hU)
  refine cw_Si (As := [.int 0, .int 0]) (rest := []) (c_X3_filled l dC dI cI cZ cJ (wC cI cZ h F V) 0 0 (by omega)) fx (va_cwS 2 hts gX3_weigh_X3_filled rfl rfl rfl (by decide +kernel) ⟨Nat.le_of_ble_eq_true rfl, Nat.le_of_ble_eq_true rfl⟩) hK hP hD hS hA rfl hl.1 rfl (Nat.le_of_ble_eq_true rfl) dX3_weigh_14 ⟨Nat.le_of_ble_eq_true rfl, Nat.le_of_ble_eq_true rfl⟩ (fun r_5 u_6 H locs hw_7 hP hD hS => ?_)
  have hP : va_P (dC, dI) vwCl (wC cI cZ h F V) H := hP
  have hD : va_D A (wC cI cZ h F V) := hD
  obtain rfl : r_5 = 0 := hw_7
  refine lv_istore (lv' := [(5, .int 0), (4, .int 1), (0, .ref (h 3)), (1, .int (nI k0)), (2, .int 0), (3, .int 1)]) hx hb dX3_weigh_17 hl (by decide) rfl (fun ls hl => ?_)
  refine lv_iload_n hx hb dX3_weigh_19 rfl (lv_at hl 5 rfl) ?_
  refine cw_Si (As := [.int 1]) (rest := []) (c_X3_needed l dC dI cI cZ cJ (wC cI cZ h F V) 1) fx (va_cwS 1 hts gX3_weigh_X3_needed rfl rfl rfl (by decide +kernel) ⟨Nat.le_of_ble_eq_true rfl, Nat.le_of_ble_eq_true rfl⟩) hK hP hD hS hA rfl hl.1 rfl (Nat.le_of_ble_eq_true rfl) dX3_weigh_20 ⟨Nat.le_of_ble_eq_true rfl, Nat.le_of_ble_eq_true rfl⟩ (fun r_8 u_9 H locs hw_10 hP hD hS => ?_)
  have hP : va_P (dC, dI) vwCl (wC cI cZ h F V) H := hP
  have hD : va_D A (wC cI cZ h F V) := hD
  obtain rfl : r_8 = 5 := Eq.trans hw_10 (by decide)
  refine lv_istore (lv' := [(6, .int 5), (5, .int 0), (4, .int 1), (0, .ref (h 3)), (1, .int (nI k0)), (2, .int 0), (3, .int 1)]) hx hb dX3_weigh_23 hl (by decide) rfl (fun ls hl => ?_)
  refine lv_aload_n hx hb dX3_weigh_25 rfl (lv_at hl 3 rfl) ?_
  refine va_get (D := (dC, dI)) (ci := 3) (v := .ref (h 24)) (C := RX3) (T := TX3) (N := 14) hx hb hts hin_X3 hown hK hP 3 rfl rfl 7 (by decide) hw2 (fun _ h9 => h9) rfl dX3_weigh_26 ?_
  refine lv_iload hx hb dX3_weigh_29 (lv_at hl 2 rfl) ?_
  refine lv_aload_n hx hb dX3_weigh_31 rfl (lv_at hl 3 rfl) ?_
  refine va_get (D := (dC, dI)) (ci := 3) (v := .ref (h 25)) (C := RX3) (T := TX3) (N := 14) hx hb hts hin_X3 hown hK hP 3 rfl rfl 8 (by decide) hw3 (fun _ h9 => h9) rfl dX3_weigh_32 ?_
  refine lv_iload hx hb dX3_weigh_35 (lv_at hl 1 rfl) ?_
  refine lv_iconst (v := 0) hx hb dX3_weigh_37 (by decide) ?_
  refine cw_Si (As := [.int 0, .int 0]) (rest := [.ref (h 25), .int 1, .ref (h 24)]) (c_X3_stateOf0 l dC dI cI cZ cJ (wC cI cZ h F V) 0) fx (va_cwS 2 hts gX3_weigh_X3_stateOf rfl rfl rfl (by decide +kernel) ⟨Nat.le_of_ble_eq_true rfl, Nat.le_of_ble_eq_true rfl⟩) hK hP hD hS hA rfl hl.1 rfl (Nat.le_of_ble_eq_true rfl) dX3_weigh_38 ⟨Nat.le_of_ble_eq_true rfl, Nat.le_of_ble_eq_true rfl⟩ (fun r_11 u_12 H locs hw_13 hP hD hS => ?_)
  have hP : va_P (dC, dI) vwCl (wC cI cZ h F V) H := hP
  have hD : va_D A (wC cI cZ h F V) := hD
  obtain rfl : r_11 = 0 := hw_13
  refine va_iald hx hb hK hP 25 0 rfl rfl (vp_in_nI (n := 0) (N := 402) (by decide) (by decide)) dX3_weigh_41 ?_
  refine lv_topi (fun x_14 ex_14 => ?_)
  refine va_iast hx hb hK hP hD hS 24 0 rfl rfl (vp_in_nI (n := 1) (N := 402) (by decide) (by decide)) dX3_weigh_42 (fun H locs hP hD hS => ?_)
  obtain ⟨F_15, eF_15⟩ : ∃ z : Nat → Nat → Int32, z = va_up F 24 (upd (F 24) (1 : Int32).toNatClampNeg x_14) := ⟨_, rfl⟩
  have hP : va_P (dC, dI) vwCl (wC cI cZ h F_15 V) H := by rw [eF_15]; exact hP
  have hD : va_D A (wC cI cZ h F_15 V) := by rw [eF_15]; exact hD
  have hE_16 : F_15 27 k0 = 0 := by rw [eF_15]; exact hU
  refine lv_iload hx hb dX3_weigh_43 (lv_at hl 1 rfl) ?_
  refine lv_iload hx hb dX3_weigh_45 (lv_at hl 0 rfl) ?_
  refine lv_icmp_lt (tgt := 106) hx hb dX3_weigh_47 (by decide) (fun c_17 => ?_) (fun c_17 => ?_)
  · exact hret F_15 H locs 106 ls dX3_weigh_106 (⟨by rw [eF_15]; rfl, fun j hj => by rw [eF_15]; simp [va_up, hj]⟩) (hP) (hD) hS
  · exact absurd c_17 (by decide)
def rm_X3_weighHour : Room := { frames := 3, cells := 0, slots := 0, locals := 61 }
set_option maxHeartbeats 4000000 in
set_option maxRecDepth 100000 in
theorem c_X3_weighHour (l : Launch) (dC : Nat → ClassId) (dI : Nat → Nat → Nat) (cI cZ cJ : ClassId) (h : Nat → Nat) (F : Nat → Nat → Int32) (V : Nat → Int32) (k0 : Nat) (hk0 : k0 < 24) (hU : F 27 k0 = 0) (hM : F 28 k0 = 0)  : CtV l (dC, dI) vwCl (tys3 cI cZ cJ) yX3_weighHour wsX3_weighHour rm_X3_weighHour [.ref (h 3), .int (nI k0)] (wC cI cZ h F V) (S := Nat → Nat → Int32) (fun u => u 24 0 = F 25 0 ∧ ∀ j, j ≠ 24 → u j = F j) (fun u => wC cI cZ h u V) 0 0 := by
  refine ct_V (cc := cX3_weighHour) (maxL := 3) (own := RX3) (by decide) rfl rfl (Nat.le_of_ble_eq_true rfl) (lv := [(0, .ref (h 3)), (1, .int (nI k0))]) rfl ?_
  intro p e s m args below meth c A Q ls hnm fx hK hP hD hA hl hret
  obtain ⟨hx, hb, hml, hown, hts⟩ := id fx
  have hS : va_S A s.heap s.heap [] := va_S.rf
  have hw0 := hts (.fieldLink RX3 41 "MirrorTower$Store" "mostHeld" "[I") (by decide +kernel)
  have hin_X3 : ∀ w ∈ u_ws RX3 TX3 14, w ∈ wsX3_weighHour := by decide +kernel
  obtain ⟨H, hH⟩ : ∃ H, H = s.heap := ⟨_, rfl⟩
  rw [← hH] at hP ⊢
  have hS : va_S A s.heap H [] := by rw [hH]; exact hS
  generalize ([] : List Loc) = locs at hS ⊢
  refine lv_iconst (v := 0) hx hb dX3_weighHour_0 (by decide) ?_
  refine lv_istore_n (lv' := [(2, .int 0), (0, .ref (h 3)), (1, .int (nI k0))]) hx hb dX3_weighHour_1 rfl hl (by decide) rfl (fun ls hl => ?_)
  refine lv_iload_n hx hb dX3_weighHour_2 rfl (lv_at hl 0 rfl) ?_
  refine lv_aload_n hx hb dX3_weighHour_3 rfl (lv_at hl 1 rfl) ?_
  refine va_get (D := (dC, dI)) (ci := 3) (v := .ref (h 28)) (C := RX3) (T := TX3) (N := 14) hx hb hts hin_X3 hown hK hP 3 rfl rfl 11 (by decide) hw0 (fun _ h9 => h9) rfl dX3_weighHour_4 ?_
  refine lv_iload_n hx hb dX3_weighHour_7 rfl (lv_at hl 2 rfl) ?_
  refine va_iald hx hb hK hP 28 0 rfl rfl (vp_in_nI (n := k0) (N := 24) (by omega) (by decide)) dX3_weighHour_8 ?_
  refine lv_topi (fun x_1 ex_1 => ?_)
  obtain rfl : x_1 = 0 := ex_1.trans ((congrArg (F 28) (nI_clamp (n := k0) (by omega))).trans hM)
  refine lv_icmp_gt (tgt := 32) hx hb dX3_weighHour_9 (by decide) (fun c_2 => ?_) (fun c_2 => ?_)
  · exact absurd c_2 (by decide)
  · refine lv_aload_n hx hb dX3_weighHour_12 rfl (lv_at hl 1 rfl) ?_
    refine lv_iload_n hx hb dX3_weighHour_13 rfl (lv_at hl 2 rfl) ?_
    refine lv_iload_n hx hb dX3_weighHour_14 rfl (lv_at hl 0 rfl) ?_
    refine lv_iconst (v := 0) hx hb dX3_weighHour_15 (by decide) ?_
    refine cw_Vv (As := [.int (nI k0), .int 0, .int 0]) (rest := []) (c_X3_weigh0 l dC dI cI cZ cJ h F V k0 (by omega) hU) fx (cwV 3 hts gX3_weighHour_X3_weigh rfl rfl rfl (by decide +kernel) ⟨Nat.le_of_ble_eq_true rfl, Nat.le_of_ble_eq_true rfl⟩) hK hP hD hS hA 3 rfl rfl rfl rfl hl.1 rfl (Nat.le_of_ble_eq_true rfl) dX3_weighHour_16 ⟨Nat.le_of_ble_eq_true rfl, Nat.le_of_ble_eq_true rfl⟩ (fun u_4 H locs hw_5 hP hD hS => ?_)
    obtain ⟨F_6, rfl⟩ : ∃ z, z = u_4 := ⟨_, rfl⟩
    have hP : va_P (dC, dI) vwCl (wC cI cZ h F_6 V) H := hP
    have hD : va_D A (wC cI cZ h F_6 V) := hD
    have hE_7 : F_6 27 k0 = 0 := by rw [hw_5.2 27 (by decide)]; exact hU
    have hE_8 : F_6 28 k0 = 0 := by rw [hw_5.2 28 (by decide)]; exact hM
    refine lv_aload_n hx hb dX3_weighHour_19 rfl (lv_at hl 1 rfl) ?_
    refine lv_iload_n hx hb dX3_weighHour_20 rfl (lv_at hl 2 rfl) ?_
    refine lv_iload_n hx hb dX3_weighHour_21 rfl (lv_at hl 0 rfl) ?_
    refine lv_iconst (v := 1) hx hb dX3_weighHour_22 (by decide) ?_
    refine cw_Vv (As := [.int (nI k0), .int 0, .int 1]) (rest := []) (c_X3_weigh1 l dC dI cI cZ cJ h F_6 V k0 (by omega) hE_7) fx (cwV 3 hts gX3_weighHour_X3_weigh rfl rfl rfl (by decide +kernel) ⟨Nat.le_of_ble_eq_true rfl, Nat.le_of_ble_eq_true rfl⟩) hK hP hD hS hA 3 rfl rfl rfl rfl hl.1 rfl (Nat.le_of_ble_eq_true rfl) dX3_weighHour_23 ⟨Nat.le_of_ble_eq_true rfl, Nat.le_of_ble_eq_true rfl⟩ (fun u_10 H locs hw_11 hP hD hS => ?_)
    obtain ⟨F_12, rfl⟩ : ∃ z, z = u_10 := ⟨_, rfl⟩
    have hP : va_P (dC, dI) vwCl (wC cI cZ h F_12 V) H := hP
    have hD : va_D A (wC cI cZ h F_12 V) := hD
    have hE_13 : F_12 27 k0 = 0 := by rw [hw_11.2 27 (by decide)]; exact hE_7
    have hE_14 : F_12 28 k0 = 0 := by rw [hw_11.2 28 (by decide)]; exact hE_8
    refine lv_iinc (v := 1) (lv' := [(2, .int 1), (0, .ref (h 3)), (1, .int (nI k0))]) hx hb dX3_weighHour_26 hl (k := 0) rfl (by decide) (by decide) rfl (fun ls hl => ?_)
    refine lv_goto (tgt := 2) hx hb dX3_weighHour_29 (by decide) ?_
    refine lv_iload_n hx hb dX3_weighHour_2 rfl (lv_at hl 0 rfl) ?_
    refine lv_aload_n hx hb dX3_weighHour_3 rfl (lv_at hl 1 rfl) ?_
    refine va_get (D := (dC, dI)) (ci := 3) (v := .ref (h 28)) (C := RX3) (T := TX3) (N := 14) hx hb hts hin_X3 hown hK hP 3 rfl rfl 11 (by decide) hw0 (fun _ h9 => h9) rfl dX3_weighHour_4 ?_
    refine lv_iload_n hx hb dX3_weighHour_7 rfl (lv_at hl 2 rfl) ?_
    refine va_iald hx hb hK hP 28 0 rfl rfl (vp_in_nI (n := k0) (N := 24) (by omega) (by decide)) dX3_weighHour_8 ?_
    refine lv_topi (fun x_15 ex_15 => ?_)
    obtain rfl : x_15 = 0 := ex_15.trans ((congrArg (F_12 28) (nI_clamp (n := k0) (by omega))).trans hE_14)
    refine lv_icmp_gt (tgt := 32) hx hb dX3_weighHour_9 (by decide) (fun c_16 => ?_) (fun c_16 => ?_)
    · exact hret F_12 H locs 32 ls dX3_weighHour_32 (⟨hw_11.1.trans hw_5.1, fun j hj => (hw_11.2 j hj).trans (hw_5.2 j hj)⟩) (hP) (hD) hS
    · exact absurd c_16 (by decide)
def rm_X3_lookAhead : Room := { frames := 3, cells := 0, slots := 0, locals := 69 }
set_option maxHeartbeats 4000000 in
set_option maxRecDepth 100000 in
theorem c_X3_lookAhead (l : Launch) (dC : Nat → ClassId) (dI : Nat → Nat → Nat) (cI cZ cJ : ClassId) (h : Nat → Nat) (F : Nat → Nat → Int32) (V : Nat → Int32)  (hV1 : V 1 = 0) (hV4 : V 4 = 0) (hV5 : V 5 = 0) : CtV l (dC, dI) vwCl (tys3 cI cZ cJ) yX3_lookAhead wsX3_lookAhead rm_X3_lookAhead [.ref (h 3)] (wC cI cZ h F V) (S := Nat → Nat → Int32) (fun u => ∀ i, i < 24 → u 27 i = 0 ∧ u 28 i = 0) (fun u => wC cI cZ h u V) 0 0 := by
  refine ct_V (cc := cX3_lookAhead) (maxL := 3) (own := RX3) (by decide) rfl rfl (Nat.le_of_ble_eq_true rfl) (lv := [(0, .ref (h 3))]) rfl ?_
  intro p e s m args below meth c A Q ls hnm fx hK hP hD hA hl hret
  obtain ⟨hx, hb, hml, hown, hts⟩ := id fx
  have hS : va_S A s.heap s.heap [] := va_S.rf
  have hw0 := hts (.fieldLink RX3 51 "MirrorTower$Store" "units" "I") (by decide +kernel)
  have hin_X3 : ∀ w ∈ u_ws RX3 TX3 14, w ∈ wsX3_lookAhead := by decide +kernel
  have hw2 := hts (.fieldLink RX3 48 "MirrorTower$Store" "now" "I") (by decide +kernel)
  have hw3 := hts (.fieldLink RX3 41 "MirrorTower$Store" "mostHeld" "[I") (by decide +kernel)
  have hw4 := hts (.fieldLink RX3 38 "MirrorTower$Store" "unitsIn" "[I") (by decide +kernel)
  have hw5 := hts (.fieldLink RX3 15 "MirrorTower$Store" "cells" "LMirrorTower$Face;") (by decide +kernel)
  obtain ⟨H, hH⟩ : ∃ H, H = s.heap := ⟨_, rfl⟩
  rw [← hH] at hP ⊢
  have hS : va_S A s.heap H [] := by rw [hH]; exact hS
  generalize ([] : List Loc) = locs at hS ⊢
  refine lv_aload_n hx hb dX3_lookAhead_0 rfl (lv_at hl 0 rfl) ?_
  refine va_get (D := (dC, dI)) (ci := 3) (v := .int (V 5)) (C := RX3) (T := TX3) (N := 14) hx hb hts hin_X3 hown hK hP 3 rfl rfl 4 (by decide) hw0 (fun _ h9 => h9) rfl dX3_lookAhead_1 ?_
  refine lv_topi (fun x_1 ex_1 => ?_)
  obtain rfl : x_1 = 0 := ex_1.trans (hV5)
  refine lv_istore_n (lv' := [(1, .int 0), (0, .ref (h 3))]) hx hb dX3_lookAhead_4 rfl hl (by decide) rfl (fun ls hl => ?_)
  refine lv_aload_n hx hb dX3_lookAhead_5 rfl (lv_at hl 1 rfl) ?_
  refine va_get (D := (dC, dI)) (ci := 3) (v := .int (V 4)) (C := RX3) (T := TX3) (N := 14) hx hb hts hin_X3 hown hK hP 3 rfl rfl 3 (by decide) hw2 (fun _ h9 => h9) rfl dX3_lookAhead_6 ?_
  refine lv_topi (fun x_2 ex_2 => ?_)
  obtain rfl : x_2 = 0 := ex_2.trans (hV4)
  refine lv_istore_n (lv' := [(2, .int 0), (1, .int 0), (0, .ref (h 3))]) hx hb dX3_lookAhead_9 rfl hl (by decide) rfl (fun ls hl => ?_)
  have loop10 : ∀ (n : Nat) (k : Nat) (F1 : Nat → Nat → Int32), (k ≤ 24) → (∀ i, i < k → F1 27 i = 0 ∧ F1 28 i = 0) → (24 - k) < n → ∀ (H : Heap) (locs : List Loc) (ls : Array Slot), va_P (dC, dI) vwCl (wC cI cZ h F1 V) H → va_D A (wC cI cZ h F1 V) → va_S A s.heap H locs → lv_has ls 3 [(0, .ref (h 3)), (1, .int 0), (2, .int (nI k))] → W p l e rm_X3_lookAhead s m args below meth c H locs 0 0 Q (F0 m 10 ls []) := by
    intro n
    induction n with
    | zero => intro k F1 hk hq hn_; exact absurd hn_ (Nat.not_lt_zero _)
    | succ n ih10 =>
      intro k F1 hk hq hn_ H locs ls hP hD hS hl
      refine lv_iload_n hx hb dX3_lookAhead_10 rfl (lv_at hl 2 rfl) ?_
      refine lv_bipush (v := 24) hx hb dX3_lookAhead_11 (by decide) ?_
      refine lv_icmp_ge (tgt := 63) hx hb dX3_lookAhead_13 (by decide) (fun c_3 => ?_) (fun c_3 => ?_)
      · have c_3 : 24 ≤ k := (nI_leI (a := 24) (b := k) (by omega) (by omega)).mp c_3
        exact hret F1 H locs 63 ls dX3_lookAhead_63 (fun i hi => hq i (by omega)) (hP) (hD) hS
      · have c_3 : ¬ 24 ≤ k := fun h => c_3 ((nI_leI (a := 24) (b := k) (by omega) (by omega)).mpr h)
        refine lv_aload_n hx hb dX3_lookAhead_16 rfl (lv_at hl 0 rfl) ?_
        refine va_get (D := (dC, dI)) (ci := 3) (v := .ref (h 28)) (C := RX3) (T := TX3) (N := 14) hx hb hts hin_X3 hown hK hP 3 rfl rfl 11 (by decide) hw3 (fun _ h9 => h9) rfl dX3_lookAhead_17 ?_
        refine lv_iload_n hx hb dX3_lookAhead_20 rfl (lv_at hl 2 rfl) ?_
        refine lv_iload_n hx hb dX3_lookAhead_21 rfl (lv_at hl 1 rfl) ?_
        refine va_iast hx hb hK hP hD hS 28 0 rfl rfl (vp_in_nI (n := k) (N := 24) (by omega) (by decide)) dX3_lookAhead_22 (fun H locs hP hD hS => ?_)
        obtain ⟨F_4, eF_4⟩ : ∃ z : Nat → Nat → Int32, z = va_up F1 28 (upd (F1 28) (nI k).toNatClampNeg 0) := ⟨_, rfl⟩
        have hP : va_P (dC, dI) vwCl (wC cI cZ h F_4 V) H := by rw [eF_4]; exact hP
        have hD : va_D A (wC cI cZ h F_4 V) := by rw [eF_4]; exact hD
        have hE_5 : F_4 28 k = 0 := by rw [eF_4]; show upd _ (nI k).toNatClampNeg _ _ = _; rw [nI_clamp (by omega)]; exact pk_us
        refine lv_aload_n hx hb dX3_lookAhead_23 rfl (lv_at hl 0 rfl) ?_
        refine va_get (D := (dC, dI)) (ci := 3) (v := .ref (h 27)) (C := RX3) (T := TX3) (N := 14) hx hb hts hin_X3 hown hK hP 3 rfl rfl 10 (by decide) hw4 (fun _ h9 => h9) rfl dX3_lookAhead_24 ?_
        refine lv_iload_n hx hb dX3_lookAhead_27 rfl (lv_at hl 2 rfl) ?_
        refine lv_aload_n hx hb dX3_lookAhead_28 rfl (lv_at hl 0 rfl) ?_
        refine va_get (D := (dC, dI)) (ci := 3) (v := .ref (h 2)) (C := RX3) (T := TX3) (N := 14) hx hb hts hin_X3 hown hK hP 3 rfl rfl 1 (by decide) hw5 (fun _ h9 => h9) rfl dX3_lookAhead_29 ?_
        refine lv_iload_n hx hb dX3_lookAhead_32 rfl (lv_at hl 2 rfl) ?_
        refine lv_iload_n hx hb dX3_lookAhead_33 rfl (lv_at hl 2 rfl) ?_
        refine lv_aload_n hx hb dX3_lookAhead_34 rfl (lv_at hl 0 rfl) ?_
        refine va_get (D := (dC, dI)) (ci := 3) (v := .int (V 4)) (C := RX3) (T := TX3) (N := 14) hx hb hts hin_X3 hown hK hP 3 rfl rfl 3 (by decide) hw2 (fun _ h9 => h9) rfl dX3_lookAhead_35 ?_
        refine lv_topi (fun x_6 ex_6 => ?_)
        obtain rfl : x_6 = 0 := ex_6.trans (hV4)
        refine lv_isub hx hb dX3_lookAhead_38 ?_
        refine lv_topi (fun x_7 ex_7 => ?_)
        obtain rfl : x_7 = nI (k - 0) := ex_7.trans (pk_sub (a := k) (b := 0) (by omega))
        refine cw_Vi (As := [.int (nI k), .int (nI (k - 0))]) (rest := [.int (nI k), .ref (h 27)]) (c_X0_aimAll l dC dI cI cZ cJ h F_4 V (nI k) (nI (k - 0)) hV1) fx (cwV 2 hts gX3_lookAhead_X0_aimAll rfl rfl rfl (by decide +kernel) ⟨Nat.le_of_ble_eq_true rfl, Nat.le_of_ble_eq_true rfl⟩) hK hP hD hS hA 2 rfl rfl rfl rfl hl.1 rfl (Nat.le_of_ble_eq_true rfl) dX3_lookAhead_39 ⟨Nat.le_of_ble_eq_true rfl, Nat.le_of_ble_eq_true rfl⟩ (fun r_8 u_9 H locs hw_10 hP hD hS => ?_)
        obtain ⟨F_11, rfl⟩ : ∃ z, z = u_9 := ⟨_, rfl⟩
        have hP : va_P (dC, dI) vwCl (wC cI cZ h F_11 V) H := hP
        have hD : va_D A (wC cI cZ h F_11 V) := hD
        have hE_12 : F_11 28 k = 0 := by rw [hw_10.2 28 (by decide)]; exact hE_5
        obtain rfl : r_8 = 0 := hw_10.1
        refine lv_bipush (v := 100) hx hb dX3_lookAhead_42 (by decide) ?_
        refine lv_idiv hx hb dX3_lookAhead_44 (by decide) ?_
        refine lv_topi (fun x_13 ex_13 => ?_)
        obtain rfl : x_13 = 0 := ex_13.trans (by decide)
        refine va_iast hx hb hK hP hD hS 27 0 rfl rfl (vp_in_nI (n := k) (N := 24) (by omega) (by decide)) dX3_lookAhead_45 (fun H locs hP hD hS => ?_)
        obtain ⟨F_14, eF_14⟩ : ∃ z : Nat → Nat → Int32, z = va_up F_11 27 (upd (F_11 27) (nI k).toNatClampNeg 0) := ⟨_, rfl⟩
        have hP : va_P (dC, dI) vwCl (wC cI cZ h F_14 V) H := by rw [eF_14]; exact hP
        have hD : va_D A (wC cI cZ h F_14 V) := by rw [eF_14]; exact hD
        have hE_15 : F_14 28 k = 0 := by rw [eF_14]; exact hE_12
        have hE_16 : F_14 27 k = 0 := by rw [eF_14]; show upd _ (nI k).toNatClampNeg _ _ = _; rw [nI_clamp (by omega)]; exact pk_us
        refine lv_iload_n hx hb dX3_lookAhead_46 rfl (lv_at hl 1 rfl) ?_
        refine lv_aload_n hx hb dX3_lookAhead_47 rfl (lv_at hl 0 rfl) ?_
        refine va_get (D := (dC, dI)) (ci := 3) (v := .ref (h 27)) (C := RX3) (T := TX3) (N := 14) hx hb hts hin_X3 hown hK hP 3 rfl rfl 10 (by decide) hw4 (fun _ h9 => h9) rfl dX3_lookAhead_48 ?_
        refine lv_iload_n hx hb dX3_lookAhead_51 rfl (lv_at hl 2 rfl) ?_
        refine va_iald hx hb hK hP 27 0 rfl rfl (vp_in_nI (n := k) (N := 24) (by omega) (by decide)) dX3_lookAhead_52 ?_
        refine lv_topi (fun x_17 ex_17 => ?_)
        obtain rfl : x_17 = 0 := ex_17.trans ((congrArg (F_14 27) (nI_clamp (n := k) (by omega))).trans hE_16)
        refine cw_Si (As := [.int 0, .int 0]) (rest := []) (c_X3_filled l dC dI cI cZ cJ (wC cI cZ h F_14 V) 0 0 (by omega)) fx (va_cwS 2 hts gX3_lookAhead_X3_filled rfl rfl rfl (by decide +kernel) ⟨Nat.le_of_ble_eq_true rfl, Nat.le_of_ble_eq_true rfl⟩) hK hP hD hS hA rfl hl.1 rfl (Nat.le_of_ble_eq_true rfl) dX3_lookAhead_53 ⟨Nat.le_of_ble_eq_true rfl, Nat.le_of_ble_eq_true rfl⟩ (fun r_18 u_19 H locs hw_20 hP hD hS => ?_)
        have hP : va_P (dC, dI) vwCl (wC cI cZ h F_14 V) H := hP
        have hD : va_D A (wC cI cZ h F_14 V) := hD
        obtain rfl : r_18 = 0 := hw_20
        refine lv_istore_n (lv' := [(1, .int 0), (0, .ref (h 3)), (2, .int (nI k))]) hx hb dX3_lookAhead_56 rfl hl (by decide) rfl (fun ls hl => ?_)
        refine lv_iinc (v := nI (k + 1)) (lv' := [(2, .int (nI (k + 1))), (1, .int 0), (0, .ref (h 3))]) hx hb dX3_lookAhead_57 hl (k := 2) rfl (nI_1 _) (by decide) rfl (fun ls hl => ?_)
        refine lv_goto (tgt := 10) hx hb dX3_lookAhead_60 (by decide) ?_
        have hb_21 : ∀ i, i < k + 1 → F_14 27 i = 0 ∧ F_14 28 i = 0 := fun i hi => by
          have q27 : F_11 27 = F1 27 := by rw [hw_10.2 27 (by decide), eF_4]; rfl
          have q28 : F_11 28 = upd (F1 28) (nI k).toNatClampNeg 0 := by rw [hw_10.2 28 (by decide), eF_4]; rfl
          rw [nI_clamp (by omega)] at q28
          rw [eF_14]
          refine ⟨?_, ?_⟩
          · show upd (F_11 27) (nI k).toNatClampNeg 0 i = 0
            rw [nI_clamp (by omega), q27]
            by_cases h : i = k
            · rw [h]; exact pk_us
            · rw [pk_un h]; exact (hq i (by omega)).1
          · show F_11 28 i = 0
            rw [q28]
            by_cases h : i = k
            · rw [h]; exact pk_us
            · rw [pk_un h]; exact (hq i (by omega)).2
        exact ih10 (k + 1) F_14 (by omega) hb_21 (by omega) H locs ls hP hD hS (lv_sub hl [2, 1, 0] rfl)
  exact loop10 _ 0 F (by omega) (fun i hi => absurd hi (Nat.not_lt_zero i)) (Nat.lt_succ_self _) H locs ls hP hD hS (lv_sub hl [2, 1, 0] rfl)
def rm_X3_followChoices : Room := { frames := 2, cells := 0, slots := 0, locals := 34 }
set_option maxHeartbeats 4000000 in
set_option maxRecDepth 100000 in
theorem c_X3_followChoices (l : Launch) (dC : Nat → ClassId) (dI : Nat → Nat → Nat) (cI cZ cJ : ClassId) (h : Nat → Nat) (F : Nat → Nat → Int32) (V : Nat → Int32)  (hV4 : V 4 = 0) (hV5 : V 5 = 0) (hV6 : V 6 = 0) (hF26 : ∀ i, i < 402 → F 26 i = 0)  (hF27 : ∀ i, i < 24 → F 27 i = 0) : CtV l (dC, dI) vwCl (tys3 cI cZ cJ) yX3_followChoices wsX3_followChoices rm_X3_followChoices [.ref (h 3)] (wC cI cZ h F V) (S := Unit) (fun _ => True) (fun _ => wC cI cZ h F (va_up (va_up V 8 0) 9 0)) 0 0 := by
  refine ct_V (cc := cX3_followChoices) (maxL := 5) (own := RX3) (by decide) rfl rfl (Nat.le_of_ble_eq_true rfl) (lv := [(0, .ref (h 3))]) rfl ?_
  intro p e s m args below meth c A Q ls hnm fx hK hP hD hA hl hret
  obtain ⟨hx, hb, hml, hown, hts⟩ := id fx
  have hS : va_S A s.heap s.heap [] := va_S.rf
  have hw0 := hts (.fieldLink RX3 88 "MirrorTower$Store" "planned" "I") (by decide +kernel)
  have hin_X3 : ∀ w ∈ u_ws RX3 TX3 14, w ∈ wsX3_followChoices := by decide +kernel
  have hw2 := hts (.fieldLink RX3 48 "MirrorTower$Store" "now" "I") (by decide +kernel)
  have hw3 := hts (.fieldLink RX3 44 "MirrorTower$Store" "plannedFrom" "I") (by decide +kernel)
  have hw4 := hts (.fieldLink RX3 51 "MirrorTower$Store" "units" "I") (by decide +kernel)
  have hw5 := hts (.fieldLink RX3 54 "MirrorTower$Store" "warm" "Z") (by decide +kernel)
  have hw6 := hts (.fieldLink RX3 35 "MirrorTower$Store" "choices" "[I") (by decide +kernel)
  have hw7 := hts (.fieldLink RX3 38 "MirrorTower$Store" "unitsIn" "[I") (by decide +kernel)
  obtain ⟨H, hH⟩ : ∃ H, H = s.heap := ⟨_, rfl⟩
  rw [← hH] at hP ⊢
  have hS : va_S A s.heap H [] := by rw [hH]; exact hS
  generalize ([] : List Loc) = locs at hS ⊢
  refine lv_aload_n hx hb dX3_followChoices_0 rfl (lv_at hl 0 rfl) ?_
  refine lv_iconst (v := 0) hx hb dX3_followChoices_1 (by decide) ?_
  refine va_put (D := (dC, dI)) (ci := 3) (v := .int 0) (ty := .int) (C := RX3) (T := TX3) (N := 14) hx hb hts hin_X3 tyX3 tyX3_ok nmX3 hown hK hP hD hS 3 rfl rfl 12 (by decide) hw0 (fun _ h9 => h9) rfl (by decide +kernel) rfl rfl (Nat.le_of_ble_eq_true rfl) dX3_followChoices_2 (fun H locs hP hD hS => ?_)
  have hP : va_P (dC, dI) vwCl (wC cI cZ h F (va_up V 8 0)) H := hP
  have hD : va_D A (wC cI cZ h F (va_up V 8 0)) := hD
  refine lv_aload_n hx hb dX3_followChoices_5 rfl (lv_at hl 0 rfl) ?_
  refine lv_aload_n hx hb dX3_followChoices_6 rfl (lv_at hl 0 rfl) ?_
  refine va_get (D := (dC, dI)) (ci := 3) (v := .int (V 4)) (C := RX3) (T := TX3) (N := 14) hx hb hts hin_X3 hown hK hP 3 rfl rfl 3 (by decide) hw2 (fun _ h9 => h9) rfl dX3_followChoices_7 ?_
  refine lv_topi (fun x_1 ex_1 => ?_)
  obtain rfl : x_1 = 0 := ex_1.trans (hV4)
  refine va_put (D := (dC, dI)) (ci := 3) (v := .int 0) (ty := .int) (C := RX3) (T := TX3) (N := 14) hx hb hts hin_X3 tyX3 tyX3_ok nmX3 hown hK hP hD hS 3 rfl rfl 13 (by decide) hw3 (fun _ h9 => h9) rfl (by decide +kernel) rfl rfl (Nat.le_of_ble_eq_true rfl) dX3_followChoices_10 (fun H locs hP hD hS => ?_)
  have hP : va_P (dC, dI) vwCl (wC cI cZ h F (va_up (va_up V 8 0) 9 0)) H := hP
  have hD : va_D A (wC cI cZ h F (va_up (va_up V 8 0) 9 0)) := hD
  refine lv_aload_n hx hb dX3_followChoices_13 rfl (lv_at hl 0 rfl) ?_
  refine va_get (D := (dC, dI)) (ci := 3) (v := .int (V 5)) (C := RX3) (T := TX3) (N := 14) hx hb hts hin_X3 hown hK hP 3 rfl rfl 4 (by decide) hw4 (fun _ h9 => h9) rfl dX3_followChoices_14 ?_
  refine lv_topi (fun x_2 ex_2 => ?_)
  obtain rfl : x_2 = 0 := ex_2.trans (hV5)
  refine lv_istore_n (lv' := [(1, .int 0), (0, .ref (h 3))]) hx hb dX3_followChoices_17 rfl hl (by decide) rfl (fun ls hl => ?_)
  refine lv_aload_n hx hb dX3_followChoices_18 rfl (lv_at hl 1 rfl) ?_
  refine va_get (D := (dC, dI)) (ci := 3) (v := .int (V 6)) (C := RX3) (T := TX3) (N := 14) hx hb hts hin_X3 hown hK hP 3 rfl rfl 5 (by decide) hw5 (fun _ h9 => h9) rfl dX3_followChoices_19 ?_
  refine lv_topi (fun x_3 ex_3 => ?_)
  obtain rfl : x_3 = 0 := ex_3.trans (hV6)
  refine lv_istore_n (lv' := [(2, .int 0), (1, .int 0), (0, .ref (h 3))]) hx hb dX3_followChoices_22 rfl hl (by decide) rfl (fun ls hl => ?_)
  refine lv_aload_n hx hb dX3_followChoices_23 rfl (lv_at hl 2 rfl) ?_
  refine va_get (D := (dC, dI)) (ci := 3) (v := .int (V 4)) (C := RX3) (T := TX3) (N := 14) hx hb hts hin_X3 hown hK hP 3 rfl rfl 3 (by decide) hw2 (fun _ h9 => h9) rfl dX3_followChoices_24 ?_
  refine lv_topi (fun x_4 ex_4 => ?_)
  obtain rfl : x_4 = 0 := ex_4.trans (hV4)
  refine lv_istore_n (lv' := [(3, .int 0), (2, .int 0), (1, .int 0), (0, .ref (h 3))]) hx hb dX3_followChoices_27 rfl hl (by decide) rfl (fun ls hl => ?_)
  have loop28 : ∀ (n : Nat) (k : Nat), (k ≤ 24) → (24 - k) < n → ∀ (H : Heap) (locs : List Loc) (ls : Array Slot), va_P (dC, dI) vwCl (wC cI cZ h F (va_up (va_up V 8 0) 9 0)) H → va_D A (wC cI cZ h F (va_up (va_up V 8 0) 9 0)) → va_S A s.heap H locs → lv_has ls 5 [(0, .ref (h 3)), (1, .int 0), (2, .int 0), (3, .int (nI k))] → W p l e rm_X3_followChoices s m args below meth c H locs 0 0 Q (F0 m 28 ls []) := by
    intro n
    induction n with
    | zero => intro k hk hn_; exact absurd hn_ (Nat.not_lt_zero _)
    | succ n ih28 =>
      intro k hk hn_ H locs ls hP hD hS hl
      refine lv_iload_n hx hb dX3_followChoices_28 rfl (lv_at hl 3 rfl) ?_
      refine lv_bipush (v := 24) hx hb dX3_followChoices_29 (by decide) ?_
      refine lv_icmp_ge (tgt := 102) hx hb dX3_followChoices_31 (by decide) (fun c_5 => ?_) (fun c_5 => ?_)
      · have c_5 : 24 ≤ k := (nI_leI (a := 24) (b := k) (by omega) (by omega)).mp c_5
        exact hret () H locs 102 ls dX3_followChoices_102 (trivial) (hP) (hD) hS
      · have c_5 : ¬ 24 ≤ k := fun h => c_5 ((nI_leI (a := 24) (b := k) (by omega) (by omega)).mpr h)
        refine lv_aload_n hx hb dX3_followChoices_34 rfl (lv_at hl 0 rfl) ?_
        refine va_get (D := (dC, dI)) (ci := 3) (v := .ref (h 26)) (C := RX3) (T := TX3) (N := 14) hx hb hts hin_X3 hown hK hP 3 rfl rfl 9 (by decide) hw6 (fun _ h9 => h9) rfl dX3_followChoices_35 ?_
        refine lv_iload_n hx hb dX3_followChoices_38 rfl (lv_at hl 1 rfl) ?_
        refine lv_iload_n hx hb dX3_followChoices_39 rfl (lv_at hl 2 rfl) ?_
        refine cw_Si (As := [.int 0, .int 0]) (rest := [.ref (h 26)]) (c_X3_stateOf0 l dC dI cI cZ cJ (wC cI cZ h F (va_up (va_up V 8 0) 9 0)) 0) fx (va_cwS 2 hts gX3_followChoices_X3_stateOf rfl rfl rfl (by decide +kernel) ⟨Nat.le_of_ble_eq_true rfl, Nat.le_of_ble_eq_true rfl⟩) hK hP hD hS hA rfl hl.1 rfl (Nat.le_of_ble_eq_true rfl) dX3_followChoices_40 ⟨Nat.le_of_ble_eq_true rfl, Nat.le_of_ble_eq_true rfl⟩ (fun r_6 u_7 H locs hw_8 hP hD hS => ?_)
        have hP : va_P (dC, dI) vwCl (wC cI cZ h F (va_up (va_up V 8 0) 9 0)) H := hP
        have hD : va_D A (wC cI cZ h F (va_up (va_up V 8 0) 9 0)) := hD
        obtain rfl : r_6 = 0 := hw_8
        refine va_iald hx hb hK hP 26 0 rfl rfl (vp_in_nI (n := 0) (N := 402) (by decide) (by decide)) dX3_followChoices_43 ?_
        refine lv_topi (fun x_9 ex_9 => ?_)
        obtain rfl : x_9 = 0 := ex_9.trans ((congrArg (F 26) (show (0 : Int32).toNatClampNeg = 0 from nI_clamp (n := 0) (by omega))).trans (hF26 0 (by omega)))
        refine lv_iload_n hx hb dX3_followChoices_44 rfl (lv_at hl 3 rfl) ?_
        refine lv_ishr hx hb dX3_followChoices_45 ?_
        refine lv_topi (fun x_10 ex_10 => ?_)
        obtain rfl : x_10 = 0 := ex_10.trans (zshr _)
        refine lv_iconst (v := 1) hx hb dX3_followChoices_46 (by decide) ?_
        refine lv_iand hx hb dX3_followChoices_47 ?_
        refine lv_topi (fun x_11 ex_11 => ?_)
        obtain rfl : x_11 = 0 := ex_11.trans (by decide)
        refine lv_if_eq (tgt := 55) hx hb dX3_followChoices_48 (by decide) (fun c_12 => ?_) (fun c_12 => ?_)
        · refine lv_iconst (v := 0) hx hb dX3_followChoices_55 (by decide) ?_
          refine lv_istore (lv' := [(4, .int 0), (0, .ref (h 3)), (1, .int 0), (2, .int 0), (3, .int (nI k))]) hx hb dX3_followChoices_56 hl (by decide) rfl (fun ls hl => ?_)
          refine lv_iload_n hx hb dX3_followChoices_58 rfl (lv_at hl 2 rfl) ?_
          refine lv_aload_n hx hb dX3_followChoices_59 rfl (lv_at hl 1 rfl) ?_
          refine va_get (D := (dC, dI)) (ci := 3) (v := .ref (h 27)) (C := RX3) (T := TX3) (N := 14) hx hb hts hin_X3 hown hK hP 3 rfl rfl 10 (by decide) hw7 (fun _ h9 => h9) rfl dX3_followChoices_60 ?_
          refine lv_iload_n hx hb dX3_followChoices_63 rfl (lv_at hl 4 rfl) ?_
          refine va_iald hx hb hK hP 27 0 rfl rfl (vp_in_nI (n := k) (N := 24) (by omega) (by decide)) dX3_followChoices_64 ?_
          refine lv_topi (fun x_13 ex_13 => ?_)
          obtain rfl : x_13 = 0 := ex_13.trans ((congrArg (F 27) (show (nI k).toNatClampNeg = k from nI_clamp (n := k) (by omega))).trans (hF27 k (by omega)))
          refine cw_Si (As := [.int 0, .int 0]) (rest := []) (c_X3_filled l dC dI cI cZ cJ (wC cI cZ h F (va_up (va_up V 8 0) 9 0)) 0 0 (by omega)) fx (va_cwS 2 hts gX3_followChoices_X3_filled rfl rfl rfl (by decide +kernel) ⟨Nat.le_of_ble_eq_true rfl, Nat.le_of_ble_eq_true rfl⟩) hK hP hD hS hA rfl hl.1 rfl (Nat.le_of_ble_eq_true rfl) dX3_followChoices_65 ⟨Nat.le_of_ble_eq_true rfl, Nat.le_of_ble_eq_true rfl⟩ (fun r_14 u_15 H locs hw_16 hP hD hS => ?_)
          have hP : va_P (dC, dI) vwCl (wC cI cZ h F (va_up (va_up V 8 0) 9 0)) H := hP
          have hD : va_D A (wC cI cZ h F (va_up (va_up V 8 0) 9 0)) := hD
          obtain rfl : r_14 = 0 := hw_16
          refine lv_istore_n (lv' := [(1, .int 0), (4, .int 0), (0, .ref (h 3)), (2, .int 0), (3, .int (nI k))]) hx hb dX3_followChoices_68 rfl hl (by decide) rfl (fun ls hl => ?_)
          refine lv_iload hx hb dX3_followChoices_69 (lv_at hl 1 rfl) ?_
          refine lv_if_eq (tgt := 93) hx hb dX3_followChoices_71 (by decide) (fun c_17 => ?_) (fun c_17 => ?_)
          · refine lv_iload hx hb dX3_followChoices_93 (lv_at hl 1 rfl) ?_
            refine lv_istore_n (lv' := [(2, .int 0), (1, .int 0), (4, .int 0), (0, .ref (h 3)), (3, .int (nI k))]) hx hb dX3_followChoices_95 rfl hl (by decide) rfl (fun ls hl => ?_)
            refine lv_iinc (v := nI (k + 1)) (lv' := [(3, .int (nI (k + 1))), (2, .int 0), (1, .int 0), (4, .int 0), (0, .ref (h 3))]) hx hb dX3_followChoices_96 hl (k := 4) rfl (nI_1 _) (by decide) rfl (fun ls hl => ?_)
            refine lv_goto (tgt := 28) hx hb dX3_followChoices_99 (by decide) ?_
            exact ih28 (k + 1) (by omega) (by omega) H locs ls hP hD hS (lv_sub hl [4, 2, 1, 0] rfl)
          · exact absurd c_17 (by decide)
        · exact absurd c_12 (by decide)
  exact loop28 _ 0 (by omega) (Nat.lt_succ_self _) H locs ls hP hD hS (lv_sub hl [3, 2, 1, 0] rfl)
def rm_X3_layPlan : Room := { frames := 4, cells := 0, slots := 0, locals := 91 }
set_option maxHeartbeats 4000000 in
set_option maxRecDepth 100000 in
theorem c_X3_layPlan (l : Launch) (dC : Nat → ClassId) (dI : Nat → Nat → Nat) (cI cZ cJ : ClassId) (h : Nat → Nat) (F : Nat → Nat → Int32) (V : Nat → Int32)  (hV1 : V 1 = 0) (hV4 : V 4 = 0) (hV5 : V 5 = 0) (hV6 : V 6 = 0) : CtI l (dC, dI) vwCl (tys3 cI cZ cJ) yX3_layPlan wsX3_layPlan rm_X3_layPlan [.ref (h 3)] (wC cI cZ h F V) (S := Unit) (fun r _ => r = 0) (fun _ => []) 0 0 := by
  refine ct_I (cc := cX3_layPlan) (maxL := 3) (ty := .int) (own := RX3) (by decide) rfl rfl (Nat.le_of_ble_eq_true rfl) (lv := [(0, .ref (h 3))]) rfl ?_
  intro p e s m args below meth c A Q ls fx hK hP hD hA hl hret
  obtain ⟨hx, hb, hml, hown, hts⟩ := id fx
  have hS : va_S A s.heap s.heap [] := va_S.rf
  have hw0 := hts (.fieldLink RX3 29 "MirrorTower$Store" "gains" "[I") (by decide +kernel)
  have hin_X3 : ∀ w ∈ u_ws RX3 TX3 14, w ∈ wsX3_layPlan := by decide +kernel
  have hw2 := hts (.fieldLink RX3 35 "MirrorTower$Store" "choices" "[I") (by decide +kernel)
  have hw3 := hts (.fieldLink RX3 48 "MirrorTower$Store" "now" "I") (by decide +kernel)
  have hw4 := hts (.fieldLink RX3 51 "MirrorTower$Store" "units" "I") (by decide +kernel)
  have hw5 := hts (.fieldLink RX3 54 "MirrorTower$Store" "warm" "Z") (by decide +kernel)
  have hw6 := hts (.fieldLink RX3 32 "MirrorTower$Store" "laterGains" "[I") (by decide +kernel)
  obtain ⟨H, hH⟩ : ∃ H, H = s.heap := ⟨_, rfl⟩
  rw [← hH] at hP ⊢
  have hS : va_S A s.heap H [] := by rw [hH]; exact hS
  generalize ([] : List Loc) = locs at hS ⊢
  refine lv_aload_n hx hb dX3_layPlan_0 rfl (lv_at hl 0 rfl) ?_
  refine cw_Vv (As := []) (rest := []) (c_X3_lookAhead l dC dI cI cZ cJ h F V hV1 hV4 hV5) fx (cwV 0 hts gX3_layPlan_X3_lookAhead rfl rfl rfl (by decide +kernel) ⟨Nat.le_of_ble_eq_true rfl, Nat.le_of_ble_eq_true rfl⟩) hK hP hD hS hA 3 rfl rfl rfl rfl hl.1 rfl (Nat.le_of_ble_eq_true rfl) dX3_layPlan_1 ⟨Nat.le_of_ble_eq_true rfl, Nat.le_of_ble_eq_true rfl⟩ (fun u_2 H locs hw_3 hP hD hS => ?_)
  obtain ⟨F_4, rfl⟩ : ∃ z, z = u_2 := ⟨_, rfl⟩
  have hP : va_P (dC, dI) vwCl (wC cI cZ h F_4 V) H := hP
  have hD : va_D A (wC cI cZ h F_4 V) := hD
  have hF_5 : ∀ i, i < 24 → F_4 27 i = 0 := fun i hi => (hw_3 i hi).1
  have hF_6 : ∀ i, i < 24 → F_4 28 i = 0 := fun i hi => (hw_3 i hi).2
  refine lv_aload_n hx hb dX3_layPlan_4 rfl (lv_at hl 0 rfl) ?_
  refine va_get (D := (dC, dI)) (ci := 3) (v := .ref (h 24)) (C := RX3) (T := TX3) (N := 14) hx hb hts hin_X3 hown hK hP 3 rfl rfl 7 (by decide) hw0 (fun _ h9 => h9) rfl dX3_layPlan_5 ?_
  refine lv_iconst (v := 0) hx hb dX3_layPlan_8 (by decide) ?_
  refine cl_Sv (As := [.ref (h 24), .int 0]) (rest := []) (wr := (wC cI cZ h F_4 V).eraseIdx 24) (c_J7_fill l dC dI cI cZ cJ (h 24) 402 (F_4 24) 0 (by decide)) fx (va_cwS 2 hts gX3_layPlan_J7_fill_53178 rfl rfl rfl (by decide +kernel) ⟨Nat.le_of_ble_eq_true rfl, Nat.le_of_ble_eq_true rfl⟩) hK hP hD hS hA [24] [0, 1, 2, 3, 4, 5, 6, 7, 8, 9, 10, 11, 12, 13, 14, 15, 16, 17, 18, 19, 20, 21, 22, 23, 25, 26, 27, 28, 29, 30] rfl rfl (by decide) (by decide) (by decide) rfl hl.1 rfl (Nat.le_of_ble_eq_true rfl) dX3_layPlan_9 ⟨Nat.le_of_ble_eq_true rfl, Nat.le_of_ble_eq_true rfl⟩ (fun u_7 H locs hw_8 hP hD hS => ?_)
  have hw_8 : ∀ i, i < 402 → u_7 i = 0 := hw_8
  obtain ⟨F_9, eF_9⟩ : ∃ z : Nat → Nat → Int32, z = va_up F_4 24 u_7 := ⟨_, rfl⟩
  have hP : va_P (dC, dI) vwCl (wC cI cZ h F_9 V) H := by rw [eF_9]; exact hP.sub [0, 1, 2, 3, 4, 5, 6, 7, 8, 9, 10, 11, 12, 13, 14, 15, 16, 17, 18, 19, 20, 21, 22, 23, 30, 24, 25, 26, 27, 28, 29] rfl
  have hD : va_D A (wC cI cZ h F_9 V) := by rw [eF_9]; exact hD.sub [0, 1, 2, 3, 4, 5, 6, 7, 8, 9, 10, 11, 12, 13, 14, 15, 16, 17, 18, 19, 20, 21, 22, 23, 30, 24, 25, 26, 27, 28, 29] (by decide) rfl
  have hF_10 : ∀ i, i < 24 → F_9 27 i = 0 := by rw [eF_9]; exact hF_5
  have hF_11 : ∀ i, i < 24 → F_9 28 i = 0 := by rw [eF_9]; exact hF_6
  have hF_12 : ∀ i, i < 402 → F_9 24 i = 0 := by rw [eF_9]; exact hw_8
  refine lv_aload_n hx hb dX3_layPlan_12 rfl (lv_at hl 0 rfl) ?_
  refine va_get (D := (dC, dI)) (ci := 3) (v := .ref (h 26)) (C := RX3) (T := TX3) (N := 14) hx hb hts hin_X3 hown hK hP 3 rfl rfl 9 (by decide) hw2 (fun _ h9 => h9) rfl dX3_layPlan_13 ?_
  refine lv_iconst (v := 0) hx hb dX3_layPlan_16 (by decide) ?_
  refine cl_Sv (As := [.ref (h 26), .int 0]) (rest := []) (wr := (wC cI cZ h F_9 V).eraseIdx 26) (c_J7_fill l dC dI cI cZ cJ (h 26) 402 (F_9 26) 0 (by decide)) fx (va_cwS 2 hts gX3_layPlan_J7_fill_53178 rfl rfl rfl (by decide +kernel) ⟨Nat.le_of_ble_eq_true rfl, Nat.le_of_ble_eq_true rfl⟩) hK hP hD hS hA [26] [0, 1, 2, 3, 4, 5, 6, 7, 8, 9, 10, 11, 12, 13, 14, 15, 16, 17, 18, 19, 20, 21, 22, 23, 24, 25, 27, 28, 29, 30] rfl rfl (by decide) (by decide) (by decide) rfl hl.1 rfl (Nat.le_of_ble_eq_true rfl) dX3_layPlan_17 ⟨Nat.le_of_ble_eq_true rfl, Nat.le_of_ble_eq_true rfl⟩ (fun u_13 H locs hw_14 hP hD hS => ?_)
  have hw_14 : ∀ i, i < 402 → u_13 i = 0 := hw_14
  obtain ⟨F_15, eF_15⟩ : ∃ z : Nat → Nat → Int32, z = va_up F_9 26 u_13 := ⟨_, rfl⟩
  have hP : va_P (dC, dI) vwCl (wC cI cZ h F_15 V) H := by rw [eF_15]; exact hP.sub [0, 1, 2, 3, 4, 5, 6, 7, 8, 9, 10, 11, 12, 13, 14, 15, 16, 17, 18, 19, 20, 21, 22, 23, 24, 25, 30, 26, 27, 28, 29] rfl
  have hD : va_D A (wC cI cZ h F_15 V) := by rw [eF_15]; exact hD.sub [0, 1, 2, 3, 4, 5, 6, 7, 8, 9, 10, 11, 12, 13, 14, 15, 16, 17, 18, 19, 20, 21, 22, 23, 24, 25, 30, 26, 27, 28, 29] (by decide) rfl
  have hF_16 : ∀ i, i < 24 → F_15 27 i = 0 := by rw [eF_15]; exact hF_10
  have hF_17 : ∀ i, i < 24 → F_15 28 i = 0 := by rw [eF_15]; exact hF_11
  have hF_18 : ∀ i, i < 402 → F_15 24 i = 0 := by rw [eF_15]; exact hF_12
  have hF_19 : ∀ i, i < 402 → F_15 26 i = 0 := by rw [eF_15]; exact hw_14
  refine lv_bipush (v := 23) hx hb dX3_layPlan_20 (by decide) ?_
  refine lv_istore_n (lv' := [(1, .int 23), (0, .ref (h 3))]) hx hb dX3_layPlan_22 rfl hl (by decide) rfl (fun ls hl => ?_)
  have loop23 : ∀ (n : Nat) (k : Nat) (h1 : Nat → Nat) (F1 : Nat → Nat → Int32), (k ≤ 24) → (F1 24 0 = 0) → (∀ i, i < 402 → F1 26 i = 0) → (∀ i, i < 24 → F1 27 i = 0) → (∀ i, i < 24 → F1 28 i = 0) → (k) < n → ∀ (H : Heap) (locs : List Loc) (ls : Array Slot), va_P (dC, dI) vwCl (wC cI cZ h1 F1 V) H → va_D A (wC cI cZ h1 F1 V) → va_S A s.heap H locs → lv_has ls 3 [(0, .ref (h1 3)), (1, .int (nI k - 1))] → W p l e rm_X3_layPlan s m args below meth c H locs 0 0 Q (F0 m 23 ls []) := by
    intro n
    induction n with
    | zero => intro k h1 F1 hk hg hc26 hc27 hc28 hn_; exact absurd hn_ (Nat.not_lt_zero _)
    | succ n ih23 =>
      intro k h1 F1 hk hg hc26 hc27 hc28 hn_ H locs ls hP hD hS hl
      rcases Nat.eq_zero_or_pos k with hk0 | hk0
      · subst hk0
        have hl : lv_has ls 3 [(0, .ref (h1 3)), (1, .int (-1))] := by rw [show nI 0 - 1 = (-1 : Int32) from by decide] at hl; exact hl
        refine lv_iload_n hx hb dX3_layPlan_23 rfl (lv_at hl 1 rfl) ?_
        refine lv_aload_n hx hb dX3_layPlan_24 rfl (lv_at hl 0 rfl) ?_
        refine va_get (D := (dC, dI)) (ci := 3) (v := .int (V 4)) (C := RX3) (T := TX3) (N := 14) hx hb hts hin_X3 hown hK hP 3 rfl rfl 3 (by decide) hw3 (fun _ h9 => h9) rfl dX3_layPlan_25 ?_
        refine lv_topi (fun x_20 ex_20 => ?_)
        obtain rfl : x_20 = 0 := ex_20.trans (hV4)
        refine lv_icmp_lt (tgt := 60) hx hb dX3_layPlan_28 (by decide) (fun c_21 => ?_) (fun c_21 => ?_)
        · refine lv_aload_n hx hb dX3_layPlan_60 rfl (lv_at hl 0 rfl) ?_
          refine cw_Vv (As := []) (rest := []) (c_X3_followChoices l dC dI cI cZ cJ h1 F1 V hV4 hV5 hV6 hc26 hc27) fx (cwV 0 hts gX3_layPlan_X3_followChoices rfl rfl rfl (by decide +kernel) ⟨Nat.le_of_ble_eq_true rfl, Nat.le_of_ble_eq_true rfl⟩) hK hP hD hS hA 3 rfl rfl rfl rfl hl.1 rfl (Nat.le_of_ble_eq_true rfl) dX3_layPlan_61 ⟨Nat.le_of_ble_eq_true rfl, Nat.le_of_ble_eq_true rfl⟩ (fun u_23 H locs hw_24 hP hD hS => ?_)
          have hP : va_P (dC, dI) vwCl (wC cI cZ h1 F1 (va_up (va_up V 8 0) 9 0)) H := hP
          have hD : va_D A (wC cI cZ h1 F1 (va_up (va_up V 8 0) 9 0)) := hD
          refine lv_aload_n hx hb dX3_layPlan_64 rfl (lv_at hl 0 rfl) ?_
          refine va_get (D := (dC, dI)) (ci := 3) (v := .ref (h1 24)) (C := RX3) (T := TX3) (N := 14) hx hb hts hin_X3 hown hK hP 3 rfl rfl 7 (by decide) hw0 (fun _ h9 => h9) rfl dX3_layPlan_65 ?_
          refine lv_aload_n hx hb dX3_layPlan_68 rfl (lv_at hl 0 rfl) ?_
          refine va_get (D := (dC, dI)) (ci := 3) (v := .int (V 5)) (C := RX3) (T := TX3) (N := 14) hx hb hts hin_X3 hown hK hP 3 rfl rfl 4 (by decide) hw4 (fun _ h9 => h9) rfl dX3_layPlan_69 ?_
          refine lv_topi (fun x_25 ex_25 => ?_)
          obtain rfl : x_25 = 0 := ex_25.trans (hV5)
          refine lv_aload_n hx hb dX3_layPlan_72 rfl (lv_at hl 0 rfl) ?_
          refine va_get (D := (dC, dI)) (ci := 3) (v := .int (V 6)) (C := RX3) (T := TX3) (N := 14) hx hb hts hin_X3 hown hK hP 3 rfl rfl 5 (by decide) hw5 (fun _ h9 => h9) rfl dX3_layPlan_73 ?_
          refine lv_topi (fun x_26 ex_26 => ?_)
          obtain rfl : x_26 = 0 := ex_26.trans (hV6)
          refine cw_Si (As := [.int 0, .int 0]) (rest := [.ref (h1 24)]) (c_X3_stateOf0 l dC dI cI cZ cJ (wC cI cZ h1 F1 (va_up (va_up V 8 0) 9 0)) 0) fx (va_cwS 2 hts gX3_layPlan_X3_stateOf rfl rfl rfl (by decide +kernel) ⟨Nat.le_of_ble_eq_true rfl, Nat.le_of_ble_eq_true rfl⟩) hK hP hD hS hA rfl hl.1 rfl (Nat.le_of_ble_eq_true rfl) dX3_layPlan_76 ⟨Nat.le_of_ble_eq_true rfl, Nat.le_of_ble_eq_true rfl⟩ (fun r_27 u_28 H locs hw_29 hP hD hS => ?_)
          have hP : va_P (dC, dI) vwCl (wC cI cZ h1 F1 (va_up (va_up V 8 0) 9 0)) H := hP
          have hD : va_D A (wC cI cZ h1 F1 (va_up (va_up V 8 0) 9 0)) := hD
          obtain rfl : r_27 = 0 := hw_29
          refine va_iald hx hb hK hP 24 0 rfl rfl (vp_in_nI (n := 0) (N := 402) (by decide) (by decide)) dX3_layPlan_79 ?_
          refine lv_topi (fun x_30 ex_30 => ?_)
          obtain rfl : x_30 = 0 := ex_30.trans ((congrArg (F1 24) (by decide : (0 : Int32).toNatClampNeg = 0)).trans hg)
          exact hret 0 () H locs 80 ls rfl dX3_layPlan_80 (by first | rfl | (simp []; done) | (exfalso; omega)) (hP.sub [] rfl) (hD.sub [] (by decide) rfl) hS
        · exact absurd c_21 (by decide)
      · obtain ⟨j, rfl⟩ : ∃ j, k = j + 1 := ⟨k - 1, by omega⟩
        rw [nI_pred] at hl
        refine lv_iload_n hx hb dX3_layPlan_23 rfl (lv_at hl 1 rfl) ?_
        refine lv_aload_n hx hb dX3_layPlan_24 rfl (lv_at hl 0 rfl) ?_
        refine va_get (D := (dC, dI)) (ci := 3) (v := .int (V 4)) (C := RX3) (T := TX3) (N := 14) hx hb hts hin_X3 hown hK hP 3 rfl rfl 3 (by decide) hw3 (fun _ h9 => h9) rfl dX3_layPlan_25 ?_
        refine lv_topi (fun x_31 ex_31 => ?_)
        obtain rfl : x_31 = 0 := ex_31.trans (hV4)
        refine lv_icmp_lt (tgt := 60) hx hb dX3_layPlan_28 (by decide) (fun c_32 => ?_) (fun c_32 => ?_)
        · have c_32 : j < 0 := (nI_ltI (a := j) (b := 0) (by omega) (by omega)).mp c_32
          refine lv_aload_n hx hb dX3_layPlan_60 rfl (lv_at hl 0 rfl) ?_
          refine cw_Vv (As := []) (rest := []) (c_X3_followChoices l dC dI cI cZ cJ h1 F1 V hV4 hV5 hV6 hc26 hc27) fx (cwV 0 hts gX3_layPlan_X3_followChoices rfl rfl rfl (by decide +kernel) ⟨Nat.le_of_ble_eq_true rfl, Nat.le_of_ble_eq_true rfl⟩) hK hP hD hS hA 3 rfl rfl rfl rfl hl.1 rfl (Nat.le_of_ble_eq_true rfl) dX3_layPlan_61 ⟨Nat.le_of_ble_eq_true rfl, Nat.le_of_ble_eq_true rfl⟩ (fun u_34 H locs hw_35 hP hD hS => ?_)
          have hP : va_P (dC, dI) vwCl (wC cI cZ h1 F1 (va_up (va_up V 8 0) 9 0)) H := hP
          have hD : va_D A (wC cI cZ h1 F1 (va_up (va_up V 8 0) 9 0)) := hD
          refine lv_aload_n hx hb dX3_layPlan_64 rfl (lv_at hl 0 rfl) ?_
          refine va_get (D := (dC, dI)) (ci := 3) (v := .ref (h1 24)) (C := RX3) (T := TX3) (N := 14) hx hb hts hin_X3 hown hK hP 3 rfl rfl 7 (by decide) hw0 (fun _ h9 => h9) rfl dX3_layPlan_65 ?_
          refine lv_aload_n hx hb dX3_layPlan_68 rfl (lv_at hl 0 rfl) ?_
          refine va_get (D := (dC, dI)) (ci := 3) (v := .int (V 5)) (C := RX3) (T := TX3) (N := 14) hx hb hts hin_X3 hown hK hP 3 rfl rfl 4 (by decide) hw4 (fun _ h9 => h9) rfl dX3_layPlan_69 ?_
          refine lv_topi (fun x_36 ex_36 => ?_)
          obtain rfl : x_36 = 0 := ex_36.trans (hV5)
          refine lv_aload_n hx hb dX3_layPlan_72 rfl (lv_at hl 0 rfl) ?_
          refine va_get (D := (dC, dI)) (ci := 3) (v := .int (V 6)) (C := RX3) (T := TX3) (N := 14) hx hb hts hin_X3 hown hK hP 3 rfl rfl 5 (by decide) hw5 (fun _ h9 => h9) rfl dX3_layPlan_73 ?_
          refine lv_topi (fun x_37 ex_37 => ?_)
          obtain rfl : x_37 = 0 := ex_37.trans (hV6)
          refine cw_Si (As := [.int 0, .int 0]) (rest := [.ref (h1 24)]) (c_X3_stateOf0 l dC dI cI cZ cJ (wC cI cZ h1 F1 (va_up (va_up V 8 0) 9 0)) 0) fx (va_cwS 2 hts gX3_layPlan_X3_stateOf rfl rfl rfl (by decide +kernel) ⟨Nat.le_of_ble_eq_true rfl, Nat.le_of_ble_eq_true rfl⟩) hK hP hD hS hA rfl hl.1 rfl (Nat.le_of_ble_eq_true rfl) dX3_layPlan_76 ⟨Nat.le_of_ble_eq_true rfl, Nat.le_of_ble_eq_true rfl⟩ (fun r_38 u_39 H locs hw_40 hP hD hS => ?_)
          have hP : va_P (dC, dI) vwCl (wC cI cZ h1 F1 (va_up (va_up V 8 0) 9 0)) H := hP
          have hD : va_D A (wC cI cZ h1 F1 (va_up (va_up V 8 0) 9 0)) := hD
          obtain rfl : r_38 = 0 := hw_40
          refine va_iald hx hb hK hP 24 0 rfl rfl (vp_in_nI (n := 0) (N := 402) (by decide) (by decide)) dX3_layPlan_79 ?_
          refine lv_topi (fun x_41 ex_41 => ?_)
          obtain rfl : x_41 = 0 := ex_41.trans ((congrArg (F1 24) (by decide : (0 : Int32).toNatClampNeg = 0)).trans hg)
          exact hret 0 () H locs 80 ls rfl dX3_layPlan_80 (by first | rfl | (simp []; done) | (exfalso; omega)) (hP.sub [] rfl) (hD.sub [] (by decide) rfl) hS
        · have c_32 : ¬ j < 0 := fun h => c_32 ((nI_ltI (a := j) (b := 0) (by omega) (by omega)).mpr h)
          refine lv_aload_n hx hb dX3_layPlan_31 rfl (lv_at hl 0 rfl) ?_
          refine va_get (D := (dC, dI)) (ci := 3) (v := .ref (h1 24)) (C := RX3) (T := TX3) (N := 14) hx hb hts hin_X3 hown hK hP 3 rfl rfl 7 (by decide) hw0 (fun _ h9 => h9) rfl dX3_layPlan_32 ?_
          refine lv_astore_n (lv' := [(2, .ref (h1 24)), (0, .ref (h1 3)), (1, .int (nI j))]) hx hb dX3_layPlan_35 rfl hl (by decide) rfl (fun ls hl => ?_)
          refine lv_aload_n hx hb dX3_layPlan_36 rfl (lv_at hl 1 rfl) ?_
          refine lv_aload_n hx hb dX3_layPlan_37 rfl (lv_at hl 1 rfl) ?_
          refine va_get (D := (dC, dI)) (ci := 3) (v := .ref (h1 25)) (C := RX3) (T := TX3) (N := 14) hx hb hts hin_X3 hown hK hP 3 rfl rfl 8 (by decide) hw6 (fun _ h9 => h9) rfl dX3_layPlan_38 ?_
          refine va_put (D := (dC, dI)) (ci := 3) (v := .ref (h1 25)) (ty := tyX3 7) (C := RX3) (T := TX3) (N := 14) hx hb hts hin_X3 tyX3 tyX3_ok nmX3 hown hK hP hD hS 3 rfl rfl 7 (by decide) hw0 (fun _ h9 => h9) rfl (tyX3_ok 7 (by decide)) rfl rfl (Nat.le_of_ble_eq_true rfl) dX3_layPlan_41 (fun H locs hP hD hS => ?_)
          refine lv_aload_n hx hb dX3_layPlan_44 rfl (lv_at hl 1 rfl) ?_
          refine lv_aload_n hx hb dX3_layPlan_45 rfl (lv_at hl 0 rfl) ?_
          refine va_put (D := (dC, dI)) (ci := 3) (v := .ref (h1 24)) (ty := tyX3 8) (C := RX3) (T := TX3) (N := 14) hx hb hts hin_X3 tyX3 tyX3_ok nmX3 hown hK hP hD hS 3 rfl rfl 8 (by decide) hw6 (fun _ h9 => h9) rfl (tyX3_ok 8 (by decide)) rfl rfl (Nat.le_of_ble_eq_true rfl) dX3_layPlan_46 (fun H locs hP hD hS => ?_)
          obtain ⟨h_42, eh_42⟩ : ∃ z : Nat → Nat, z = fun j => if j = 24 then h1 25 else if j = 25 then h1 24 else h1 j := ⟨_, rfl⟩
          obtain ⟨F_43, eF_43⟩ : ∃ z : Nat → Nat → Int32, z = fun j => if j = 24 then F1 25 else if j = 25 then F1 24 else F1 j := ⟨_, rfl⟩
          have hP : va_P (dC, dI) vwCl (wC cI cZ h_42 F_43 V) H := by rw [eh_42, eF_43]; exact hP.sub [0, 1, 2, 3, 4, 5, 6, 7, 8, 9, 10, 11, 12, 13, 14, 15, 16, 17, 18, 19, 20, 21, 22, 23, 25, 24, 26, 27, 28, 29, 30] rfl
          have hD : va_D A (wC cI cZ h_42 F_43 V) := by rw [eh_42, eF_43]; exact hD.sub [0, 1, 2, 3, 4, 5, 6, 7, 8, 9, 10, 11, 12, 13, 14, 15, 16, 17, 18, 19, 20, 21, 22, 23, 25, 24, 26, 27, 28, 29, 30] (by decide) rfl
          have hl : lv_has ls 3 [(2, .ref (h_42 25)), (0, .ref (h_42 3)), (1, .int (nI j))] := by rw [eh_42]; exact hl
          have hF_44 : ∀ i, i < 402 → F_43 26 i = 0 := by rw [eF_43]; exact hc26
          have hF_45 : ∀ i, i < 24 → F_43 27 i = 0 := by rw [eF_43]; exact hc27
          have hF_46 : ∀ i, i < 24 → F_43 28 i = 0 := by rw [eF_43]; exact hc28
          have hE_47 : F_43 25 0 = 0 := by rw [eF_43]; exact hg
          refine lv_aload_n hx hb dX3_layPlan_49 rfl (lv_at hl 1 rfl) ?_
          refine lv_iload_n hx hb dX3_layPlan_50 rfl (lv_at hl 2 rfl) ?_
          refine cw_Vv (As := [.int (nI j)]) (rest := []) (c_X3_weighHour l dC dI cI cZ cJ h_42 F_43 V j (by omega) (hF_45 j (by omega)) (hF_46 j (by omega))) fx (cwV 1 hts gX3_layPlan_X3_weighHour rfl rfl rfl (by decide +kernel) ⟨Nat.le_of_ble_eq_true rfl, Nat.le_of_ble_eq_true rfl⟩) hK hP hD hS hA 3 rfl rfl rfl rfl hl.1 rfl (Nat.le_of_ble_eq_true rfl) dX3_layPlan_51 ⟨Nat.le_of_ble_eq_true rfl, Nat.le_of_ble_eq_true rfl⟩ (fun u_49 H locs hw_50 hP hD hS => ?_)
          obtain ⟨F_51, rfl⟩ : ∃ z, z = u_49 := ⟨_, rfl⟩
          have hP : va_P (dC, dI) vwCl (wC cI cZ h_42 F_51 V) H := hP
          have hD : va_D A (wC cI cZ h_42 F_51 V) := hD
          have hF_52 : ∀ i, i < 402 → F_51 26 i = 0 := by rw [hw_50.2 26 (by decide)]; exact hF_44
          have hF_53 : ∀ i, i < 24 → F_51 27 i = 0 := by rw [hw_50.2 27 (by decide)]; exact hF_45
          have hF_54 : ∀ i, i < 24 → F_51 28 i = 0 := by rw [hw_50.2 28 (by decide)]; exact hF_46
          refine lv_iinc (v := nI j - 1) (lv' := [(1, .int (nI j - 1)), (2, .ref (h_42 25)), (0, .ref (h_42 3))]) hx hb dX3_layPlan_54 hl (k := 2) rfl (by rw [Int32.sub_eq_add_neg]; rfl) (by decide) rfl (fun ls hl => ?_)
          refine lv_goto (tgt := 23) hx hb dX3_layPlan_57 (by decide) ?_
          exact ih23 j h_42 F_51 (by omega) (hw_50.1.trans hE_47) hF_52 hF_53 hF_54 (by omega) H locs ls hP hD hS (lv_sub hl [2, 0] rfl)
  exact loop23 _ 24 h F_15 (by omega) (hF_18 0 (by decide)) hF_19 hF_16 hF_17 (Nat.lt_succ_self _) H locs ls hP hD hS (lv_sub hl [1, 0] rfl)
def rm_X3_passHour0 : Room := { frames := 3, cells := 0, slots := 0, locals := 69 }
set_option maxHeartbeats 4000000 in
set_option maxRecDepth 100000 in
theorem c_X3_passHour0 (l : Launch) (dC : Nat → ClassId) (dI : Nat → Nat → Nat) (cI cZ cJ : ClassId) (h : Nat → Nat) (F : Nat → Nat → Int32) (V : Nat → Int32)  (hV1 : V 1 = 0) (hV4 : V 4 = 0) (hV5 : V 5 = 0) (hV6 : V 6 = 0) (hV7 : V 7 = 0) : CtI l (dC, dI) vwCl (tys3 cI cZ cJ) yX3_passHour wsX3_passHour rm_X3_passHour0 [.ref (h 3), .int 0] (wC cI cZ h F V) (S := (Nat → Nat → Int32) × (Nat → Int32)) (fun r _ => r = 0) (fun u => wC cI cZ h u.1 u.2) 0 0 := by
  refine ct_I (cc := cX3_passHour) (maxL := 5) (ty := .int) (own := RX3) (by decide) rfl rfl (Nat.le_of_ble_eq_true rfl) (lv := [(0, .ref (h 3)), (1, .int 0)]) rfl ?_
  intro p e s m args below meth c A Q ls fx hK hP hD hA hl hret
  obtain ⟨hx, hb, hml, hown, hts⟩ := id fx
  have hS : va_S A s.heap s.heap [] := va_S.rf
  have hw0 := hts (.fieldLink RX3 51 "MirrorTower$Store" "units" "I") (by decide +kernel)
  have hin_X3 : ∀ w ∈ u_ws RX3 TX3 14, w ∈ wsX3_passHour := by decide +kernel
  have hw2 := hts (.fieldLink RX3 15 "MirrorTower$Store" "cells" "LMirrorTower$Face;") (by decide +kernel)
  have hw3 := hts (.fieldLink RX3 48 "MirrorTower$Store" "now" "I") (by decide +kernel)
  have hw4 := hts (.fieldLink RX3 54 "MirrorTower$Store" "warm" "Z") (by decide +kernel)
  have hw5 := hts (.fieldLink RX3 58 "MirrorTower$Store" "earnings" "I") (by decide +kernel)
  have hw6 := hts (.fieldLink RX3 9 "MirrorTower$Store" "field" "LMirrorTower$Field;") (by decide +kernel)
  obtain ⟨H, hH⟩ : ∃ H, H = s.heap := ⟨_, rfl⟩
  rw [← hH] at hP ⊢
  have hS : va_S A s.heap H [] := by rw [hH]; exact hS
  generalize ([] : List Loc) = locs at hS ⊢
  refine lv_aload_n hx hb dX3_passHour_0 rfl (lv_at hl 0 rfl) ?_
  refine va_get (D := (dC, dI)) (ci := 3) (v := .int (V 5)) (C := RX3) (T := TX3) (N := 14) hx hb hts hin_X3 hown hK hP 3 rfl rfl 4 (by decide) hw0 (fun _ h9 => h9) rfl dX3_passHour_1 ?_
  refine lv_topi (fun x_1 ex_1 => ?_)
  obtain rfl : x_1 = 0 := ex_1.trans (hV5)
  refine lv_aload_n hx hb dX3_passHour_4 rfl (lv_at hl 0 rfl) ?_
  refine va_get (D := (dC, dI)) (ci := 3) (v := .ref (h 2)) (C := RX3) (T := TX3) (N := 14) hx hb hts hin_X3 hown hK hP 3 rfl rfl 1 (by decide) hw2 (fun _ h9 => h9) rfl dX3_passHour_5 ?_
  refine lv_aload_n hx hb dX3_passHour_8 rfl (lv_at hl 0 rfl) ?_
  refine va_get (D := (dC, dI)) (ci := 3) (v := .int (V 4)) (C := RX3) (T := TX3) (N := 14) hx hb hts hin_X3 hown hK hP 3 rfl rfl 3 (by decide) hw3 (fun _ h9 => h9) rfl dX3_passHour_9 ?_
  refine lv_topi (fun x_2 ex_2 => ?_)
  obtain rfl : x_2 = 0 := ex_2.trans (hV4)
  refine lv_iconst (v := 0) hx hb dX3_passHour_12 (by decide) ?_
  refine cw_Vi (As := [.int 0, .int 0]) (rest := [.int 0]) (c_X0_aimAll l dC dI cI cZ cJ h F V 0 0 hV1) fx (cwV 2 hts gX3_passHour_X0_aimAll rfl rfl rfl (by decide +kernel) ⟨Nat.le_of_ble_eq_true rfl, Nat.le_of_ble_eq_true rfl⟩) hK hP hD hS hA 2 rfl rfl rfl rfl hl.1 rfl (Nat.le_of_ble_eq_true rfl) dX3_passHour_13 ⟨Nat.le_of_ble_eq_true rfl, Nat.le_of_ble_eq_true rfl⟩ (fun r_3 u_4 H locs hw_5 hP hD hS => ?_)
  obtain ⟨F_6, rfl⟩ : ∃ z, z = u_4 := ⟨_, rfl⟩
  have hP : va_P (dC, dI) vwCl (wC cI cZ h F_6 V) H := hP
  have hD : va_D A (wC cI cZ h F_6 V) := hD
  obtain rfl : r_3 = 0 := hw_5.1
  refine lv_bipush (v := 100) hx hb dX3_passHour_16 (by decide) ?_
  refine lv_idiv hx hb dX3_passHour_18 (by decide) ?_
  refine lv_topi (fun x_7 ex_7 => ?_)
  obtain rfl : x_7 = 0 := ex_7.trans (by decide)
  refine cw_Si (As := [.int 0, .int 0]) (rest := []) (c_X3_filled l dC dI cI cZ cJ (wC cI cZ h F_6 V) 0 0 (by omega)) fx (va_cwS 2 hts gX3_passHour_X3_filled rfl rfl rfl (by decide +kernel) ⟨Nat.le_of_ble_eq_true rfl, Nat.le_of_ble_eq_true rfl⟩) hK hP hD hS hA rfl hl.1 rfl (Nat.le_of_ble_eq_true rfl) dX3_passHour_19 ⟨Nat.le_of_ble_eq_true rfl, Nat.le_of_ble_eq_true rfl⟩ (fun r_8 u_9 H locs hw_10 hP hD hS => ?_)
  have hP : va_P (dC, dI) vwCl (wC cI cZ h F_6 V) H := hP
  have hD : va_D A (wC cI cZ h F_6 V) := hD
  obtain rfl : r_8 = 0 := hw_10
  refine lv_istore_n (lv' := [(2, .int 0), (0, .ref (h 3)), (1, .int 0)]) hx hb dX3_passHour_22 rfl hl (by decide) rfl (fun ls hl => ?_)
  refine lv_iload_n hx hb dX3_passHour_23 rfl (lv_at hl 2 rfl) ?_
  refine lv_if_eq (tgt := 37) hx hb dX3_passHour_24 (by decide) (fun c_11 => ?_) (fun c_11 => ?_)
  · refine lv_iconst (v := 0) hx hb dX3_passHour_37 (by decide) ?_
    refine lv_istore_n (lv' := [(3, .int 0), (2, .int 0), (0, .ref (h 3)), (1, .int 0)]) hx hb dX3_passHour_38 rfl hl (by decide) rfl (fun ls hl => ?_)
    refine lv_iload_n hx hb dX3_passHour_39 rfl (lv_at hl 1 rfl) ?_
    refine lv_iload_n hx hb dX3_passHour_40 rfl (lv_at hl 0 rfl) ?_
    refine lv_icmp_ge (tgt := 46) hx hb dX3_passHour_41 (by decide) (fun c_12 => ?_) (fun c_12 => ?_)
    · refine lv_iload_n hx hb dX3_passHour_46 rfl (lv_at hl 3 rfl) ?_
      refine lv_if_eq (tgt := 61) hx hb dX3_passHour_47 (by decide) (fun c_13 => ?_) (fun c_13 => ?_)
      · refine lv_iconst (v := 0) hx hb dX3_passHour_61 (by decide) ?_
        refine lv_istore (lv' := [(4, .int 0), (3, .int 0), (2, .int 0), (0, .ref (h 3)), (1, .int 0)]) hx hb dX3_passHour_62 hl (by decide) rfl (fun ls hl => ?_)
        refine lv_aload_n hx hb dX3_passHour_64 rfl (lv_at hl 3 rfl) ?_
        refine lv_iload_n hx hb dX3_passHour_65 rfl (lv_at hl 2 rfl) ?_
        refine lv_iload_n hx hb dX3_passHour_66 rfl (lv_at hl 1 rfl) ?_
        refine lv_isub hx hb dX3_passHour_67 ?_
        refine lv_topi (fun x_14 ex_14 => ?_)
        obtain rfl : x_14 = 0 := ex_14.trans (by decide)
        refine va_put (D := (dC, dI)) (ci := 3) (v := .int 0) (ty := .int) (C := RX3) (T := TX3) (N := 14) hx hb hts hin_X3 tyX3 tyX3_ok nmX3 hown hK hP hD hS 3 rfl rfl 4 (by decide) hw0 (fun _ h9 => h9) rfl (by decide +kernel) rfl rfl (Nat.le_of_ble_eq_true rfl) dX3_passHour_68 (fun H locs hP hD hS => ?_)
        have hP : va_P (dC, dI) vwCl (wC cI cZ h F_6 (va_up V 5 0)) H := hP
        have hD : va_D A (wC cI cZ h F_6 (va_up V 5 0)) := hD
        refine lv_aload_n hx hb dX3_passHour_71 rfl (lv_at hl 3 rfl) ?_
        refine lv_iload_n hx hb dX3_passHour_72 rfl (lv_at hl 4 rfl) ?_
        refine va_put (D := (dC, dI)) (ci := 3) (v := .int 0) (ty := .boolean) (C := RX3) (T := TX3) (N := 14) hx hb hts hin_X3 tyX3 tyX3_ok nmX3 hown hK hP hD hS 3 rfl rfl 5 (by decide) hw4 (fun _ h9 => h9) rfl (by decide +kernel) rfl rfl (Nat.le_of_ble_eq_true rfl) dX3_passHour_73 (fun H locs hP hD hS => ?_)
        have hP : va_P (dC, dI) vwCl (wC cI cZ h F_6 (va_up (va_up V 5 0) 6 0)) H := hP
        have hD : va_D A (wC cI cZ h F_6 (va_up (va_up V 5 0) 6 0)) := hD
        refine lv_aload_n hx hb dX3_passHour_76 rfl (lv_at hl 3 rfl) ?_
        refine lv_dup hx hb dX3_passHour_77 rfl ?_
        refine va_get (D := (dC, dI)) (ci := 3) (v := .int (V 7)) (C := RX3) (T := TX3) (N := 14) hx hb hts hin_X3 hown hK hP 3 rfl rfl 6 (by decide) hw5 (fun _ h9 => h9) rfl dX3_passHour_78 ?_
        refine lv_topi (fun x_15 ex_15 => ?_)
        obtain rfl : x_15 = 0 := ex_15.trans (hV7)
        refine lv_iload hx hb dX3_passHour_81 (lv_at hl 0 rfl) ?_
        refine lv_iadd hx hb dX3_passHour_83 ?_
        refine lv_topi (fun x_16 ex_16 => ?_)
        obtain rfl : x_16 = 0 := ex_16.trans (by decide)
        refine va_put (D := (dC, dI)) (ci := 3) (v := .int 0) (ty := .int) (C := RX3) (T := TX3) (N := 14) hx hb hts hin_X3 tyX3 tyX3_ok nmX3 hown hK hP hD hS 3 rfl rfl 6 (by decide) hw5 (fun _ h9 => h9) rfl (by decide +kernel) rfl rfl (Nat.le_of_ble_eq_true rfl) dX3_passHour_84 (fun H locs hP hD hS => ?_)
        have hP : va_P (dC, dI) vwCl (wC cI cZ h F_6 (va_up (va_up (va_up V 5 0) 6 0) 7 0)) H := hP
        have hD : va_D A (wC cI cZ h F_6 (va_up (va_up (va_up V 5 0) 6 0) 7 0)) := hD
        refine lv_aload_n hx hb dX3_passHour_87 rfl (lv_at hl 3 rfl) ?_
        refine va_get (D := (dC, dI)) (ci := 3) (v := .ref (h 1)) (C := RX3) (T := TX3) (N := 14) hx hb hts hin_X3 hown hK hP 3 rfl rfl 0 (by decide) hw6 (fun _ h9 => h9) rfl dX3_passHour_88 ?_
        refine cw_Vv (As := []) (rest := []) (c_X1_growSoil l dC dI cI cZ cJ h F_6 (va_up (va_up (va_up V 5 0) 6 0) 7 0) hV1) fx (cwV 0 hts gX3_passHour_X1_growSoil rfl rfl rfl (by decide +kernel) ⟨Nat.le_of_ble_eq_true rfl, Nat.le_of_ble_eq_true rfl⟩) hK hP hD hS hA 1 rfl rfl rfl rfl hl.1 rfl (Nat.le_of_ble_eq_true rfl) dX3_passHour_91 ⟨Nat.le_of_ble_eq_true rfl, Nat.le_of_ble_eq_true rfl⟩ (fun u_18 H locs hw_19 hP hD hS => ?_)
        have hP : va_P (dC, dI) vwCl (wC cI cZ h F_6 (va_up (va_up (va_up V 5 0) 6 0) 7 0)) H := hP
        have hD : va_D A (wC cI cZ h F_6 (va_up (va_up (va_up V 5 0) 6 0) 7 0)) := hD
        refine lv_aload_n hx hb dX3_passHour_94 rfl (lv_at hl 3 rfl) ?_
        refine lv_aload_n hx hb dX3_passHour_95 rfl (lv_at hl 3 rfl) ?_
        refine va_get (D := (dC, dI)) (ci := 3) (v := .int (V 4)) (C := RX3) (T := TX3) (N := 14) hx hb hts hin_X3 hown hK hP 3 rfl rfl 3 (by decide) hw3 (fun _ h9 => h9) rfl dX3_passHour_96 ?_
        refine lv_topi (fun x_20 ex_20 => ?_)
        obtain rfl : x_20 = 0 := ex_20.trans (hV4)
        refine lv_iconst (v := 1) hx hb dX3_passHour_99 (by decide) ?_
        refine lv_iadd hx hb dX3_passHour_100 ?_
        refine lv_topi (fun x_21 ex_21 => ?_)
        obtain rfl : x_21 = 1 := ex_21.trans (by decide)
        refine lv_bipush (v := 24) hx hb dX3_passHour_101 (by decide) ?_
        refine lv_irem hx hb dX3_passHour_103 (by decide) ?_
        refine lv_topi (fun x_22 ex_22 => ?_)
        obtain rfl : x_22 = 1 := ex_22.trans (by decide)
        refine va_put (D := (dC, dI)) (ci := 3) (v := .int 1) (ty := .int) (C := RX3) (T := TX3) (N := 14) hx hb hts hin_X3 tyX3 tyX3_ok nmX3 hown hK hP hD hS 3 rfl rfl 3 (by decide) hw3 (fun _ h9 => h9) rfl (by decide +kernel) rfl rfl (Nat.le_of_ble_eq_true rfl) dX3_passHour_104 (fun H locs hP hD hS => ?_)
        have hP : va_P (dC, dI) vwCl (wC cI cZ h F_6 (va_up (va_up (va_up (va_up V 5 0) 6 0) 7 0) 4 1)) H := hP
        have hD : va_D A (wC cI cZ h F_6 (va_up (va_up (va_up (va_up V 5 0) 6 0) 7 0) 4 1)) := hD
        refine lv_iload hx hb dX3_passHour_107 (lv_at hl 0 rfl) ?_
        exact hret 0 (F_6, va_up (va_up (va_up (va_up V 5 0) 6 0) 7 0) 4 1) H locs 109 ls rfl dX3_passHour_109 (rfl) (hP) (hD) hS
      · exact absurd c_13 (by decide)
    · exact absurd c_12 (by decide)
  · exact absurd c_11 (by decide)
def rm_X3_passHour1 : Room := { frames := 3, cells := 0, slots := 0, locals := 69 }
set_option maxHeartbeats 4000000 in
set_option maxRecDepth 100000 in
theorem c_X3_passHour1 (l : Launch) (dC : Nat → ClassId) (dI : Nat → Nat → Nat) (cI cZ cJ : ClassId) (h : Nat → Nat) (F : Nat → Nat → Int32) (V : Nat → Int32)  (hV1 : V 1 = 0) (hV4 : V 4 = 0) (hV5 : V 5 = 0) (hV6 : V 6 = 0) (hV7 : V 7 = 0) : CtI l (dC, dI) vwCl (tys3 cI cZ cJ) yX3_passHour wsX3_passHour rm_X3_passHour1 [.ref (h 3), .int 1] (wC cI cZ h F V) (S := (Nat → Nat → Int32) × (Nat → Int32)) (fun r _ => r = (-1)) (fun u => wC cI cZ h u.1 u.2) 0 0 := by
  refine ct_I (cc := cX3_passHour) (maxL := 5) (ty := .int) (own := RX3) (by decide) rfl rfl (Nat.le_of_ble_eq_true rfl) (lv := [(0, .ref (h 3)), (1, .int 1)]) rfl ?_
  intro p e s m args below meth c A Q ls fx hK hP hD hA hl hret
  obtain ⟨hx, hb, hml, hown, hts⟩ := id fx
  have hS : va_S A s.heap s.heap [] := va_S.rf
  have hw0 := hts (.fieldLink RX3 51 "MirrorTower$Store" "units" "I") (by decide +kernel)
  have hin_X3 : ∀ w ∈ u_ws RX3 TX3 14, w ∈ wsX3_passHour := by decide +kernel
  have hw2 := hts (.fieldLink RX3 15 "MirrorTower$Store" "cells" "LMirrorTower$Face;") (by decide +kernel)
  have hw3 := hts (.fieldLink RX3 48 "MirrorTower$Store" "now" "I") (by decide +kernel)
  have hw4 := hts (.fieldLink RX3 54 "MirrorTower$Store" "warm" "Z") (by decide +kernel)
  obtain ⟨H, hH⟩ : ∃ H, H = s.heap := ⟨_, rfl⟩
  rw [← hH] at hP ⊢
  have hS : va_S A s.heap H [] := by rw [hH]; exact hS
  generalize ([] : List Loc) = locs at hS ⊢
  refine lv_aload_n hx hb dX3_passHour_0 rfl (lv_at hl 0 rfl) ?_
  refine va_get (D := (dC, dI)) (ci := 3) (v := .int (V 5)) (C := RX3) (T := TX3) (N := 14) hx hb hts hin_X3 hown hK hP 3 rfl rfl 4 (by decide) hw0 (fun _ h9 => h9) rfl dX3_passHour_1 ?_
  refine lv_topi (fun x_1 ex_1 => ?_)
  obtain rfl : x_1 = 0 := ex_1.trans (hV5)
  refine lv_aload_n hx hb dX3_passHour_4 rfl (lv_at hl 0 rfl) ?_
  refine va_get (D := (dC, dI)) (ci := 3) (v := .ref (h 2)) (C := RX3) (T := TX3) (N := 14) hx hb hts hin_X3 hown hK hP 3 rfl rfl 1 (by decide) hw2 (fun _ h9 => h9) rfl dX3_passHour_5 ?_
  refine lv_aload_n hx hb dX3_passHour_8 rfl (lv_at hl 0 rfl) ?_
  refine va_get (D := (dC, dI)) (ci := 3) (v := .int (V 4)) (C := RX3) (T := TX3) (N := 14) hx hb hts hin_X3 hown hK hP 3 rfl rfl 3 (by decide) hw3 (fun _ h9 => h9) rfl dX3_passHour_9 ?_
  refine lv_topi (fun x_2 ex_2 => ?_)
  obtain rfl : x_2 = 0 := ex_2.trans (hV4)
  refine lv_iconst (v := 0) hx hb dX3_passHour_12 (by decide) ?_
  refine cw_Vi (As := [.int 0, .int 0]) (rest := [.int 0]) (c_X0_aimAll l dC dI cI cZ cJ h F V 0 0 hV1) fx (cwV 2 hts gX3_passHour_X0_aimAll rfl rfl rfl (by decide +kernel) ⟨Nat.le_of_ble_eq_true rfl, Nat.le_of_ble_eq_true rfl⟩) hK hP hD hS hA 2 rfl rfl rfl rfl hl.1 rfl (Nat.le_of_ble_eq_true rfl) dX3_passHour_13 ⟨Nat.le_of_ble_eq_true rfl, Nat.le_of_ble_eq_true rfl⟩ (fun r_3 u_4 H locs hw_5 hP hD hS => ?_)
  obtain ⟨F_6, rfl⟩ : ∃ z, z = u_4 := ⟨_, rfl⟩
  have hP : va_P (dC, dI) vwCl (wC cI cZ h F_6 V) H := hP
  have hD : va_D A (wC cI cZ h F_6 V) := hD
  obtain rfl : r_3 = 0 := hw_5.1
  refine lv_bipush (v := 100) hx hb dX3_passHour_16 (by decide) ?_
  refine lv_idiv hx hb dX3_passHour_18 (by decide) ?_
  refine lv_topi (fun x_7 ex_7 => ?_)
  obtain rfl : x_7 = 0 := ex_7.trans (by decide)
  refine cw_Si (As := [.int 0, .int 0]) (rest := []) (c_X3_filled l dC dI cI cZ cJ (wC cI cZ h F_6 V) 0 0 (by omega)) fx (va_cwS 2 hts gX3_passHour_X3_filled rfl rfl rfl (by decide +kernel) ⟨Nat.le_of_ble_eq_true rfl, Nat.le_of_ble_eq_true rfl⟩) hK hP hD hS hA rfl hl.1 rfl (Nat.le_of_ble_eq_true rfl) dX3_passHour_19 ⟨Nat.le_of_ble_eq_true rfl, Nat.le_of_ble_eq_true rfl⟩ (fun r_8 u_9 H locs hw_10 hP hD hS => ?_)
  have hP : va_P (dC, dI) vwCl (wC cI cZ h F_6 V) H := hP
  have hD : va_D A (wC cI cZ h F_6 V) := hD
  obtain rfl : r_8 = 0 := hw_10
  refine lv_istore_n (lv' := [(2, .int 0), (0, .ref (h 3)), (1, .int 1)]) hx hb dX3_passHour_22 rfl hl (by decide) rfl (fun ls hl => ?_)
  refine lv_iload_n hx hb dX3_passHour_23 rfl (lv_at hl 2 rfl) ?_
  refine lv_if_eq (tgt := 37) hx hb dX3_passHour_24 (by decide) (fun c_11 => ?_) (fun c_11 => ?_)
  · exact absurd c_11 (by decide)
  · refine lv_aload_n hx hb dX3_passHour_27 rfl (lv_at hl 1 rfl) ?_
    refine va_get (D := (dC, dI)) (ci := 3) (v := .int (V 6)) (C := RX3) (T := TX3) (N := 14) hx hb hts hin_X3 hown hK hP 3 rfl rfl 5 (by decide) hw4 (fun _ h9 => h9) rfl dX3_passHour_28 ?_
    refine lv_topi (fun x_12 ex_12 => ?_)
    obtain rfl : x_12 = 0 := ex_12.trans (hV6)
    refine cw_Si (As := [.int 0]) (rest := []) (c_X3_needed l dC dI cI cZ cJ (wC cI cZ h F_6 V) 0) fx (va_cwS 1 hts gX3_passHour_X3_needed rfl rfl rfl (by decide +kernel) ⟨Nat.le_of_ble_eq_true rfl, Nat.le_of_ble_eq_true rfl⟩) hK hP hD hS hA rfl hl.1 rfl (Nat.le_of_ble_eq_true rfl) dX3_passHour_31 ⟨Nat.le_of_ble_eq_true rfl, Nat.le_of_ble_eq_true rfl⟩ (fun r_13 u_14 H locs hw_15 hP hD hS => ?_)
    have hP : va_P (dC, dI) vwCl (wC cI cZ h F_6 V) H := hP
    have hD : va_D A (wC cI cZ h F_6 V) := hD
    obtain rfl : r_13 = 7 := Eq.trans hw_15 (by decide)
    refine lv_goto (tgt := 38) hx hb dX3_passHour_34 (by decide) ?_
    refine lv_istore_n (lv' := [(3, .int 7), (2, .int 0), (0, .ref (h 3)), (1, .int 1)]) hx hb dX3_passHour_38 rfl hl (by decide) rfl (fun ls hl => ?_)
    refine lv_iload_n hx hb dX3_passHour_39 rfl (lv_at hl 1 rfl) ?_
    refine lv_iload_n hx hb dX3_passHour_40 rfl (lv_at hl 0 rfl) ?_
    refine lv_icmp_ge (tgt := 46) hx hb dX3_passHour_41 (by decide) (fun c_16 => ?_) (fun c_16 => ?_)
    · exact absurd c_16 (by decide)
    · refine lv_iconst (v := (-1)) hx hb dX3_passHour_44 (by decide) ?_
      exact hret (-1) (F_6, V) H locs 45 ls rfl dX3_passHour_45 (rfl) (hP) (hD) hS
