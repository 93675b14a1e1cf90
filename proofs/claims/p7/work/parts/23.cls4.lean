def rm_X3_hourNow : Room := { frames := 0, cells := 0, slots := 0, locals := 0 }
set_option maxHeartbeats 4000000 in
set_option maxRecDepth 100000 in
theorem c_X3_hourNow (l : Launch) (dC : Nat → ClassId) (dI : Nat → Nat → Nat) (cI cZ cJ : ClassId) (h : Nat → Nat) (F : Nat → Nat → Int32) (V : Nat → Int32)     : CtI l (dC, dI) vwCl (tys3 cI cZ cJ) yX3_hourNow wsX3_hourNow rm_X3_hourNow [.ref (h 3)] (wC cI cZ h F V) (S := Unit) (fun r _ => r = V 4) (fun _ => wC cI cZ h F V) 0 0 := by
  refine ct_I (cc := cX3_hourNow) (maxL := 1) (ty := .int) (own := RX3) (by decide) rfl rfl (Nat.le_of_ble_eq_true rfl) (lv := [(0, .ref (h 3))]) rfl ?_
  intro p e s m args below meth c A Q ls fx hK hP hD hA hl hret
  obtain ⟨hx, hb, hml, hown, hts⟩ := id fx
  have hS : va_S A s.heap s.heap [] := va_S.rf
  have hw0 := hts (.fieldLink RX3 48 "MirrorTower$Store" "now" "I") (by decide +kernel)
  have hin_X3 : ∀ w ∈ u_ws RX3 TX3 14, w ∈ wsX3_hourNow := by decide +kernel
  obtain ⟨H, hH⟩ : ∃ H, H = s.heap := ⟨_, rfl⟩
  rw [← hH] at hP ⊢
  have hS : va_S A s.heap H [] := by rw [hH]; exact hS
  generalize ([] : List Loc) = locs at hS ⊢
  refine lv_aload_n hx hb dX3_hourNow_0 rfl (lv_at hl 0 rfl) ?_
  refine va_get (D := (dC, dI)) (ci := 3) (v := .int (V 4)) (C := RX3) (T := TX3) (N := 14) hx hb hts hin_X3 hown hK hP 3 rfl rfl 3 (by decide) hw0 (fun _ h9 => h9) rfl dX3_hourNow_1 ?_
  exact hret (V 4) () H locs 4 ls rfl dX3_hourNow_4 (by first | rfl | (simp []; done) | (exfalso; omega)) (hP) (hD) hS
def rm_X3_unitsHeld : Room := { frames := 0, cells := 0, slots := 0, locals := 0 }
set_option maxHeartbeats 4000000 in
set_option maxRecDepth 100000 in
theorem c_X3_unitsHeld (l : Launch) (dC : Nat → ClassId) (dI : Nat → Nat → Nat) (cI cZ cJ : ClassId) (h : Nat → Nat) (F : Nat → Nat → Int32) (V : Nat → Int32)     : CtI l (dC, dI) vwCl (tys3 cI cZ cJ) yX3_unitsHeld wsX3_unitsHeld rm_X3_unitsHeld [.ref (h 3)] (wC cI cZ h F V) (S := Unit) (fun r _ => r = V 5) (fun _ => wC cI cZ h F V) 0 0 := by
  refine ct_I (cc := cX3_unitsHeld) (maxL := 1) (ty := .int) (own := RX3) (by decide) rfl rfl (Nat.le_of_ble_eq_true rfl) (lv := [(0, .ref (h 3))]) rfl ?_
  intro p e s m args below meth c A Q ls fx hK hP hD hA hl hret
  obtain ⟨hx, hb, hml, hown, hts⟩ := id fx
  have hS : va_S A s.heap s.heap [] := va_S.rf
  have hw0 := hts (.fieldLink RX3 51 "MirrorTower$Store" "units" "I") (by decide +kernel)
  have hin_X3 : ∀ w ∈ u_ws RX3 TX3 14, w ∈ wsX3_unitsHeld := by decide +kernel
  obtain ⟨H, hH⟩ : ∃ H, H = s.heap := ⟨_, rfl⟩
  rw [← hH] at hP ⊢
  have hS : va_S A s.heap H [] := by rw [hH]; exact hS
  generalize ([] : List Loc) = locs at hS ⊢
  refine lv_aload_n hx hb dX3_unitsHeld_0 rfl (lv_at hl 0 rfl) ?_
  refine va_get (D := (dC, dI)) (ci := 3) (v := .int (V 5)) (C := RX3) (T := TX3) (N := 14) hx hb hts hin_X3 hown hK hP 3 rfl rfl 4 (by decide) hw0 (fun _ h9 => h9) rfl dX3_unitsHeld_1 ?_
  exact hret (V 5) () H locs 4 ls rfl dX3_unitsHeld_4 (by first | rfl | (simp []; done) | (exfalso; omega)) (hP) (hD) hS
def rm_X3_earnedInAll : Room := { frames := 0, cells := 0, slots := 0, locals := 0 }
set_option maxHeartbeats 4000000 in
set_option maxRecDepth 100000 in
theorem c_X3_earnedInAll (l : Launch) (dC : Nat → ClassId) (dI : Nat → Nat → Nat) (cI cZ cJ : ClassId) (h : Nat → Nat) (F : Nat → Nat → Int32) (V : Nat → Int32)     : CtI l (dC, dI) vwCl (tys3 cI cZ cJ) yX3_earnedInAll wsX3_earnedInAll rm_X3_earnedInAll [.ref (h 3)] (wC cI cZ h F V) (S := Unit) (fun r _ => r = V 7) (fun _ => wC cI cZ h F V) 0 0 := by
  refine ct_I (cc := cX3_earnedInAll) (maxL := 1) (ty := .int) (own := RX3) (by decide) rfl rfl (Nat.le_of_ble_eq_true rfl) (lv := [(0, .ref (h 3))]) rfl ?_
  intro p e s m args below meth c A Q ls fx hK hP hD hA hl hret
  obtain ⟨hx, hb, hml, hown, hts⟩ := id fx
  have hS : va_S A s.heap s.heap [] := va_S.rf
  have hw0 := hts (.fieldLink RX3 58 "MirrorTower$Store" "earnings" "I") (by decide +kernel)
  have hin_X3 : ∀ w ∈ u_ws RX3 TX3 14, w ∈ wsX3_earnedInAll := by decide +kernel
  obtain ⟨H, hH⟩ : ∃ H, H = s.heap := ⟨_, rfl⟩
  rw [← hH] at hP ⊢
  have hS : va_S A s.heap H [] := by rw [hH]; exact hS
  generalize ([] : List Loc) = locs at hS ⊢
  refine lv_aload_n hx hb dX3_earnedInAll_0 rfl (lv_at hl 0 rfl) ?_
  refine va_get (D := (dC, dI)) (ci := 3) (v := .int (V 7)) (C := RX3) (T := TX3) (N := 14) hx hb hts hin_X3 hown hK hP 3 rfl rfl 6 (by decide) hw0 (fun _ h9 => h9) rfl dX3_earnedInAll_1 ?_
  exact hret (V 7) () H locs 4 ls rfl dX3_earnedInAll_4 (by first | rfl | (simp []; done) | (exfalso; omega)) (hP) (hD) hS
def rm_X3_isWarm : Room := { frames := 0, cells := 0, slots := 0, locals := 0 }
set_option maxHeartbeats 4000000 in
set_option maxRecDepth 100000 in
theorem c_X3_isWarm (l : Launch) (dC : Nat → ClassId) (dI : Nat → Nat → Nat) (cI cZ cJ : ClassId) (h : Nat → Nat) (F : Nat → Nat → Int32) (V : Nat → Int32) (wm : Nat) (hV6 : V 6 = nI wm) (bV6 : wm ≤ 1)    : CtI l (dC, dI) vwCl (tys3 cI cZ cJ) yX3_isWarm wsX3_isWarm rm_X3_isWarm [.ref (h 3)] (wC cI cZ h F V) (S := Unit) (fun r _ => r = nI wm) (fun _ => wC cI cZ h F V) 0 0 := by
  refine ct_I (cc := cX3_isWarm) (maxL := 1) (ty := .boolean) (own := RX3) (by decide) rfl rfl (Nat.le_of_ble_eq_true rfl) (lv := [(0, .ref (h 3))]) rfl ?_
  intro p e s m args below meth c A Q ls fx hK hP hD hA hl hret
  obtain ⟨hx, hb, hml, hown, hts⟩ := id fx
  have hS : va_S A s.heap s.heap [] := va_S.rf
  have hw0 := hts (.fieldLink RX3 54 "MirrorTower$Store" "warm" "Z") (by decide +kernel)
  have hin_X3 : ∀ w ∈ u_ws RX3 TX3 14, w ∈ wsX3_isWarm := by decide +kernel
  obtain ⟨H, hH⟩ : ∃ H, H = s.heap := ⟨_, rfl⟩
  rw [← hH] at hP ⊢
  have hS : va_S A s.heap H [] := by rw [hH]; exact hS
  generalize ([] : List Loc) = locs at hS ⊢
  refine lv_aload_n hx hb dX3_isWarm_0 rfl (lv_at hl 0 rfl) ?_
  refine va_get (D := (dC, dI)) (ci := 3) (v := .int (V 6)) (C := RX3) (T := TX3) (N := 14) hx hb hts hin_X3 hown hK hP 3 rfl rfl 5 (by decide) hw0 (fun _ h9 => h9) rfl dX3_isWarm_1 ?_
  refine lv_topi (fun x_1 ex_1 => ?_)
  obtain rfl : x_1 = nI wm := ex_1.trans (hV6)
  exact hret (nI wm) () H locs 4 ls (nz_narrow (by omega)) dX3_isWarm_4 (by first | rfl | (simp []; done) | (exfalso; omega)) (hP) (hD) hS
def rm_X3_filled : Room := { frames := 1, cells := 0, slots := 0, locals := 13 }
set_option maxHeartbeats 4000000 in
set_option maxRecDepth 100000 in
theorem c_X3_filled (l : Launch) (dC : Nat → ClassId) (dI : Nat → Nat → Nat) (cI cZ cJ : ClassId) (w : va_W)  (a0 a1 : Nat) (ha : a0 + a1 < 1000000)   : CtI l (dC, dI) vwCl (tys3 cI cZ cJ) yX3_filled wsX3_filled rm_X3_filled [.int (nI a0), .int (nI a1)] (w) (S := Unit) (fun r _ => r = nI (min 200 (a0 + a1))) (fun _ => w) 0 0 := by
  refine ct_I (cc := cX3_filled) (maxL := 2) (ty := .int) (own := RX3) (by decide) rfl rfl (Nat.le_of_ble_eq_true rfl) (lv := [(0, .int (nI a0)), (1, .int (nI a1))]) rfl ?_
  intro p e s m args below meth c A Q ls fx hK hP hD hA hl hret
  obtain ⟨hx, hb, hml, hown, hts⟩ := id fx
  have hS : va_S A s.heap s.heap [] := va_S.rf
  have hw0 := hts (.methodLink RX3 83 Lib.Math.min.name) (by decide +kernel)
  have hw1 := hts (.static Lib.Math.min.name) (by decide +kernel)
  have hw2 := hts (.initialized "java/lang/Math") (by decide +kernel)
  have hw3 := hts (.code Lib.Math.min.name Lib.Math.min.code 2 (some .int)) (by decide +kernel)
  obtain ⟨H, hH⟩ : ∃ H, H = s.heap := ⟨_, rfl⟩
  rw [← hH] at hP ⊢
  have hS : va_S A s.heap H [] := by rw [hH]; exact hS
  generalize ([] : List Loc) = locs at hS ⊢
  refine lv_sipush (v := 200) hx hb dX3_filled_0 (by decide) ?_
  refine lv_iload_n hx hb dX3_filled_3 rfl (lv_at hl 0 rfl) ?_
  refine lv_iload_n hx hb dX3_filled_4 rfl (lv_at hl 1 rfl) ?_
  refine lv_iadd hx hb dX3_filled_5 ?_
  refine lv_topi (fun x_1 ex_1 => ?_)
  obtain rfl : x_1 = nI (a0 + a1) := ex_1.trans (nI_add a0 a1)
  refine va_mmin hx hb (hml.trans hl.1.symm) hown hw0 hw1 hw2 hw3 (Nat.le_of_ble_eq_true rfl) (Nat.le_of_ble_eq_true rfl) (Nat.le_of_ble_eq_true rfl) (Nat.le_of_ble_eq_true rfl) dX3_filled_6 ?_
  refine lv_topi (fun x_2 ex_2 => ?_)
  obtain rfl : x_2 = nI (min 200 (a0 + a1)) := ex_2.trans (mm_min (a := 200) (b := a0 + a1) (by omega) (by omega))
  exact hret (nI (min 200 (a0 + a1))) () H locs 9 ls rfl dX3_filled_9 (by first | rfl | (simp []; done) | (exfalso; omega)) (hP) (hD) hS
def rm_X3_needed : Room := { frames := 0, cells := 0, slots := 0, locals := 0 }
set_option maxHeartbeats 4000000 in
set_option maxRecDepth 100000 in
theorem c_X3_needed (l : Launch) (dC : Nat → ClassId) (dI : Nat → Nat → Nat) (cI cZ cJ : ClassId) (w : va_W)  (a0 : Nat) (ha : a0 ≤ 1)   : CtI l (dC, dI) vwCl (tys3 cI cZ cJ) yX3_needed wsX3_needed rm_X3_needed [.int (nI a0)] (w) (S := Unit) (fun r _ => r = nI (7 - 2 * a0)) (fun _ => w) 0 0 := by
  refine ct_I (cc := cX3_needed) (maxL := 1) (ty := .int) (own := RX3) (by decide) rfl rfl (Nat.le_of_ble_eq_true rfl) (lv := [(0, .int (nI a0))]) rfl ?_
  intro p e s m args below meth c A Q ls fx hK hP hD hA hl hret
  obtain ⟨hx, hb, hml, hown, hts⟩ := id fx
  have hS : va_S A s.heap s.heap [] := va_S.rf
  obtain ⟨H, hH⟩ : ∃ H, H = s.heap := ⟨_, rfl⟩
  rw [← hH] at hP ⊢
  have hS : va_S A s.heap H [] := by rw [hH]; exact hS
  generalize ([] : List Loc) = locs at hS ⊢
  refine lv_iload_n hx hb dX3_needed_0 rfl (lv_at hl 0 rfl) ?_
  refine lv_if_eq (tgt := 8) hx hb dX3_needed_1 (by decide) (fun c_1 => ?_) (fun c_1 => ?_)
  · have c_1 : a0 = 0 := (nI_eq (a := a0) (b := 0) (by omega) (by omega)).mp c_1
    refine lv_bipush (v := 7) hx hb dX3_needed_8 (by decide) ?_
    exact hret 7 () H locs 10 ls rfl dX3_needed_10 (by rw [show a0 = 0 by omega]; rfl) (hP) (hD) hS
  · have c_1 : ¬ a0 = 0 := fun h => c_1 ((nI_eq (a := a0) (b := 0) (by omega) (by omega)).mpr h)
    refine lv_iconst (v := 5) hx hb dX3_needed_4 (by decide) ?_
    refine lv_goto (tgt := 10) hx hb dX3_needed_5 (by decide) ?_
    exact hret 5 () H locs 10 ls rfl dX3_needed_10 (by rw [show a0 = 1 by omega]; rfl) (hP) (hD) hS
def rm_X3_stateOf : Room := { frames := 0, cells := 0, slots := 0, locals := 0 }
set_option maxHeartbeats 4000000 in
set_option maxRecDepth 100000 in
theorem c_X3_stateOf (l : Launch) (dC : Nat → ClassId) (dI : Nat → Nat → Nat) (cI cZ cJ : ClassId) (w : va_W)  (a0 a1 : Nat) (ha : a1 ≤ 1)   : CtI l (dC, dI) vwCl (tys3 cI cZ cJ) yX3_stateOf wsX3_stateOf rm_X3_stateOf [.int (nI a0), .int (nI a1)] (w) (S := Unit) (fun r _ => r = nI (2 * a0 + a1)) (fun _ => w) 0 0 := by
  refine ct_I (cc := cX3_stateOf) (maxL := 2) (ty := .int) (own := RX3) (by decide) rfl rfl (Nat.le_of_ble_eq_true rfl) (lv := [(0, .int (nI a0)), (1, .int (nI a1))]) rfl ?_
  intro p e s m args below meth c A Q ls fx hK hP hD hA hl hret
  obtain ⟨hx, hb, hml, hown, hts⟩ := id fx
  have hS : va_S A s.heap s.heap [] := va_S.rf
  obtain ⟨H, hH⟩ : ∃ H, H = s.heap := ⟨_, rfl⟩
  rw [← hH] at hP ⊢
  have hS : va_S A s.heap H [] := by rw [hH]; exact hS
  generalize ([] : List Loc) = locs at hS ⊢
  refine lv_iconst (v := 2) hx hb dX3_stateOf_0 (by decide) ?_
  refine lv_iload_n hx hb dX3_stateOf_1 rfl (lv_at hl 0 rfl) ?_
  refine lv_imul hx hb dX3_stateOf_2 ?_
  refine lv_topi (fun x_1 ex_1 => ?_)
  obtain rfl : x_1 = nI (2 * a0) := ex_1.trans (pk_mul 2 a0)
  refine lv_iload_n hx hb dX3_stateOf_3 rfl (lv_at hl 1 rfl) ?_
  refine lv_if_eq (tgt := 11) hx hb dX3_stateOf_4 (by decide) (fun c_2 => ?_) (fun c_2 => ?_)
  · have c_2 : a1 = 0 := (nI_eq (a := a1) (b := 0) (by omega) (by omega)).mp c_2
    refine lv_iconst (v := 0) hx hb dX3_stateOf_11 (by decide) ?_
    refine lv_iadd hx hb dX3_stateOf_12 ?_
    refine lv_topi (fun x_3 ex_3 => ?_)
    obtain rfl : x_3 = nI ((2 * a0) + 0) := ex_3.trans (nI_add (2 * a0) 0)
    exact hret (nI ((2 * a0) + 0)) () H locs 13 ls rfl dX3_stateOf_13 (by first | rw [show a1 = 0 by omega] | rw [show a1 = 1 by omega]) (hP) (hD) hS
  · have c_2 : ¬ a1 = 0 := fun h => c_2 ((nI_eq (a := a1) (b := 0) (by omega) (by omega)).mpr h)
    refine lv_iconst (v := 1) hx hb dX3_stateOf_7 (by decide) ?_
    refine lv_goto (tgt := 12) hx hb dX3_stateOf_8 (by decide) ?_
    refine lv_iadd hx hb dX3_stateOf_12 ?_
    refine lv_topi (fun x_4 ex_4 => ?_)
    obtain rfl : x_4 = nI ((2 * a0) + 1) := ex_4.trans (nI_add (2 * a0) 1)
    exact hret (nI ((2 * a0) + 1)) () H locs 13 ls rfl dX3_stateOf_13 (by first | rw [show a1 = 0 by omega] | rw [show a1 = 1 by omega]) (hP) (hD) hS
def rm_X3_gainOf : Room := { frames := 0, cells := 0, slots := 0, locals := 0 }
set_option maxHeartbeats 4000000 in
set_option maxRecDepth 100000 in
theorem c_X3_gainOf (l : Launch) (dC : Nat → ClassId) (dI : Nat → Nat → Nat) (cI cZ cJ : ClassId) (h : Nat → Nat) (F : Nat → Nat → Int32) (V : Nat → Int32)  (Pr : Nat → Nat) (hPr : ∀ i, i < 24 → F 23 i = nI (Pr i)) (bPr : ∀ i, i < 24 → Pr i ≤ 999) (k0 : Nat) (hk0 : k0 < 24)   : CtI l (dC, dI) vwCl (tys3 cI cZ cJ) yX3_gainOf wsX3_gainOf rm_X3_gainOf [.ref (h 3), .int (nI k0)] (wC cI cZ h F V) (S := Unit) (fun r _ => r = nI (5 * Pr k0)) (fun _ => wC cI cZ h F V) 0 0 := by
  refine ct_I (cc := cX3_gainOf) (maxL := 2) (ty := .int) (own := RX3) (by decide) rfl rfl (Nat.le_of_ble_eq_true rfl) (lv := [(0, .ref (h 3)), (1, .int (nI k0))]) rfl ?_
  intro p e s m args below meth c A Q ls fx hK hP hD hA hl hret
  obtain ⟨hx, hb, hml, hown, hts⟩ := id fx
  have hS : va_S A s.heap s.heap [] := va_S.rf
  have hw0 := hts (.fieldLink RX3 19 "MirrorTower$Store" "prices" "[I") (by decide +kernel)
  have hin_X3 : ∀ w ∈ u_ws RX3 TX3 14, w ∈ wsX3_gainOf := by decide +kernel
  obtain ⟨H, hH⟩ : ∃ H, H = s.heap := ⟨_, rfl⟩
  rw [← hH] at hP ⊢
  have hS : va_S A s.heap H [] := by rw [hH]; exact hS
  generalize ([] : List Loc) = locs at hS ⊢
  refine lv_iconst (v := 5) hx hb dX3_gainOf_0 (by decide) ?_
  refine lv_aload_n hx hb dX3_gainOf_1 rfl (lv_at hl 0 rfl) ?_
  refine va_get (D := (dC, dI)) (ci := 3) (v := .ref (h 23)) (C := RX3) (T := TX3) (N := 14) hx hb hts hin_X3 hown hK hP 3 rfl rfl 2 (by decide) hw0 (fun _ h9 => h9) rfl dX3_gainOf_2 ?_
  refine lv_iload_n hx hb dX3_gainOf_5 rfl (lv_at hl 1 rfl) ?_
  refine va_iald hx hb hK hP 23 0 rfl rfl (vp_in_nI (n := k0) (N := 24) (by omega) (by decide)) dX3_gainOf_6 ?_
  have hb_1 := bPr k0 (by omega)
  refine lv_topi (fun x_2 ex_2 => ?_)
  obtain rfl : x_2 = nI (Pr k0) := ex_2.trans ((congrArg (F 23) (nI_clamp (n := k0) (by omega))).trans (hPr k0 (by omega)))
  refine lv_imul hx hb dX3_gainOf_7 ?_
  refine lv_topi (fun x_3 ex_3 => ?_)
  obtain rfl : x_3 = nI (5 * (Pr k0)) := ex_3.trans (pk_mul 5 (Pr k0))
  exact hret (nI (5 * (Pr k0))) () H locs 8 ls rfl dX3_gainOf_8 (by first | rfl | (simp []; done) | (exfalso; omega)) (hP) (hD) hS
def rm_X3_plannedRun : Room := { frames := 0, cells := 0, slots := 0, locals := 0 }
set_option maxHeartbeats 4000000 in
set_option maxRecDepth 100000 in
theorem c_X3_plannedRun (l : Launch) (dC : Nat → ClassId) (dI : Nat → Nat → Nat) (cI cZ cJ : ClassId) (h : Nat → Nat) (F : Nat → Nat → Int32) (V : Nat → Int32) (pf : Nat) (hV9 : V 9 = nI pf) (bV9 : pf ≤ 24) (k0 : Nat) (hk0 : k0 < 24)   : CtI l (dC, dI) vwCl (tys3 cI cZ cJ) yX3_plannedRun wsX3_plannedRun rm_X3_plannedRun [.ref (h 3), .int (nI k0)] (wC cI cZ h F V) (S := Unit) (fun r _ => r = if k0 < pf then (-1) else (V 8 >>> (nI k0 &&& 31)) &&& 1) (fun _ => wC cI cZ h F V) 0 0 := by
  refine ct_I (cc := cX3_plannedRun) (maxL := 2) (ty := .int) (own := RX3) (by decide) rfl rfl (Nat.le_of_ble_eq_true rfl) (lv := [(0, .ref (h 3)), (1, .int (nI k0))]) rfl ?_
  intro p e s m args below meth c A Q ls fx hK hP hD hA hl hret
  obtain ⟨hx, hb, hml, hown, hts⟩ := id fx
  have hS : va_S A s.heap s.heap [] := va_S.rf
  have hw0 := hts (.fieldLink RX3 44 "MirrorTower$Store" "plannedFrom" "I") (by decide +kernel)
  have hin_X3 : ∀ w ∈ u_ws RX3 TX3 14, w ∈ wsX3_plannedRun := by decide +kernel
  have hw2 := hts (.fieldLink RX3 88 "MirrorTower$Store" "planned" "I") (by decide +kernel)
  obtain ⟨H, hH⟩ : ∃ H, H = s.heap := ⟨_, rfl⟩
  rw [← hH] at hP ⊢
  have hS : va_S A s.heap H [] := by rw [hH]; exact hS
  generalize ([] : List Loc) = locs at hS ⊢
  refine lv_iload_n hx hb dX3_plannedRun_0 rfl (lv_at hl 1 rfl) ?_
  refine lv_aload_n hx hb dX3_plannedRun_1 rfl (lv_at hl 0 rfl) ?_
  refine va_get (D := (dC, dI)) (ci := 3) (v := .int (V 9)) (C := RX3) (T := TX3) (N := 14) hx hb hts hin_X3 hown hK hP 3 rfl rfl 13 (by decide) hw0 (fun _ h9 => h9) rfl dX3_plannedRun_2 ?_
  refine lv_topi (fun x_1 ex_1 => ?_)
  obtain rfl : x_1 = nI pf := ex_1.trans (hV9)
  refine lv_icmp_ge (tgt := 12) hx hb dX3_plannedRun_5 (by decide) (fun c_2 => ?_) (fun c_2 => ?_)
  · have c_2 : pf ≤ k0 := (nI_leI (a := pf) (b := k0) (by omega) (by omega)).mp c_2
    refine lv_aload_n hx hb dX3_plannedRun_12 rfl (lv_at hl 0 rfl) ?_
    refine va_get (D := (dC, dI)) (ci := 3) (v := .int (V 8)) (C := RX3) (T := TX3) (N := 14) hx hb hts hin_X3 hown hK hP 3 rfl rfl 12 (by decide) hw2 (fun _ h9 => h9) rfl dX3_plannedRun_13 ?_
    refine lv_iload_n hx hb dX3_plannedRun_16 rfl (lv_at hl 1 rfl) ?_
    refine lv_ishr hx hb dX3_plannedRun_17 ?_
    refine lv_iconst (v := 1) hx hb dX3_plannedRun_18 (by decide) ?_
    refine lv_iand hx hb dX3_plannedRun_19 ?_
    exact hret (((V 8) >>> ((nI k0) &&& 31)) &&& 1) () H locs 20 ls rfl dX3_plannedRun_20 (by rw [if_neg (by omega)]) (hP) (hD) hS
  · have c_2 : ¬ pf ≤ k0 := fun h => c_2 ((nI_leI (a := pf) (b := k0) (by omega) (by omega)).mpr h)
    refine lv_iconst (v := (-1)) hx hb dX3_plannedRun_8 (by decide) ?_
    refine lv_goto (tgt := 20) hx hb dX3_plannedRun_9 (by decide) ?_
    exact hret (-1) () H locs 20 ls rfl dX3_plannedRun_20 (by rw [if_pos (by omega)]) (hP) (hD) hS
def rm_X3_passHour0 : Room := { frames := 5, cells := 0, slots := 0, locals := 109 }
set_option maxHeartbeats 4000000 in
set_option maxRecDepth 100000 in
theorem c_X3_passHour0 (l : Launch) (dC : Nat → ClassId) (dI : Nat → Nat → Nat) (cI cZ cJ : ClassId) (h : Nat → Nat) (F : Nat → Nat → Int32) (V : Nat → Int32) (n : Nat) (hV1 : V 1 = nI n) (bV1 : n ≤ 40) (d : Nat) (hV2 : V 2 = nI d) (bV2 : d ≤ 20) (nw : Nat) (hV4 : V 4 = nI nw) (bV4 : nw ≤ 23) (un : Nat) (hV5 : V 5 = nI un) (bV5 : un ≤ 200) (wm : Nat) (hV6 : V 6 = nI wm) (bV6 : wm ≤ 1) (So : Nat → Nat) (hSo : ∀ i, i < 40 → F 9 i = nI (So i)) (bSo : ∀ i, i < 40 → So i ≤ 90) (Hh : Nat → Nat) (hHh : ∀ i, i < 24 → F 12 i = nI (Hh i)) (bHh : ∀ i, i < 24 → Hh i ≤ 9) (Wd : Nat → Nat) (hWd : ∀ i, i < 24 → F 13 i = nI (Wd i)) (bWd : ∀ i, i < 24 → Wd i ≤ 99) (Lm : Nat → Nat) (hLm : ∀ i, i < 4 → F 14 i = nI (Lm i)) (bLm : ∀ i, i < 4 → Lm i ≤ 10000) (Pr : Nat → Nat) (hPr : ∀ i, i < 24 → F 23 i = nI (Pr i)) (bPr : ∀ i, i < 24 → Pr i ≤ 999)    : CtI l (dC, dI) vwCl (tys3 cI cZ cJ) yX3_passHour wsX3_passHour rm_X3_passHour0 [.ref (h 3), .int 0] (wC cI cZ h F V) (S := Nat → Nat → Int32) (fun r u => (r = 0) ∧ (∀ j, j ∉ ([9, 15, 16, 17, 18] : List Nat) → u j = F j) ∧ ((∀ i, i < 40 → u 9 i = nI (grow So d n i)) ∧ ∀ i, i < 40 → grow So d n i ≤ 90)) (fun u => wC cI cZ h u (va_up (va_up (va_up (va_up V 5 (nI (min 200 (un + ahF F Hh So Wd Lm d n nw 0 / 100) - 0))) 6 0) 7 (V 7 + 0)) 4 (nI ((nw + 1) % 24)))) 0 0 := by
  refine ct_I (cc := cX3_passHour) (maxL := 5) (ty := .int) (own := RX3) (by decide) rfl rfl (Nat.le_of_ble_eq_true rfl) (lv := [(0, .ref (h 3)), (1, .int 0)]) rfl ?_
  intro p e s m args below meth c A Q ls fx hK hP hD hA hl hret
  obtain ⟨hx, hb, hml, hown, hts⟩ := id fx
  have hS : va_S A s.heap s.heap [] := va_S.rf
  have hw0 := hts (.fieldLink RX3 51 "MirrorTower$Store" "units" "I") (by decide +kernel)
  have hin_X3 : ∀ w ∈ u_ws RX3 TX3 14, w ∈ wsX3_passHour := by decide +kernel
  have hw2 := hts (.fieldLink RX3 15 "MirrorTower$Store" "cells" "LMirrorTower$Face;") (by decide +kernel)
  have hw3 := hts (.fieldLink RX3 48 "MirrorTower$Store" "now" "I") (by decide +kernel)
  have hw4 := hts (.fieldLink RX3 54 "MirrorTower$Store" "warm" "Z") (by decide +kernel)
  have hw5 := hts (.fieldLink RX3 58 "MirrorTower$Store" "earnings" "I") (by decide +kernel)
  have hw6 := hts (.fieldLink RX3 9 "MirrorTower$Store" "field" "LMirrorTower$Field;") (by decide +kernel)
  obtain ⟨H, hH⟩ : ∃ H, H = s.heap := ⟨_, rfl⟩
  rw [← hH] at hP ⊢
  have hS : va_S A s.heap H [] := by rw [hH]; exact hS
  generalize ([] : List Loc) = locs at hS ⊢
  refine lv_aload_n hx hb dX3_passHour_0 rfl (lv_at hl 0 rfl) ?_
  refine va_get (D := (dC, dI)) (ci := 3) (v := .int (V 5)) (C := RX3) (T := TX3) (N := 14) hx hb hts hin_X3 hown hK hP 3 rfl rfl 4 (by decide) hw0 (fun _ h9 => h9) rfl dX3_passHour_1 ?_
  refine lv_topi (fun x_1 ex_1 => ?_)
  obtain rfl : x_1 = nI un := ex_1.trans (hV5)
  refine lv_aload_n hx hb dX3_passHour_4 rfl (lv_at hl 0 rfl) ?_
  refine va_get (D := (dC, dI)) (ci := 3) (v := .ref (h 2)) (C := RX3) (T := TX3) (N := 14) hx hb hts hin_X3 hown hK hP 3 rfl rfl 1 (by decide) hw2 (fun _ h9 => h9) rfl dX3_passHour_5 ?_
  refine lv_aload_n hx hb dX3_passHour_8 rfl (lv_at hl 0 rfl) ?_
  refine va_get (D := (dC, dI)) (ci := 3) (v := .int (V 4)) (C := RX3) (T := TX3) (N := 14) hx hb hts hin_X3 hown hK hP 3 rfl rfl 3 (by decide) hw3 (fun _ h9 => h9) rfl dX3_passHour_9 ?_
  refine lv_topi (fun x_2 ex_2 => ?_)
  obtain rfl : x_2 = nI nw := ex_2.trans (hV4)
  refine lv_iconst (v := 0) hx hb dX3_passHour_12 (by decide) ?_
  refine cw_Vi (As := [.int (nI nw), .int 0]) (rest := [.int (nI un)]) (c_X0_aimAll l dC dI cI cZ cJ h F V n hV1 (by omega) d hV2 (by omega) So hSo bSo Hh hHh bHh Wd hWd bWd Lm hLm bLm nw 0 (by omega) (by omega)) fx (cwV 2 hts gX3_passHour_X0_aimAll rfl rfl rfl (by decide +kernel) ⟨Nat.le_of_ble_eq_true rfl, Nat.le_of_ble_eq_true rfl⟩) hK hP hD hS hA 2 rfl rfl rfl rfl hl.1 rfl (Nat.le_of_ble_eq_true rfl) dX3_passHour_13 ⟨Nat.le_of_ble_eq_true rfl, Nat.le_of_ble_eq_true rfl⟩ (fun r_3 u_4 H locs hw_5 hP hD hS => ?_)
  obtain ⟨F_6, rfl⟩ : ∃ z, z = u_4 := ⟨_, rfl⟩
  have hf_7 : ∀ j, j ∉ ([15, 16, 17, 18] : List Nat) → F_6 j = F j := hw_5.2.1
  have hP : va_P (dC, dI) vwCl (wC cI cZ h F_6 V) H := hP
  have hD : va_D A (wC cI cZ h F_6 V) := hD
  have hN_8 : ∀ i, i < 40 → F_6 9 i = nI (So i) := by rw [hf_7 9 (by decide)]; exact hSo
  have hN_9 : ∀ i, i < 24 → F_6 12 i = nI (Hh i) := by rw [hf_7 12 (by decide)]; exact hHh
  have hN_10 : ∀ i, i < 24 → F_6 13 i = nI (Wd i) := by rw [hf_7 13 (by decide)]; exact hWd
  have hN_11 : ∀ i, i < 4 → F_6 14 i = nI (Lm i) := by rw [hf_7 14 (by decide)]; exact hLm
  have hN_12 : ∀ i, i < 24 → F_6 23 i = nI (Pr i) := by rw [hf_7 23 (by decide)]; exact hPr
  have hN_13 : ∀ i, i < 4 → F_6 18 i = nI ((alF F Hh So Wd Lm d n nw 0) i) := hw_5.2.2.1
  have bN_14 : ∀ i, i < 4 → (alF F Hh So Wd Lm d n nw 0) i ≤ 10000 := hw_5.2.2.2.1
  have hb_15 : ahF F Hh So Wd Lm d n nw 0 ≤ 4000 := ahF_le (by omega) (bHh nw (by omega))
  obtain rfl : r_3 = nI (ahF F Hh So Wd Lm d n nw 0) := hw_5.1
  refine lv_bipush (v := 100) hx hb dX3_passHour_16 (by decide) ?_
  refine lv_idiv hx hb dX3_passHour_18 (by decide) ?_
  refine lv_topi (fun x_16 ex_16 => ?_)
  obtain rfl : x_16 = nI ((ahF F Hh So Wd Lm d n nw 0) / 100) := ex_16.trans (pk_div (a := ahF F Hh So Wd Lm d n nw 0) (d := 100) (by omega) (by omega) (by omega))
  refine cw_Si (As := [.int (nI un), .int (nI ((ahF F Hh So Wd Lm d n nw 0) / 100))]) (rest := []) (c_X3_filled l dC dI cI cZ cJ (wC cI cZ h F_6 V) un ((ahF F Hh So Wd Lm d n nw 0) / 100) (by omega)) fx (va_cwS 2 hts gX3_passHour_X3_filled rfl rfl rfl (by decide +kernel) ⟨Nat.le_of_ble_eq_true rfl, Nat.le_of_ble_eq_true rfl⟩) hK hP hD hS hA rfl hl.1 rfl (Nat.le_of_ble_eq_true rfl) dX3_passHour_19 ⟨Nat.le_of_ble_eq_true rfl, Nat.le_of_ble_eq_true rfl⟩ (fun r_17 u_18 H locs hw_19 hP hD hS => ?_)
  have hP : va_P (dC, dI) vwCl (wC cI cZ h F_6 V) H := hP
  have hD : va_D A (wC cI cZ h F_6 V) := hD
  obtain rfl : r_17 = nI (min 200 (un + ((ahF F Hh So Wd Lm d n nw 0) / 100))) := hw_19
  refine lv_istore_n (lv' := [(2, .int (nI (min 200 (un + ((ahF F Hh So Wd Lm d n nw 0) / 100))))), (0, .ref (h 3)), (1, .int 0)]) hx hb dX3_passHour_22 rfl hl (by decide) rfl (fun ls hl => ?_)
  refine lv_iload_n hx hb dX3_passHour_23 rfl (lv_at hl 2 rfl) ?_
  refine lv_if_eq (tgt := 37) hx hb dX3_passHour_24 (by decide) (fun c_20 => ?_) (fun c_20 => ?_)
  · refine lv_iconst (v := 0) hx hb dX3_passHour_37 (by decide) ?_
    refine lv_istore_n (lv' := [(3, .int 0), (2, .int (nI (min 200 (un + ((ahF F Hh So Wd Lm d n nw 0) / 100))))), (0, .ref (h 3)), (1, .int 0)]) hx hb dX3_passHour_38 rfl hl (by decide) rfl (fun ls hl => ?_)
    refine lv_iload_n hx hb dX3_passHour_39 rfl (lv_at hl 1 rfl) ?_
    refine lv_iload_n hx hb dX3_passHour_40 rfl (lv_at hl 0 rfl) ?_
    refine lv_icmp_ge (tgt := 46) hx hb dX3_passHour_41 (by decide) (fun c_21 => ?_) (fun c_21 => ?_)
    · have c_21 : 0 ≤ (min 200 (un + ((ahF F Hh So Wd Lm d n nw 0) / 100))) := (nI_leI (a := 0) (b := min 200 (un + ((ahF F Hh So Wd Lm d n nw 0) / 100))) (by omega) (by omega)).mp c_21
      refine lv_iload_n hx hb dX3_passHour_46 rfl (lv_at hl 3 rfl) ?_
      refine lv_if_eq (tgt := 61) hx hb dX3_passHour_47 (by decide) (fun c_22 => ?_) (fun c_22 => ?_)
      · refine lv_iconst (v := 0) hx hb dX3_passHour_61 (by decide) ?_
        refine lv_istore (lv' := [(4, .int 0), (3, .int 0), (2, .int (nI (min 200 (un + ((ahF F Hh So Wd Lm d n nw 0) / 100))))), (0, .ref (h 3)), (1, .int 0)]) hx hb dX3_passHour_62 hl (by decide) rfl (fun ls hl => ?_)
        refine lv_aload_n hx hb dX3_passHour_64 rfl (lv_at hl 3 rfl) ?_
        refine lv_iload_n hx hb dX3_passHour_65 rfl (lv_at hl 2 rfl) ?_
        refine lv_iload_n hx hb dX3_passHour_66 rfl (lv_at hl 1 rfl) ?_
        refine lv_isub hx hb dX3_passHour_67 ?_
        refine lv_topi (fun x_23 ex_23 => ?_)
        obtain rfl : x_23 = nI ((min 200 (un + ((ahF F Hh So Wd Lm d n nw 0) / 100))) - 0) := ex_23.trans (pk_sub (a := min 200 (un + ((ahF F Hh So Wd Lm d n nw 0) / 100))) (b := 0) (by omega))
        refine va_put (D := (dC, dI)) (ci := 3) (v := .int (nI ((min 200 (un + ((ahF F Hh So Wd Lm d n nw 0) / 100))) - 0))) (ty := .int) (C := RX3) (T := TX3) (N := 14) hx hb hts hin_X3 tyX3 tyX3_ok nmX3 hown hK hP hD hS 3 rfl rfl 4 (by decide) hw0 (fun _ h9 => h9) rfl (by decide +kernel) rfl rfl (Nat.le_of_ble_eq_true rfl) dX3_passHour_68 (fun H locs hP hD hS => ?_)
        have hP : va_P (dC, dI) vwCl (wC cI cZ h F_6 (va_up V 5 (nI ((min 200 (un + ((ahF F Hh So Wd Lm d n nw 0) / 100))) - 0)))) H := hP
        have hD : va_D A (wC cI cZ h F_6 (va_up V 5 (nI ((min 200 (un + ((ahF F Hh So Wd Lm d n nw 0) / 100))) - 0)))) := hD
        refine lv_aload_n hx hb dX3_passHour_71 rfl (lv_at hl 3 rfl) ?_
        refine lv_iload_n hx hb dX3_passHour_72 rfl (lv_at hl 4 rfl) ?_
        refine va_put (D := (dC, dI)) (ci := 3) (v := .int 0) (ty := .boolean) (C := RX3) (T := TX3) (N := 14) hx hb hts hin_X3 tyX3 tyX3_ok nmX3 hown hK hP hD hS 3 rfl rfl 5 (by decide) hw4 (fun _ h9 => h9) rfl (by decide +kernel) rfl rfl (Nat.le_of_ble_eq_true rfl) dX3_passHour_73 (fun H locs hP hD hS => ?_)
        have hP : va_P (dC, dI) vwCl (wC cI cZ h F_6 (va_up (va_up V 5 (nI ((min 200 (un + ((ahF F Hh So Wd Lm d n nw 0) / 100))) - 0))) 6 0)) H := hP
        have hD : va_D A (wC cI cZ h F_6 (va_up (va_up V 5 (nI ((min 200 (un + ((ahF F Hh So Wd Lm d n nw 0) / 100))) - 0))) 6 0)) := hD
        refine lv_aload_n hx hb dX3_passHour_76 rfl (lv_at hl 3 rfl) ?_
        refine lv_dup hx hb dX3_passHour_77 rfl ?_
        refine va_get (D := (dC, dI)) (ci := 3) (v := .int (V 7)) (C := RX3) (T := TX3) (N := 14) hx hb hts hin_X3 hown hK hP 3 rfl rfl 6 (by decide) hw5 (fun _ h9 => h9) rfl dX3_passHour_78 ?_
        refine lv_iload hx hb dX3_passHour_81 (lv_at hl 0 rfl) ?_
        refine lv_iadd hx hb dX3_passHour_83 ?_
        refine va_put (D := (dC, dI)) (ci := 3) (v := .int ((V 7) + 0)) (ty := .int) (C := RX3) (T := TX3) (N := 14) hx hb hts hin_X3 tyX3 tyX3_ok nmX3 hown hK hP hD hS 3 rfl rfl 6 (by decide) hw5 (fun _ h9 => h9) rfl (by decide +kernel) rfl rfl (Nat.le_of_ble_eq_true rfl) dX3_passHour_84 (fun H locs hP hD hS => ?_)
        have hP : va_P (dC, dI) vwCl (wC cI cZ h F_6 (va_up (va_up (va_up V 5 (nI ((min 200 (un + ((ahF F Hh So Wd Lm d n nw 0) / 100))) - 0))) 6 0) 7 ((V 7) + 0))) H := hP
        have hD : va_D A (wC cI cZ h F_6 (va_up (va_up (va_up V 5 (nI ((min 200 (un + ((ahF F Hh So Wd Lm d n nw 0) / 100))) - 0))) 6 0) 7 ((V 7) + 0))) := hD
        refine lv_aload_n hx hb dX3_passHour_87 rfl (lv_at hl 3 rfl) ?_
        refine va_get (D := (dC, dI)) (ci := 3) (v := .ref (h 1)) (C := RX3) (T := TX3) (N := 14) hx hb hts hin_X3 hown hK hP 3 rfl rfl 0 (by decide) hw6 (fun _ h9 => h9) rfl dX3_passHour_88 ?_
        refine cw_Vv (As := []) (rest := []) (c_X1_growSoil l dC dI cI cZ cJ h F_6 (va_up (va_up (va_up V 5 (nI ((min 200 (un + ((ahF F Hh So Wd Lm d n nw 0) / 100))) - 0))) 6 0) 7 ((V 7) + 0)) n hV1 (by omega) d hV2 (by omega) So hN_8 bSo) fx (cwV 0 hts gX3_passHour_X1_growSoil rfl rfl rfl (by decide +kernel) ⟨Nat.le_of_ble_eq_true rfl, Nat.le_of_ble_eq_true rfl⟩) hK hP hD hS hA 1 rfl rfl rfl rfl hl.1 rfl (Nat.le_of_ble_eq_true rfl) dX3_passHour_91 ⟨Nat.le_of_ble_eq_true rfl, Nat.le_of_ble_eq_true rfl⟩ (fun u_25 H locs hw_26 hP hD hS => ?_)
        obtain ⟨F_27, rfl⟩ : ∃ z, z = u_25 := ⟨_, rfl⟩
        have hf_28 : ∀ j, j ∉ ([9] : List Nat) → F_27 j = F_6 j := hw_26.1
        have hP : va_P (dC, dI) vwCl (wC cI cZ h F_27 (va_up (va_up (va_up V 5 (nI ((min 200 (un + ((ahF F Hh So Wd Lm d n nw 0) / 100))) - 0))) 6 0) 7 ((V 7) + 0))) H := hP
        have hD : va_D A (wC cI cZ h F_27 (va_up (va_up (va_up V 5 (nI ((min 200 (un + ((ahF F Hh So Wd Lm d n nw 0) / 100))) - 0))) 6 0) 7 ((V 7) + 0))) := hD
        have hN_29 : ∀ i, i < 24 → F_27 12 i = nI (Hh i) := by rw [hf_28 12 (by decide)]; exact hN_9
        have hN_30 : ∀ i, i < 24 → F_27 13 i = nI (Wd i) := by rw [hf_28 13 (by decide)]; exact hN_10
        have hN_31 : ∀ i, i < 4 → F_27 14 i = nI (Lm i) := by rw [hf_28 14 (by decide)]; exact hN_11
        have hN_32 : ∀ i, i < 24 → F_27 23 i = nI (Pr i) := by rw [hf_28 23 (by decide)]; exact hN_12
        have hN_33 : ∀ i, i < 4 → F_27 18 i = nI ((alF F Hh So Wd Lm d n nw 0) i) := by rw [hf_28 18 (by decide)]; exact hN_13
        have hN_34 : ∀ i, i < 40 → F_27 9 i = nI ((grow So d n) i) := hw_26.2.1
        have bN_35 : ∀ i, i < 40 → (grow So d n) i ≤ 90 := hw_26.2.2
        refine lv_aload_n hx hb dX3_passHour_94 rfl (lv_at hl 3 rfl) ?_
        refine lv_aload_n hx hb dX3_passHour_95 rfl (lv_at hl 3 rfl) ?_
        refine va_get (D := (dC, dI)) (ci := 3) (v := .int (V 4)) (C := RX3) (T := TX3) (N := 14) hx hb hts hin_X3 hown hK hP 3 rfl rfl 3 (by decide) hw3 (fun _ h9 => h9) rfl dX3_passHour_96 ?_
        refine lv_topi (fun x_36 ex_36 => ?_)
        obtain rfl : x_36 = nI nw := ex_36.trans (hV4)
        refine lv_iconst (v := 1) hx hb dX3_passHour_99 (by decide) ?_
        refine lv_iadd hx hb dX3_passHour_100 ?_
        refine lv_topi (fun x_37 ex_37 => ?_)
        obtain rfl : x_37 = nI (nw + 1) := ex_37.trans (nI_add nw 1)
        refine lv_bipush (v := 24) hx hb dX3_passHour_101 (by decide) ?_
        refine lv_irem hx hb dX3_passHour_103 (by decide) ?_
        refine lv_topi (fun x_38 ex_38 => ?_)
        obtain rfl : x_38 = nI ((nw + 1) % 24) := ex_38.trans (pk_rem (a := nw + 1) (d := 24) (by omega) (by omega) (by omega))
        refine va_put (D := (dC, dI)) (ci := 3) (v := .int (nI ((nw + 1) % 24))) (ty := .int) (C := RX3) (T := TX3) (N := 14) hx hb hts hin_X3 tyX3 tyX3_ok nmX3 hown hK hP hD hS 3 rfl rfl 3 (by decide) hw3 (fun _ h9 => h9) rfl (by decide +kernel) rfl rfl (Nat.le_of_ble_eq_true rfl) dX3_passHour_104 (fun H locs hP hD hS => ?_)
        have hP : va_P (dC, dI) vwCl (wC cI cZ h F_27 (va_up (va_up (va_up (va_up V 5 (nI ((min 200 (un + ((ahF F Hh So Wd Lm d n nw 0) / 100))) - 0))) 6 0) 7 ((V 7) + 0)) 4 (nI ((nw + 1) % 24)))) H := hP
        have hD : va_D A (wC cI cZ h F_27 (va_up (va_up (va_up (va_up V 5 (nI ((min 200 (un + ((ahF F Hh So Wd Lm d n nw 0) / 100))) - 0))) 6 0) 7 ((V 7) + 0)) 4 (nI ((nw + 1) % 24)))) := hD
        refine lv_iload hx hb dX3_passHour_107 (lv_at hl 0 rfl) ?_
        exact hret 0 F_27 H locs 109 ls rfl dX3_passHour_109 (⟨rfl, fun j hj => ((hf_28 j (fun h => hj ((by decide : ∀ x ∈ ([9] : List Nat), x ∈ ([9, 15, 16, 17, 18] : List Nat)) j h))).trans (hf_7 j (fun h => hj ((by decide : ∀ x ∈ ([15, 16, 17, 18] : List Nat), x ∈ ([9, 15, 16, 17, 18] : List Nat)) j h)))), hN_34, bN_35⟩) (hP) (hD) hS
      · exact absurd c_22 (by decide)
    · exact absurd (nI_pos' (by omega)) c_21
  · exact absurd c_20 (by decide)
def rm_X3_passHour1 : Room := { frames := 5, cells := 0, slots := 0, locals := 109 }
set_option maxHeartbeats 4000000 in
set_option maxRecDepth 100000 in
theorem c_X3_passHour1 (l : Launch) (dC : Nat → ClassId) (dI : Nat → Nat → Nat) (cI cZ cJ : ClassId) (h : Nat → Nat) (F : Nat → Nat → Int32) (V : Nat → Int32) (n : Nat) (hV1 : V 1 = nI n) (bV1 : n ≤ 40) (d : Nat) (hV2 : V 2 = nI d) (bV2 : d ≤ 20) (nw : Nat) (hV4 : V 4 = nI nw) (bV4 : nw ≤ 23) (un : Nat) (hV5 : V 5 = nI un) (bV5 : un ≤ 200) (wm : Nat) (hV6 : V 6 = nI wm) (bV6 : wm ≤ 1) (So : Nat → Nat) (hSo : ∀ i, i < 40 → F 9 i = nI (So i)) (bSo : ∀ i, i < 40 → So i ≤ 90) (Hh : Nat → Nat) (hHh : ∀ i, i < 24 → F 12 i = nI (Hh i)) (bHh : ∀ i, i < 24 → Hh i ≤ 9) (Wd : Nat → Nat) (hWd : ∀ i, i < 24 → F 13 i = nI (Wd i)) (bWd : ∀ i, i < 24 → Wd i ≤ 99) (Lm : Nat → Nat) (hLm : ∀ i, i < 4 → F 14 i = nI (Lm i)) (bLm : ∀ i, i < 4 → Lm i ≤ 10000) (Pr : Nat → Nat) (hPr : ∀ i, i < 24 → F 23 i = nI (Pr i)) (bPr : ∀ i, i < 24 → Pr i ≤ 999)    : CtI l (dC, dI) vwCl (tys3 cI cZ cJ) yX3_passHour wsX3_passHour rm_X3_passHour1 [.ref (h 3), .int 1] (wC cI cZ h F V) (S := (Nat → Nat → Int32) × (Nat → Int32)) (fun r u => (min 200 (un + ahF F Hh So Wd Lm d n nw 0 / 100) < 7 - 2 * wm ∧ r = (-1) ∧ u.2 = V ∧ (∀ j, j ∉ ([15, 16, 17, 18] : List Nat) → u.1 j = F j)) ∨ (¬ min 200 (un + ahF F Hh So Wd Lm d n nw 0 / 100) < 7 - 2 * wm ∧ r = nI (5 * Pr nw) ∧ u.2 = va_up (va_up (va_up (va_up V 5 (nI (min 200 (un + ahF F Hh So Wd Lm d n nw 0 / 100) - (7 - 2 * wm)))) 6 1) 7 (V 7 + nI (5 * Pr nw))) 4 (nI ((nw + 1) % 24)) ∧ (∀ j, j ∉ ([9, 15, 16, 17, 18] : List Nat) → u.1 j = F j) ∧ (∀ i, i < 40 → u.1 9 i = nI (grow So d n i)) ∧ ∀ i, i < 40 → grow So d n i ≤ 90)) (fun u => wC cI cZ h u.1 u.2) 0 0 := by
  refine ct_I (cc := cX3_passHour) (maxL := 5) (ty := .int) (own := RX3) (by decide) rfl rfl (Nat.le_of_ble_eq_true rfl) (lv := [(0, .ref (h 3)), (1, .int 1)]) rfl ?_
  intro p e s m args below meth c A Q ls fx hK hP hD hA hl hret
  obtain ⟨hx, hb, hml, hown, hts⟩ := id fx
  have hS : va_S A s.heap s.heap [] := va_S.rf
  have hw0 := hts (.fieldLink RX3 51 "MirrorTower$Store" "units" "I") (by decide +kernel)
  have hin_X3 : ∀ w ∈ u_ws RX3 TX3 14, w ∈ wsX3_passHour := by decide +kernel
  have hw2 := hts (.fieldLink RX3 15 "MirrorTower$Store" "cells" "LMirrorTower$Face;") (by decide +kernel)
  have hw3 := hts (.fieldLink RX3 48 "MirrorTower$Store" "now" "I") (by decide +kernel)
  have hw4 := hts (.fieldLink RX3 54 "MirrorTower$Store" "warm" "Z") (by decide +kernel)
  have hw5 := hts (.fieldLink RX3 58 "MirrorTower$Store" "earnings" "I") (by decide +kernel)
  have hw6 := hts (.fieldLink RX3 9 "MirrorTower$Store" "field" "LMirrorTower$Field;") (by decide +kernel)
  obtain ⟨H, hH⟩ : ∃ H, H = s.heap := ⟨_, rfl⟩
  rw [← hH] at hP ⊢
  have hS : va_S A s.heap H [] := by rw [hH]; exact hS
  generalize ([] : List Loc) = locs at hS ⊢
  refine lv_aload_n hx hb dX3_passHour_0 rfl (lv_at hl 0 rfl) ?_
  refine va_get (D := (dC, dI)) (ci := 3) (v := .int (V 5)) (C := RX3) (T := TX3) (N := 14) hx hb hts hin_X3 hown hK hP 3 rfl rfl 4 (by decide) hw0 (fun _ h9 => h9) rfl dX3_passHour_1 ?_
  refine lv_topi (fun x_1 ex_1 => ?_)
  obtain rfl : x_1 = nI un := ex_1.trans (hV5)
  refine lv_aload_n hx hb dX3_passHour_4 rfl (lv_at hl 0 rfl) ?_
  refine va_get (D := (dC, dI)) (ci := 3) (v := .ref (h 2)) (C := RX3) (T := TX3) (N := 14) hx hb hts hin_X3 hown hK hP 3 rfl rfl 1 (by decide) hw2 (fun _ h9 => h9) rfl dX3_passHour_5 ?_
  refine lv_aload_n hx hb dX3_passHour_8 rfl (lv_at hl 0 rfl) ?_
  refine va_get (D := (dC, dI)) (ci := 3) (v := .int (V 4)) (C := RX3) (T := TX3) (N := 14) hx hb hts hin_X3 hown hK hP 3 rfl rfl 3 (by decide) hw3 (fun _ h9 => h9) rfl dX3_passHour_9 ?_
  refine lv_topi (fun x_2 ex_2 => ?_)
  obtain rfl : x_2 = nI nw := ex_2.trans (hV4)
  refine lv_iconst (v := 0) hx hb dX3_passHour_12 (by decide) ?_
  refine cw_Vi (As := [.int (nI nw), .int 0]) (rest := [.int (nI un)]) (c_X0_aimAll l dC dI cI cZ cJ h F V n hV1 (by omega) d hV2 (by omega) So hSo bSo Hh hHh bHh Wd hWd bWd Lm hLm bLm nw 0 (by omega) (by omega)) fx (cwV 2 hts gX3_passHour_X0_aimAll rfl rfl rfl (by decide +kernel) ⟨Nat.le_of_ble_eq_true rfl, Nat.le_of_ble_eq_true rfl⟩) hK hP hD hS hA 2 rfl rfl rfl rfl hl.1 rfl (Nat.le_of_ble_eq_true rfl) dX3_passHour_13 ⟨Nat.le_of_ble_eq_true rfl, Nat.le_of_ble_eq_true rfl⟩ (fun r_3 u_4 H locs hw_5 hP hD hS => ?_)
  obtain ⟨F_6, rfl⟩ : ∃ z, z = u_4 := ⟨_, rfl⟩
  have hf_7 : ∀ j, j ∉ ([15, 16, 17, 18] : List Nat) → F_6 j = F j := hw_5.2.1
  have hP : va_P (dC, dI) vwCl (wC cI cZ h F_6 V) H := hP
  have hD : va_D A (wC cI cZ h F_6 V) := hD
  have hN_8 : ∀ i, i < 40 → F_6 9 i = nI (So i) := by rw [hf_7 9 (by decide)]; exact hSo
  have hN_9 : ∀ i, i < 24 → F_6 12 i = nI (Hh i) := by rw [hf_7 12 (by decide)]; exact hHh
  have hN_10 : ∀ i, i < 24 → F_6 13 i = nI (Wd i) := by rw [hf_7 13 (by decide)]; exact hWd
  have hN_11 : ∀ i, i < 4 → F_6 14 i = nI (Lm i) := by rw [hf_7 14 (by decide)]; exact hLm
  have hN_12 : ∀ i, i < 24 → F_6 23 i = nI (Pr i) := by rw [hf_7 23 (by decide)]; exact hPr
  have hN_13 : ∀ i, i < 4 → F_6 18 i = nI ((alF F Hh So Wd Lm d n nw 0) i) := hw_5.2.2.1
  have bN_14 : ∀ i, i < 4 → (alF F Hh So Wd Lm d n nw 0) i ≤ 10000 := hw_5.2.2.2.1
  have hb_15 : ahF F Hh So Wd Lm d n nw 0 ≤ 4000 := ahF_le (by omega) (bHh nw (by omega))
  obtain rfl : r_3 = nI (ahF F Hh So Wd Lm d n nw 0) := hw_5.1
  refine lv_bipush (v := 100) hx hb dX3_passHour_16 (by decide) ?_
  refine lv_idiv hx hb dX3_passHour_18 (by decide) ?_
  refine lv_topi (fun x_16 ex_16 => ?_)
  obtain rfl : x_16 = nI ((ahF F Hh So Wd Lm d n nw 0) / 100) := ex_16.trans (pk_div (a := ahF F Hh So Wd Lm d n nw 0) (d := 100) (by omega) (by omega) (by omega))
  refine cw_Si (As := [.int (nI un), .int (nI ((ahF F Hh So Wd Lm d n nw 0) / 100))]) (rest := []) (c_X3_filled l dC dI cI cZ cJ (wC cI cZ h F_6 V) un ((ahF F Hh So Wd Lm d n nw 0) / 100) (by omega)) fx (va_cwS 2 hts gX3_passHour_X3_filled rfl rfl rfl (by decide +kernel) ⟨Nat.le_of_ble_eq_true rfl, Nat.le_of_ble_eq_true rfl⟩) hK hP hD hS hA rfl hl.1 rfl (Nat.le_of_ble_eq_true rfl) dX3_passHour_19 ⟨Nat.le_of_ble_eq_true rfl, Nat.le_of_ble_eq_true rfl⟩ (fun r_17 u_18 H locs hw_19 hP hD hS => ?_)
  have hP : va_P (dC, dI) vwCl (wC cI cZ h F_6 V) H := hP
  have hD : va_D A (wC cI cZ h F_6 V) := hD
  obtain rfl : r_17 = nI (min 200 (un + ((ahF F Hh So Wd Lm d n nw 0) / 100))) := hw_19
  refine lv_istore_n (lv' := [(2, .int (nI (min 200 (un + ((ahF F Hh So Wd Lm d n nw 0) / 100))))), (0, .ref (h 3)), (1, .int 1)]) hx hb dX3_passHour_22 rfl hl (by decide) rfl (fun ls hl => ?_)
  refine lv_iload_n hx hb dX3_passHour_23 rfl (lv_at hl 2 rfl) ?_
  refine lv_if_eq (tgt := 37) hx hb dX3_passHour_24 (by decide) (fun c_20 => ?_) (fun c_20 => ?_)
  · exact absurd c_20 (by decide)
  · refine lv_aload_n hx hb dX3_passHour_27 rfl (lv_at hl 1 rfl) ?_
    refine va_get (D := (dC, dI)) (ci := 3) (v := .int (V 6)) (C := RX3) (T := TX3) (N := 14) hx hb hts hin_X3 hown hK hP 3 rfl rfl 5 (by decide) hw4 (fun _ h9 => h9) rfl dX3_passHour_28 ?_
    refine lv_topi (fun x_21 ex_21 => ?_)
    obtain rfl : x_21 = nI wm := ex_21.trans (hV6)
    refine cw_Si (As := [.int (nI wm)]) (rest := []) (c_X3_needed l dC dI cI cZ cJ (wC cI cZ h F_6 V) wm (by omega)) fx (va_cwS 1 hts gX3_passHour_X3_needed rfl rfl rfl (by decide +kernel) ⟨Nat.le_of_ble_eq_true rfl, Nat.le_of_ble_eq_true rfl⟩) hK hP hD hS hA rfl hl.1 rfl (Nat.le_of_ble_eq_true rfl) dX3_passHour_31 ⟨Nat.le_of_ble_eq_true rfl, Nat.le_of_ble_eq_true rfl⟩ (fun r_22 u_23 H locs hw_24 hP hD hS => ?_)
    have hP : va_P (dC, dI) vwCl (wC cI cZ h F_6 V) H := hP
    have hD : va_D A (wC cI cZ h F_6 V) := hD
    obtain rfl : r_22 = nI (7 - 2 * wm) := hw_24
    refine lv_goto (tgt := 38) hx hb dX3_passHour_34 (by decide) ?_
    refine lv_istore_n (lv' := [(3, .int (nI (7 - 2 * wm))), (2, .int (nI (min 200 (un + ((ahF F Hh So Wd Lm d n nw 0) / 100))))), (0, .ref (h 3)), (1, .int 1)]) hx hb dX3_passHour_38 rfl hl (by decide) rfl (fun ls hl => ?_)
    refine lv_iload_n hx hb dX3_passHour_39 rfl (lv_at hl 1 rfl) ?_
    refine lv_iload_n hx hb dX3_passHour_40 rfl (lv_at hl 0 rfl) ?_
    refine lv_icmp_ge (tgt := 46) hx hb dX3_passHour_41 (by decide) (fun c_25 => ?_) (fun c_25 => ?_)
    · have c_25 : (7 - 2 * wm) ≤ (min 200 (un + ((ahF F Hh So Wd Lm d n nw 0) / 100))) := (nI_leI (a := 7 - 2 * wm) (b := min 200 (un + ((ahF F Hh So Wd Lm d n nw 0) / 100))) (by omega) (by omega)).mp c_25
      refine lv_iload_n hx hb dX3_passHour_46 rfl (lv_at hl 3 rfl) ?_
      refine lv_if_eq (tgt := 61) hx hb dX3_passHour_47 (by decide) (fun c_26 => ?_) (fun c_26 => ?_)
      · exact absurd c_26 (by decide)
      · refine lv_aload_n hx hb dX3_passHour_50 rfl (lv_at hl 2 rfl) ?_
        refine lv_aload_n hx hb dX3_passHour_51 rfl (lv_at hl 2 rfl) ?_
        refine va_get (D := (dC, dI)) (ci := 3) (v := .int (V 4)) (C := RX3) (T := TX3) (N := 14) hx hb hts hin_X3 hown hK hP 3 rfl rfl 3 (by decide) hw3 (fun _ h9 => h9) rfl dX3_passHour_52 ?_
        refine lv_topi (fun x_27 ex_27 => ?_)
        obtain rfl : x_27 = nI nw := ex_27.trans (hV4)
        refine cw_Vi (As := [.int (nI nw)]) (rest := []) (c_X3_gainOf l dC dI cI cZ cJ h F_6 V Pr hN_12 bPr nw (by omega)) fx (cwV 1 hts gX3_passHour_X3_gainOf rfl rfl rfl (by decide +kernel) ⟨Nat.le_of_ble_eq_true rfl, Nat.le_of_ble_eq_true rfl⟩) hK hP hD hS hA 3 rfl rfl rfl rfl hl.1 rfl (Nat.le_of_ble_eq_true rfl) dX3_passHour_55 ⟨Nat.le_of_ble_eq_true rfl, Nat.le_of_ble_eq_true rfl⟩ (fun r_28 u_29 H locs hw_30 hP hD hS => ?_)
        have hP : va_P (dC, dI) vwCl (wC cI cZ h F_6 V) H := hP
        have hD : va_D A (wC cI cZ h F_6 V) := hD
        obtain rfl : r_28 = nI (5 * Pr nw) := hw_30
        refine lv_goto (tgt := 62) hx hb dX3_passHour_58 (by decide) ?_
        refine lv_istore (lv' := [(4, .int (nI (5 * Pr nw))), (3, .int (nI (7 - 2 * wm))), (2, .int (nI (min 200 (un + ((ahF F Hh So Wd Lm d n nw 0) / 100))))), (0, .ref (h 3)), (1, .int 1)]) hx hb dX3_passHour_62 hl (by decide) rfl (fun ls hl => ?_)
        refine lv_aload_n hx hb dX3_passHour_64 rfl (lv_at hl 3 rfl) ?_
        refine lv_iload_n hx hb dX3_passHour_65 rfl (lv_at hl 2 rfl) ?_
        refine lv_iload_n hx hb dX3_passHour_66 rfl (lv_at hl 1 rfl) ?_
        refine lv_isub hx hb dX3_passHour_67 ?_
        refine lv_topi (fun x_31 ex_31 => ?_)
        obtain rfl : x_31 = nI ((min 200 (un + ((ahF F Hh So Wd Lm d n nw 0) / 100))) - (7 - 2 * wm)) := ex_31.trans (pk_sub (a := min 200 (un + ((ahF F Hh So Wd Lm d n nw 0) / 100))) (b := 7 - 2 * wm) (by omega))
        refine va_put (D := (dC, dI)) (ci := 3) (v := .int (nI ((min 200 (un + ((ahF F Hh So Wd Lm d n nw 0) / 100))) - (7 - 2 * wm)))) (ty := .int) (C := RX3) (T := TX3) (N := 14) hx hb hts hin_X3 tyX3 tyX3_ok nmX3 hown hK hP hD hS 3 rfl rfl 4 (by decide) hw0 (fun _ h9 => h9) rfl (by decide +kernel) rfl rfl (Nat.le_of_ble_eq_true rfl) dX3_passHour_68 (fun H locs hP hD hS => ?_)
        have hP : va_P (dC, dI) vwCl (wC cI cZ h F_6 (va_up V 5 (nI ((min 200 (un + ((ahF F Hh So Wd Lm d n nw 0) / 100))) - (7 - 2 * wm))))) H := hP
        have hD : va_D A (wC cI cZ h F_6 (va_up V 5 (nI ((min 200 (un + ((ahF F Hh So Wd Lm d n nw 0) / 100))) - (7 - 2 * wm))))) := hD
        refine lv_aload_n hx hb dX3_passHour_71 rfl (lv_at hl 3 rfl) ?_
        refine lv_iload_n hx hb dX3_passHour_72 rfl (lv_at hl 4 rfl) ?_
        refine va_put (D := (dC, dI)) (ci := 3) (v := .int 1) (ty := .boolean) (C := RX3) (T := TX3) (N := 14) hx hb hts hin_X3 tyX3 tyX3_ok nmX3 hown hK hP hD hS 3 rfl rfl 5 (by decide) hw4 (fun _ h9 => h9) rfl (by decide +kernel) rfl rfl (Nat.le_of_ble_eq_true rfl) dX3_passHour_73 (fun H locs hP hD hS => ?_)
        have hP : va_P (dC, dI) vwCl (wC cI cZ h F_6 (va_up (va_up V 5 (nI ((min 200 (un + ((ahF F Hh So Wd Lm d n nw 0) / 100))) - (7 - 2 * wm)))) 6 1)) H := hP
        have hD : va_D A (wC cI cZ h F_6 (va_up (va_up V 5 (nI ((min 200 (un + ((ahF F Hh So Wd Lm d n nw 0) / 100))) - (7 - 2 * wm)))) 6 1)) := hD
        refine lv_aload_n hx hb dX3_passHour_76 rfl (lv_at hl 3 rfl) ?_
        refine lv_dup hx hb dX3_passHour_77 rfl ?_
        refine va_get (D := (dC, dI)) (ci := 3) (v := .int (V 7)) (C := RX3) (T := TX3) (N := 14) hx hb hts hin_X3 hown hK hP 3 rfl rfl 6 (by decide) hw5 (fun _ h9 => h9) rfl dX3_passHour_78 ?_
        refine lv_iload hx hb dX3_passHour_81 (lv_at hl 0 rfl) ?_
        refine lv_iadd hx hb dX3_passHour_83 ?_
        refine va_put (D := (dC, dI)) (ci := 3) (v := .int ((V 7) + (nI (5 * Pr nw)))) (ty := .int) (C := RX3) (T := TX3) (N := 14) hx hb hts hin_X3 tyX3 tyX3_ok nmX3 hown hK hP hD hS 3 rfl rfl 6 (by decide) hw5 (fun _ h9 => h9) rfl (by decide +kernel) rfl rfl (Nat.le_of_ble_eq_true rfl) dX3_passHour_84 (fun H locs hP hD hS => ?_)
        have hP : va_P (dC, dI) vwCl (wC cI cZ h F_6 (va_up (va_up (va_up V 5 (nI ((min 200 (un + ((ahF F Hh So Wd Lm d n nw 0) / 100))) - (7 - 2 * wm)))) 6 1) 7 ((V 7) + (nI (5 * Pr nw))))) H := hP
        have hD : va_D A (wC cI cZ h F_6 (va_up (va_up (va_up V 5 (nI ((min 200 (un + ((ahF F Hh So Wd Lm d n nw 0) / 100))) - (7 - 2 * wm)))) 6 1) 7 ((V 7) + (nI (5 * Pr nw))))) := hD
        refine lv_aload_n hx hb dX3_passHour_87 rfl (lv_at hl 3 rfl) ?_
        refine va_get (D := (dC, dI)) (ci := 3) (v := .ref (h 1)) (C := RX3) (T := TX3) (N := 14) hx hb hts hin_X3 hown hK hP 3 rfl rfl 0 (by decide) hw6 (fun _ h9 => h9) rfl dX3_passHour_88 ?_
        refine cw_Vv (As := []) (rest := []) (c_X1_growSoil l dC dI cI cZ cJ h F_6 (va_up (va_up (va_up V 5 (nI ((min 200 (un + ((ahF F Hh So Wd Lm d n nw 0) / 100))) - (7 - 2 * wm)))) 6 1) 7 ((V 7) + (nI (5 * Pr nw)))) n hV1 (by omega) d hV2 (by omega) So hN_8 bSo) fx (cwV 0 hts gX3_passHour_X1_growSoil rfl rfl rfl (by decide +kernel) ⟨Nat.le_of_ble_eq_true rfl, Nat.le_of_ble_eq_true rfl⟩) hK hP hD hS hA 1 rfl rfl rfl rfl hl.1 rfl (Nat.le_of_ble_eq_true rfl) dX3_passHour_91 ⟨Nat.le_of_ble_eq_true rfl, Nat.le_of_ble_eq_true rfl⟩ (fun u_33 H locs hw_34 hP hD hS => ?_)
        obtain ⟨F_35, rfl⟩ : ∃ z, z = u_33 := ⟨_, rfl⟩
        have hf_36 : ∀ j, j ∉ ([9] : List Nat) → F_35 j = F_6 j := hw_34.1
        have hP : va_P (dC, dI) vwCl (wC cI cZ h F_35 (va_up (va_up (va_up V 5 (nI ((min 200 (un + ((ahF F Hh So Wd Lm d n nw 0) / 100))) - (7 - 2 * wm)))) 6 1) 7 ((V 7) + (nI (5 * Pr nw))))) H := hP
        have hD : va_D A (wC cI cZ h F_35 (va_up (va_up (va_up V 5 (nI ((min 200 (un + ((ahF F Hh So Wd Lm d n nw 0) / 100))) - (7 - 2 * wm)))) 6 1) 7 ((V 7) + (nI (5 * Pr nw))))) := hD
        have hN_37 : ∀ i, i < 24 → F_35 12 i = nI (Hh i) := by rw [hf_36 12 (by decide)]; exact hN_9
        have hN_38 : ∀ i, i < 24 → F_35 13 i = nI (Wd i) := by rw [hf_36 13 (by decide)]; exact hN_10
        have hN_39 : ∀ i, i < 4 → F_35 14 i = nI (Lm i) := by rw [hf_36 14 (by decide)]; exact hN_11
        have hN_40 : ∀ i, i < 24 → F_35 23 i = nI (Pr i) := by rw [hf_36 23 (by decide)]; exact hN_12
        have hN_41 : ∀ i, i < 4 → F_35 18 i = nI ((alF F Hh So Wd Lm d n nw 0) i) := by rw [hf_36 18 (by decide)]; exact hN_13
        have hN_42 : ∀ i, i < 40 → F_35 9 i = nI ((grow So d n) i) := hw_34.2.1
        have bN_43 : ∀ i, i < 40 → (grow So d n) i ≤ 90 := hw_34.2.2
        refine lv_aload_n hx hb dX3_passHour_94 rfl (lv_at hl 3 rfl) ?_
        refine lv_aload_n hx hb dX3_passHour_95 rfl (lv_at hl 3 rfl) ?_
        refine va_get (D := (dC, dI)) (ci := 3) (v := .int (V 4)) (C := RX3) (T := TX3) (N := 14) hx hb hts hin_X3 hown hK hP 3 rfl rfl 3 (by decide) hw3 (fun _ h9 => h9) rfl dX3_passHour_96 ?_
        refine lv_topi (fun x_44 ex_44 => ?_)
        obtain rfl : x_44 = nI nw := ex_44.trans (hV4)
        refine lv_iconst (v := 1) hx hb dX3_passHour_99 (by decide) ?_
        refine lv_iadd hx hb dX3_passHour_100 ?_
        refine lv_topi (fun x_45 ex_45 => ?_)
        obtain rfl : x_45 = nI (nw + 1) := ex_45.trans (nI_add nw 1)
        refine lv_bipush (v := 24) hx hb dX3_passHour_101 (by decide) ?_
        refine lv_irem hx hb dX3_passHour_103 (by decide) ?_
        refine lv_topi (fun x_46 ex_46 => ?_)
        obtain rfl : x_46 = nI ((nw + 1) % 24) := ex_46.trans (pk_rem (a := nw + 1) (d := 24) (by omega) (by omega) (by omega))
        refine va_put (D := (dC, dI)) (ci := 3) (v := .int (nI ((nw + 1) % 24))) (ty := .int) (C := RX3) (T := TX3) (N := 14) hx hb hts hin_X3 tyX3 tyX3_ok nmX3 hown hK hP hD hS 3 rfl rfl 3 (by decide) hw3 (fun _ h9 => h9) rfl (by decide +kernel) rfl rfl (Nat.le_of_ble_eq_true rfl) dX3_passHour_104 (fun H locs hP hD hS => ?_)
        have hP : va_P (dC, dI) vwCl (wC cI cZ h F_35 (va_up (va_up (va_up (va_up V 5 (nI ((min 200 (un + ((ahF F Hh So Wd Lm d n nw 0) / 100))) - (7 - 2 * wm)))) 6 1) 7 ((V 7) + (nI (5 * Pr nw)))) 4 (nI ((nw + 1) % 24)))) H := hP
        have hD : va_D A (wC cI cZ h F_35 (va_up (va_up (va_up (va_up V 5 (nI ((min 200 (un + ((ahF F Hh So Wd Lm d n nw 0) / 100))) - (7 - 2 * wm)))) 6 1) 7 ((V 7) + (nI (5 * Pr nw)))) 4 (nI ((nw + 1) % 24)))) := hD
        refine lv_iload hx hb dX3_passHour_107 (lv_at hl 0 rfl) ?_
        exact hret (nI (5 * Pr nw)) (F_35, va_up (va_up (va_up (va_up V 5 (nI ((min 200 (un + ((ahF F Hh So Wd Lm d n nw 0) / 100))) - (7 - 2 * wm)))) 6 1) 7 ((V 7) + (nI (5 * Pr nw)))) 4 (nI ((nw + 1) % 24))) H locs 109 ls rfl dX3_passHour_109 (Or.inr ⟨by omega, rfl, rfl, fun j hj => ((hf_36 j (fun h => hj ((by decide : ∀ x ∈ ([9] : List Nat), x ∈ ([9, 15, 16, 17, 18] : List Nat)) j h))).trans (hf_7 j (fun h => hj ((by decide : ∀ x ∈ ([15, 16, 17, 18] : List Nat), x ∈ ([9, 15, 16, 17, 18] : List Nat)) j h)))), hN_42, bN_43⟩) (hP) (hD) hS
    · have c_25 : ¬ (7 - 2 * wm) ≤ (min 200 (un + ((ahF F Hh So Wd Lm d n nw 0) / 100))) := fun h => c_25 ((nI_leI (a := 7 - 2 * wm) (b := min 200 (un + ((ahF F Hh So Wd Lm d n nw 0) / 100))) (by omega) (by omega)).mpr h)
      refine lv_iconst (v := (-1)) hx hb dX3_passHour_44 (by decide) ?_
      exact hret (-1) (F_6, V) H locs 45 ls rfl dX3_passHour_45 (Or.inl ⟨by omega, rfl, rfl, fun j hj => (hf_7 j (fun h => hj ((by decide : ∀ x ∈ ([15, 16, 17, 18] : List Nat), x ∈ ([15, 16, 17, 18] : List Nat)) j h)))⟩) (hP) (hD) hS
