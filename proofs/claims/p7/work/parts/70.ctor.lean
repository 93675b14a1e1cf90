theorem arr0I (n : Nat) : ∀ cA : ClassId, vp_cell cA (n, .inl (fun _ => 0)) = arrV cA n (fun _ => defaultValue .int) := fun _ => rfl
theorem arr0Z (n : Nat) : ∀ cA : ClassId, vp_cell cA (n, .inl (fun _ => 0)) = arrV cA n (fun _ => defaultValue .boolean) := fun _ => rfl
theorem arr0J (n : Nat) : ∀ cA : ClassId, vp_cell cA (n, .inr (.inl (fun _ => 0))) = arrV cA n (fun _ => defaultValue .long) := fun _ => rfl
theorem nfs_X0 : ∀ j, j < 11 → defaultValue (tyX0 j) = vp_V [.null, .null, .null, .null, .null, .null, .null, .null, .int 0, .null, .null] j := fun j hj => match j, hj with
  | 0, _ => rfl
  | 1, _ => rfl
  | 2, _ => rfl
  | 3, _ => rfl
  | 4, _ => rfl
  | 5, _ => rfl
  | 6, _ => rfl
  | 7, _ => rfl
  | 8, _ => rfl
  | 9, _ => rfl
  | 10, _ => rfl
  | n + 11, h => absurd h (by omega)
theorem nfs_X1 : ∀ j, j < 11 → defaultValue (tyX1 j) = vp_V [.null, .null, .null, .null, .null, .int 0, .null, .null, .null, .null, .int 0] j := fun j hj => match j, hj with
  | 0, _ => rfl
  | 1, _ => rfl
  | 2, _ => rfl
  | 3, _ => rfl
  | 4, _ => rfl
  | 5, _ => rfl
  | 6, _ => rfl
  | 7, _ => rfl
  | 8, _ => rfl
  | 9, _ => rfl
  | 10, _ => rfl
  | n + 11, h => absurd h (by omega)
theorem nfs_X2 : ∀ j, j < 5 → defaultValue (tyX2 j) = vp_V [.null, .int 0, .int 0, .int 0, .null] j := fun j hj => match j, hj with
  | 0, _ => rfl
  | 1, _ => rfl
  | 2, _ => rfl
  | 3, _ => rfl
  | 4, _ => rfl
  | n + 5, h => absurd h (by omega)
theorem nfs_X3 : ∀ j, j < 14 → defaultValue (tyX3 j) = vp_V [.null, .null, .null, .int 0, .int 0, .int 0, .int 0, .null, .null, .null, .null, .null, .int 0, .int 0] j := fun j hj => match j, hj with
  | 0, _ => rfl
  | 1, _ => rfl
  | 2, _ => rfl
  | 3, _ => rfl
  | 4, _ => rfl
  | 5, _ => rfl
  | 6, _ => rfl
  | 7, _ => rfl
  | 8, _ => rfl
  | 9, _ => rfl
  | 10, _ => rfl
  | 11, _ => rfl
  | 12, _ => rfl
  | 13, _ => rfl
  | n + 14, h => absurd h (by omega)
theorem nfs_X4 : ∀ j, j < 5 → defaultValue (tyX4 j) = vp_V [.null, .null, .null, .null, .int 0] j := fun j hj => match j, hj with
  | 0, _ => rfl
  | 1, _ => rfl
  | 2, _ => rfl
  | 3, _ => rfl
  | 4, _ => rfl
  | n + 5, h => absurd h (by omega)
theorem nfs_X5 : ∀ j, j < 33 → defaultValue (tyX5 j) = vp_V [.int 0, .int 0, .int 0, .int 0, .int 0, .int 0, .int 0, .int 0, .null, .null, .null, .null, .null, .null, .null, .null, .null, .null, .null, .null, .null, .null, .null, .int 0, .int 0, .null, .null, .int 0, .null, .null, .null, .int 0, .null] j := fun j hj => match j, hj with
  | 0, _ => rfl
  | 1, _ => rfl
  | 2, _ => rfl
  | 3, _ => rfl
  | 4, _ => rfl
  | 5, _ => rfl
  | 6, _ => rfl
  | 7, _ => rfl
  | 8, _ => rfl
  | 9, _ => rfl
  | 10, _ => rfl
  | 11, _ => rfl
  | 12, _ => rfl
  | 13, _ => rfl
  | 14, _ => rfl
  | 15, _ => rfl
  | 16, _ => rfl
  | 17, _ => rfl
  | 18, _ => rfl
  | 19, _ => rfl
  | 20, _ => rfl
  | 21, _ => rfl
  | 22, _ => rfl
  | 23, _ => rfl
  | 24, _ => rfl
  | 25, _ => rfl
  | 26, _ => rfl
  | 27, _ => rfl
  | 28, _ => rfl
  | 29, _ => rfl
  | 30, _ => rfl
  | 31, _ => rfl
  | 32, _ => rfl
  | n + 33, h => absurd h (by omega)
def rm_X1_init : Room := { frames := 1, cells := 9, slots := 271, locals := 20 }
set_option maxHeartbeats 4000000 in
set_option maxRecDepth 100000 in
theorem c_X1_init (l : Launch) (dC : Nat → ClassId) (dI : Nat → Nat → Nat) (cI cZ cJ : ClassId) (b : Nat) : CtV l (dC, dI) vwCl (tys3 cI cZ cJ) yX1_init wsX1_init rm_X1_init [.ref b] [(b, .inr (1, [.null, .null, .null, .null, .null, .int 0, .null, .null, .null, .null, .int 0]))] (S := Nat → Nat) (fun _ => True) (fun u => [(b, .inr (1, [.ref (u 5), .ref (u 6), .ref (u 7), .ref (u 8), .ref (u 9), .int 0, .ref (u 10), .ref (u 11), .ref (u 12), .ref (u 13), .int 1])), (u 5, .inl (cI, 15, .inl (fun _ => 0))), (u 6, .inl (cI, 40, .inl (fun _ => 0))), (u 7, .inl (cI, 40, .inl (fun _ => 0))), (u 8, .inl (cI, 40, .inl (fun _ => 0))), (u 9, .inl (cI, 40, .inl (fun _ => 0))), (u 10, .inl (cI, 24, .inl (fun _ => 0))), (u 11, .inl (cI, 24, .inl (fun _ => 0))), (u 12, .inl (cI, 24, .inl (fun _ => 0))), (u 13, .inl (cI, 24, .inl (fun _ => 0)))]) 9 271 := by
  refine ct_V (cc := cX1_init) (maxL := 1) (own := RX1) (by decide) rfl rfl (Nat.le_of_ble_eq_true rfl) (lv := [(0, .ref b)]) rfl ?_
  intro p e s m args below meth c A Q ls hnm fx hK hP hD hA hl hret
  obtain ⟨hx, hb, hml, hown, hts⟩ := id fx
  have hS : va_S A s.heap s.heap [] := va_S.rf
  have hw0 := hts (.methodLink RX1 3 objectInit) (by decide +kernel)
  have hw1 := hts (.instanceMethod objectInit) (by decide +kernel)
  have hw2 := hts (.code objectInit ⟨#[0xb1]⟩ 1 none) (by decide +kernel)
  have hw3 := hts (.arrayClass .int) (by decide +kernel)
  have hw4 := hts (.fieldLink RX1 9 "MirrorTower$Field" "taken" "[I") (by decide +kernel)
  have hin_X1 : ∀ w ∈ u_ws RX1 TX1 11, w ∈ wsX1_init := by decide +kernel
  have hw6 := hts (.fieldLink RX1 15 "MirrorTower$Field" "xs" "[I") (by decide +kernel)
  have hw7 := hts (.fieldLink RX1 18 "MirrorTower$Field" "ys" "[I") (by decide +kernel)
  have hw8 := hts (.fieldLink RX1 21 "MirrorTower$Field" "blockers" "[I") (by decide +kernel)
  have hw9 := hts (.fieldLink RX1 24 "MirrorTower$Field" "soils" "[I") (by decide +kernel)
  have hw10 := hts (.fieldLink RX1 27 "MirrorTower$Field" "stepsX" "[I") (by decide +kernel)
  have hw11 := hts (.fieldLink RX1 30 "MirrorTower$Field" "stepsY" "[I") (by decide +kernel)
  have hw12 := hts (.fieldLink RX1 33 "MirrorTower$Field" "heights" "[I") (by decide +kernel)
  have hw13 := hts (.fieldLink RX1 36 "MirrorTower$Field" "winds" "[I") (by decide +kernel)
  have hw14 := hts (.fieldLink RX1 39 "MirrorTower$Field" "dustAnHour" "I") (by decide +kernel)
  obtain ⟨H, hH⟩ : ∃ H, H = s.heap := ⟨_, rfl⟩
  rw [← hH] at hP ⊢
  have hS : va_S A s.heap H [] := by rw [hH]; exact hS
  generalize ([] : List Loc) = locs at hS ⊢
  refine lv_aload_n hx hb dX1_init_0 rfl (lv_at hl 0 rfl) ?_
  refine W.objInit hx hb hown hw0 hw1 hw2 rfl (by rw [hml]; exact hl.1) rfl dX1_init_1 (Nat.le_of_ble_eq_true rfl) (Nat.le_of_ble_eq_true rfl) ?_
  refine W.eq (g2 := F0 m 4 ls []) rfl ?_
  refine lv_aload_n hx hb dX1_init_4 rfl (lv_at hl 0 rfl) ?_
  refine lv_bipush (v := 15) hx hb dX1_init_5 (by decide) ?_
  refine cl_newa (atype := .int) hx hb (ty := .int) hw3 rfl (fun _ h => h) 0 rfl hK hP hD hS hA (a0 := (15, .inl (fun _ => 0))) (arr0I 15) (by decide) (by decide) (by decide) (Nat.le_of_ble_eq_true rfl) (Nat.le_of_ble_eq_true rfl) dX1_init_7 (fun q_1 H hP hD hS => ?_)
  have hP : va_P (dC, dI) vwCl [(b, .inr (1, [.null, .null, .null, .null, .null, .int 0, .null, .null, .null, .null, .int 0])), (q_1, .inl (cI, 15, .inl (fun _ => 0)))] H := hP
  have hD : va_D A [(b, .inr (1, [.null, .null, .null, .null, .null, .int 0, .null, .null, .null, .null, .int 0])), (q_1, .inl (cI, 15, .inl (fun _ => 0)))] := hD
  refine va_putF (D := (dC, dI)) (ci := 1) (v := .ref q_1) (ty := tyX1 0) (C := RX1) (T := TX1) (N := 11) hx hb hts hin_X1 tyX1 tyX1_ok nmX1 hown hK hP hD hS 0 rfl rfl 0 (by decide) hw4 (fun _ h9 => h9) rfl hnm rfl (tyX1_ok 0 (by decide)) rfl rfl (Nat.le_of_ble_eq_true rfl) dX1_init_9 (fun H locs hP hD hS => ?_)
  have hP : va_P (dC, dI) vwCl [(b, .inr (1, [.ref q_1, .null, .null, .null, .null, .int 0, .null, .null, .null, .null, .int 0])), (q_1, .inl (cI, 15, .inl (fun _ => 0)))] H := hP
  have hD : va_D A [(b, .inr (1, [.ref q_1, .null, .null, .null, .null, .int 0, .null, .null, .null, .null, .int 0])), (q_1, .inl (cI, 15, .inl (fun _ => 0)))] := hD
  refine lv_aload_n hx hb dX1_init_12 rfl (lv_at hl 0 rfl) ?_
  refine lv_bipush (v := 40) hx hb dX1_init_13 (by decide) ?_
  refine cl_newa (atype := .int) hx hb (ty := .int) hw3 rfl (fun _ h => h) 0 rfl hK hP hD hS hA (a0 := (40, .inl (fun _ => 0))) (arr0I 40) (by decide) (by decide) (by decide) (Nat.le_of_ble_eq_true rfl) (Nat.le_of_ble_eq_true rfl) dX1_init_15 (fun q_2 H hP hD hS => ?_)
  have hP : va_P (dC, dI) vwCl [(b, .inr (1, [.ref q_1, .null, .null, .null, .null, .int 0, .null, .null, .null, .null, .int 0])), (q_1, .inl (cI, 15, .inl (fun _ => 0))), (q_2, .inl (cI, 40, .inl (fun _ => 0)))] H := hP
  have hD : va_D A [(b, .inr (1, [.ref q_1, .null, .null, .null, .null, .int 0, .null, .null, .null, .null, .int 0])), (q_1, .inl (cI, 15, .inl (fun _ => 0))), (q_2, .inl (cI, 40, .inl (fun _ => 0)))] := hD
  refine va_putF (D := (dC, dI)) (ci := 1) (v := .ref q_2) (ty := tyX1 1) (C := RX1) (T := TX1) (N := 11) hx hb hts hin_X1 tyX1 tyX1_ok nmX1 hown hK hP hD hS 0 rfl rfl 1 (by decide) hw6 (fun _ h9 => h9) rfl hnm rfl (tyX1_ok 1 (by decide)) rfl rfl (Nat.le_of_ble_eq_true rfl) dX1_init_17 (fun H locs hP hD hS => ?_)
  have hP : va_P (dC, dI) vwCl [(b, .inr (1, [.ref q_1, .ref q_2, .null, .null, .null, .int 0, .null, .null, .null, .null, .int 0])), (q_1, .inl (cI, 15, .inl (fun _ => 0))), (q_2, .inl (cI, 40, .inl (fun _ => 0)))] H := hP
  have hD : va_D A [(b, .inr (1, [.ref q_1, .ref q_2, .null, .null, .null, .int 0, .null, .null, .null, .null, .int 0])), (q_1, .inl (cI, 15, .inl (fun _ => 0))), (q_2, .inl (cI, 40, .inl (fun _ => 0)))] := hD
  refine lv_aload_n hx hb dX1_init_20 rfl (lv_at hl 0 rfl) ?_
  refine lv_bipush (v := 40) hx hb dX1_init_21 (by decide) ?_
  refine cl_newa (atype := .int) hx hb (ty := .int) hw3 rfl (fun _ h => h) 0 rfl hK hP hD hS hA (a0 := (40, .inl (fun _ => 0))) (arr0I 40) (by decide) (by decide) (by decide) (Nat.le_of_ble_eq_true rfl) (Nat.le_of_ble_eq_true rfl) dX1_init_23 (fun q_3 H hP hD hS => ?_)
  have hP : va_P (dC, dI) vwCl [(b, .inr (1, [.ref q_1, .ref q_2, .null, .null, .null, .int 0, .null, .null, .null, .null, .int 0])), (q_1, .inl (cI, 15, .inl (fun _ => 0))), (q_2, .inl (cI, 40, .inl (fun _ => 0))), (q_3, .inl (cI, 40, .inl (fun _ => 0)))] H := hP
  have hD : va_D A [(b, .inr (1, [.ref q_1, .ref q_2, .null, .null, .null, .int 0, .null, .null, .null, .null, .int 0])), (q_1, .inl (cI, 15, .inl (fun _ => 0))), (q_2, .inl (cI, 40, .inl (fun _ => 0))), (q_3, .inl (cI, 40, .inl (fun _ => 0)))] := hD
  refine va_putF (D := (dC, dI)) (ci := 1) (v := .ref q_3) (ty := tyX1 2) (C := RX1) (T := TX1) (N := 11) hx hb hts hin_X1 tyX1 tyX1_ok nmX1 hown hK hP hD hS 0 rfl rfl 2 (by decide) hw7 (fun _ h9 => h9) rfl hnm rfl (tyX1_ok 2 (by decide)) rfl rfl (Nat.le_of_ble_eq_true rfl) dX1_init_25 (fun H locs hP hD hS => ?_)
  have hP : va_P (dC, dI) vwCl [(b, .inr (1, [.ref q_1, .ref q_2, .ref q_3, .null, .null, .int 0, .null, .null, .null, .null, .int 0])), (q_1, .inl (cI, 15, .inl (fun _ => 0))), (q_2, .inl (cI, 40, .inl (fun _ => 0))), (q_3, .inl (cI, 40, .inl (fun _ => 0)))] H := hP
  have hD : va_D A [(b, .inr (1, [.ref q_1, .ref q_2, .ref q_3, .null, .null, .int 0, .null, .null, .null, .null, .int 0])), (q_1, .inl (cI, 15, .inl (fun _ => 0))), (q_2, .inl (cI, 40, .inl (fun _ => 0))), (q_3, .inl (cI, 40, .inl (fun _ => 0)))] := hD
  refine lv_aload_n hx hb dX1_init_28 rfl (lv_at hl 0 rfl) ?_
  refine lv_bipush (v := 40) hx hb dX1_init_29 (by decide) ?_
  refine cl_newa (atype := .int) hx hb (ty := .int) hw3 rfl (fun _ h => h) 0 rfl hK hP hD hS hA (a0 := (40, .inl (fun _ => 0))) (arr0I 40) (by decide) (by decide) (by decide) (Nat.le_of_ble_eq_true rfl) (Nat.le_of_ble_eq_true rfl) dX1_init_31 (fun q_4 H hP hD hS => ?_)
  have hP : va_P (dC, dI) vwCl [(b, .inr (1, [.ref q_1, .ref q_2, .ref q_3, .null, .null, .int 0, .null, .null, .null, .null, .int 0])), (q_1, .inl (cI, 15, .inl (fun _ => 0))), (q_2, .inl (cI, 40, .inl (fun _ => 0))), (q_3, .inl (cI, 40, .inl (fun _ => 0))), (q_4, .inl (cI, 40, .inl (fun _ => 0)))] H := hP
  have hD : va_D A [(b, .inr (1, [.ref q_1, .ref q_2, .ref q_3, .null, .null, .int 0, .null, .null, .null, .null, .int 0])), (q_1, .inl (cI, 15, .inl (fun _ => 0))), (q_2, .inl (cI, 40, .inl (fun _ => 0))), (q_3, .inl (cI, 40, .inl (fun _ => 0))), (q_4, .inl (cI, 40, .inl (fun _ => 0)))] := hD
  refine va_putF (D := (dC, dI)) (ci := 1) (v := .ref q_4) (ty := tyX1 3) (C := RX1) (T := TX1) (N := 11) hx hb hts hin_X1 tyX1 tyX1_ok nmX1 hown hK hP hD hS 0 rfl rfl 3 (by decide) hw8 (fun _ h9 => h9) rfl hnm rfl (tyX1_ok 3 (by decide)) rfl rfl (Nat.le_of_ble_eq_true rfl) dX1_init_33 (fun H locs hP hD hS => ?_)
  have hP : va_P (dC, dI) vwCl [(b, .inr (1, [.ref q_1, .ref q_2, .ref q_3, .ref q_4, .null, .int 0, .null, .null, .null, .null, .int 0])), (q_1, .inl (cI, 15, .inl (fun _ => 0))), (q_2, .inl (cI, 40, .inl (fun _ => 0))), (q_3, .inl (cI, 40, .inl (fun _ => 0))), (q_4, .inl (cI, 40, .inl (fun _ => 0)))] H := hP
  have hD : va_D A [(b, .inr (1, [.ref q_1, .ref q_2, .ref q_3, .ref q_4, .null, .int 0, .null, .null, .null, .null, .int 0])), (q_1, .inl (cI, 15, .inl (fun _ => 0))), (q_2, .inl (cI, 40, .inl (fun _ => 0))), (q_3, .inl (cI, 40, .inl (fun _ => 0))), (q_4, .inl (cI, 40, .inl (fun _ => 0)))] := hD
  refine lv_aload_n hx hb dX1_init_36 rfl (lv_at hl 0 rfl) ?_
  refine lv_bipush (v := 40) hx hb dX1_init_37 (by decide) ?_
  refine cl_newa (atype := .int) hx hb (ty := .int) hw3 rfl (fun _ h => h) 0 rfl hK hP hD hS hA (a0 := (40, .inl (fun _ => 0))) (arr0I 40) (by decide) (by decide) (by decide) (Nat.le_of_ble_eq_true rfl) (Nat.le_of_ble_eq_true rfl) dX1_init_39 (fun q_5 H hP hD hS => ?_)
  have hP : va_P (dC, dI) vwCl [(b, .inr (1, [.ref q_1, .ref q_2, .ref q_3, .ref q_4, .null, .int 0, .null, .null, .null, .null, .int 0])), (q_1, .inl (cI, 15, .inl (fun _ => 0))), (q_2, .inl (cI, 40, .inl (fun _ => 0))), (q_3, .inl (cI, 40, .inl (fun _ => 0))), (q_4, .inl (cI, 40, .inl (fun _ => 0))), (q_5, .inl (cI, 40, .inl (fun _ => 0)))] H := hP
  have hD : va_D A [(b, .inr (1, [.ref q_1, .ref q_2, .ref q_3, .ref q_4, .null, .int 0, .null, .null, .null, .null, .int 0])), (q_1, .inl (cI, 15, .inl (fun _ => 0))), (q_2, .inl (cI, 40, .inl (fun _ => 0))), (q_3, .inl (cI, 40, .inl (fun _ => 0))), (q_4, .inl (cI, 40, .inl (fun _ => 0))), (q_5, .inl (cI, 40, .inl (fun _ => 0)))] := hD
  refine va_putF (D := (dC, dI)) (ci := 1) (v := .ref q_5) (ty := tyX1 4) (C := RX1) (T := TX1) (N := 11) hx hb hts hin_X1 tyX1 tyX1_ok nmX1 hown hK hP hD hS 0 rfl rfl 4 (by decide) hw9 (fun _ h9 => h9) rfl hnm rfl (tyX1_ok 4 (by decide)) rfl rfl (Nat.le_of_ble_eq_true rfl) dX1_init_41 (fun H locs hP hD hS => ?_)
  have hP : va_P (dC, dI) vwCl [(b, .inr (1, [.ref q_1, .ref q_2, .ref q_3, .ref q_4, .ref q_5, .int 0, .null, .null, .null, .null, .int 0])), (q_1, .inl (cI, 15, .inl (fun _ => 0))), (q_2, .inl (cI, 40, .inl (fun _ => 0))), (q_3, .inl (cI, 40, .inl (fun _ => 0))), (q_4, .inl (cI, 40, .inl (fun _ => 0))), (q_5, .inl (cI, 40, .inl (fun _ => 0)))] H := hP
  have hD : va_D A [(b, .inr (1, [.ref q_1, .ref q_2, .ref q_3, .ref q_4, .ref q_5, .int 0, .null, .null, .null, .null, .int 0])), (q_1, .inl (cI, 15, .inl (fun _ => 0))), (q_2, .inl (cI, 40, .inl (fun _ => 0))), (q_3, .inl (cI, 40, .inl (fun _ => 0))), (q_4, .inl (cI, 40, .inl (fun _ => 0))), (q_5, .inl (cI, 40, .inl (fun _ => 0)))] := hD
  refine lv_aload_n hx hb dX1_init_44 rfl (lv_at hl 0 rfl) ?_
  refine lv_bipush (v := 24) hx hb dX1_init_45 (by decide) ?_
  refine cl_newa (atype := .int) hx hb (ty := .int) hw3 rfl (fun _ h => h) 0 rfl hK hP hD hS hA (a0 := (24, .inl (fun _ => 0))) (arr0I 24) (by decide) (by decide) (by decide) (Nat.le_of_ble_eq_true rfl) (Nat.le_of_ble_eq_true rfl) dX1_init_47 (fun q_6 H hP hD hS => ?_)
  have hP : va_P (dC, dI) vwCl [(b, .inr (1, [.ref q_1, .ref q_2, .ref q_3, .ref q_4, .ref q_5, .int 0, .null, .null, .null, .null, .int 0])), (q_1, .inl (cI, 15, .inl (fun _ => 0))), (q_2, .inl (cI, 40, .inl (fun _ => 0))), (q_3, .inl (cI, 40, .inl (fun _ => 0))), (q_4, .inl (cI, 40, .inl (fun _ => 0))), (q_5, .inl (cI, 40, .inl (fun _ => 0))), (q_6, .inl (cI, 24, .inl (fun _ => 0)))] H := hP
  have hD : va_D A [(b, .inr (1, [.ref q_1, .ref q_2, .ref q_3, .ref q_4, .ref q_5, .int 0, .null, .null, .null, .null, .int 0])), (q_1, .inl (cI, 15, .inl (fun _ => 0))), (q_2, .inl (cI, 40, .inl (fun _ => 0))), (q_3, .inl (cI, 40, .inl (fun _ => 0))), (q_4, .inl (cI, 40, .inl (fun _ => 0))), (q_5, .inl (cI, 40, .inl (fun _ => 0))), (q_6, .inl (cI, 24, .inl (fun _ => 0)))] := hD
  refine va_putF (D := (dC, dI)) (ci := 1) (v := .ref q_6) (ty := tyX1 6) (C := RX1) (T := TX1) (N := 11) hx hb hts hin_X1 tyX1 tyX1_ok nmX1 hown hK hP hD hS 0 rfl rfl 6 (by decide) hw10 (fun _ h9 => h9) rfl hnm rfl (tyX1_ok 6 (by decide)) rfl rfl (Nat.le_of_ble_eq_true rfl) dX1_init_49 (fun H locs hP hD hS => ?_)
  have hP : va_P (dC, dI) vwCl [(b, .inr (1, [.ref q_1, .ref q_2, .ref q_3, .ref q_4, .ref q_5, .int 0, .ref q_6, .null, .null, .null, .int 0])), (q_1, .inl (cI, 15, .inl (fun _ => 0))), (q_2, .inl (cI, 40, .inl (fun _ => 0))), (q_3, .inl (cI, 40, .inl (fun _ => 0))), (q_4, .inl (cI, 40, .inl (fun _ => 0))), (q_5, .inl (cI, 40, .inl (fun _ => 0))), (q_6, .inl (cI, 24, .inl (fun _ => 0)))] H := hP
  have hD : va_D A [(b, .inr (1, [.ref q_1, .ref q_2, .ref q_3, .ref q_4, .ref q_5, .int 0, .ref q_6, .null, .null, .null, .int 0])), (q_1, .inl (cI, 15, .inl (fun _ => 0))), (q_2, .inl (cI, 40, .inl (fun _ => 0))), (q_3, .inl (cI, 40, .inl (fun _ => 0))), (q_4, .inl (cI, 40, .inl (fun _ => 0))), (q_5, .inl (cI, 40, .inl (fun _ => 0))), (q_6, .inl (cI, 24, .inl (fun _ => 0)))] := hD
  refine lv_aload_n hx hb dX1_init_52 rfl (lv_at hl 0 rfl) ?_
  refine lv_bipush (v := 24) hx hb dX1_init_53 (by decide) ?_
  refine cl_newa (atype := .int) hx hb (ty := .int) hw3 rfl (fun _ h => h) 0 rfl hK hP hD hS hA (a0 := (24, .inl (fun _ => 0))) (arr0I 24) (by decide) (by decide) (by decide) (Nat.le_of_ble_eq_true rfl) (Nat.le_of_ble_eq_true rfl) dX1_init_55 (fun q_7 H hP hD hS => ?_)
  have hP : va_P (dC, dI) vwCl [(b, .inr (1, [.ref q_1, .ref q_2, .ref q_3, .ref q_4, .ref q_5, .int 0, .ref q_6, .null, .null, .null, .int 0])), (q_1, .inl (cI, 15, .inl (fun _ => 0))), (q_2, .inl (cI, 40, .inl (fun _ => 0))), (q_3, .inl (cI, 40, .inl (fun _ => 0))), (q_4, .inl (cI, 40, .inl (fun _ => 0))), (q_5, .inl (cI, 40, .inl (fun _ => 0))), (q_6, .inl (cI, 24, .inl (fun _ => 0))), (q_7, .inl (cI, 24, .inl (fun _ => 0)))] H := hP
  have hD : va_D A [(b, .inr (1, [.ref q_1, .ref q_2, .ref q_3, .ref q_4, .ref q_5, .int 0, .ref q_6, .null, .null, .null, .int 0])), (q_1, .inl (cI, 15, .inl (fun _ => 0))), (q_2, .inl (cI, 40, .inl (fun _ => 0))), (q_3, .inl (cI, 40, .inl (fun _ => 0))), (q_4, .inl (cI, 40, .inl (fun _ => 0))), (q_5, .inl (cI, 40, .inl (fun _ => 0))), (q_6, .inl (cI, 24, .inl (fun _ => 0))), (q_7, .inl (cI, 24, .inl (fun _ => 0)))] := hD
  refine va_putF (D := (dC, dI)) (ci := 1) (v := .ref q_7) (ty := tyX1 7) (C := RX1) (T := TX1) (N := 11) hx hb hts hin_X1 tyX1 tyX1_ok nmX1 hown hK hP hD hS 0 rfl rfl 7 (by decide) hw11 (fun _ h9 => h9) rfl hnm rfl (tyX1_ok 7 (by decide)) rfl rfl (Nat.le_of_ble_eq_true rfl) dX1_init_57 (fun H locs hP hD hS => ?_)
  have hP : va_P (dC, dI) vwCl [(b, .inr (1, [.ref q_1, .ref q_2, .ref q_3, .ref q_4, .ref q_5, .int 0, .ref q_6, .ref q_7, .null, .null, .int 0])), (q_1, .inl (cI, 15, .inl (fun _ => 0))), (q_2, .inl (cI, 40, .inl (fun _ => 0))), (q_3, .inl (cI, 40, .inl (fun _ => 0))), (q_4, .inl (cI, 40, .inl (fun _ => 0))), (q_5, .inl (cI, 40, .inl (fun _ => 0))), (q_6, .inl (cI, 24, .inl (fun _ => 0))), (q_7, .inl (cI, 24, .inl (fun _ => 0)))] H := hP
  have hD : va_D A [(b, .inr (1, [.ref q_1, .ref q_2, .ref q_3, .ref q_4, .ref q_5, .int 0, .ref q_6, .ref q_7, .null, .null, .int 0])), (q_1, .inl (cI, 15, .inl (fun _ => 0))), (q_2, .inl (cI, 40, .inl (fun _ => 0))), (q_3, .inl (cI, 40, .inl (fun _ => 0))), (q_4, .inl (cI, 40, .inl (fun _ => 0))), (q_5, .inl (cI, 40, .inl (fun _ => 0))), (q_6, .inl (cI, 24, .inl (fun _ => 0))), (q_7, .inl (cI, 24, .inl (fun _ => 0)))] := hD
  refine lv_aload_n hx hb dX1_init_60 rfl (lv_at hl 0 rfl) ?_
  refine lv_bipush (v := 24) hx hb dX1_init_61 (by decide) ?_
  refine cl_newa (atype := .int) hx hb (ty := .int) hw3 rfl (fun _ h => h) 0 rfl hK hP hD hS hA (a0 := (24, .inl (fun _ => 0))) (arr0I 24) (by decide) (by decide) (by decide) (Nat.le_of_ble_eq_true rfl) (Nat.le_of_ble_eq_true rfl) dX1_init_63 (fun q_8 H hP hD hS => ?_)
  have hP : va_P (dC, dI) vwCl [(b, .inr (1, [.ref q_1, .ref q_2, .ref q_3, .ref q_4, .ref q_5, .int 0, .ref q_6, .ref q_7, .null, .null, .int 0])), (q_1, .inl (cI, 15, .inl (fun _ => 0))), (q_2, .inl (cI, 40, .inl (fun _ => 0))), (q_3, .inl (cI, 40, .inl (fun _ => 0))), (q_4, .inl (cI, 40, .inl (fun _ => 0))), (q_5, .inl (cI, 40, .inl (fun _ => 0))), (q_6, .inl (cI, 24, .inl (fun _ => 0))), (q_7, .inl (cI, 24, .inl (fun _ => 0))), (q_8, .inl (cI, 24, .inl (fun _ => 0)))] H := hP
  have hD : va_D A [(b, .inr (1, [.ref q_1, .ref q_2, .ref q_3, .ref q_4, .ref q_5, .int 0, .ref q_6, .ref q_7, .null, .null, .int 0])), (q_1, .inl (cI, 15, .inl (fun _ => 0))), (q_2, .inl (cI, 40, .inl (fun _ => 0))), (q_3, .inl (cI, 40, .inl (fun _ => 0))), (q_4, .inl (cI, 40, .inl (fun _ => 0))), (q_5, .inl (cI, 40, .inl (fun _ => 0))), (q_6, .inl (cI, 24, .inl (fun _ => 0))), (q_7, .inl (cI, 24, .inl (fun _ => 0))), (q_8, .inl (cI, 24, .inl (fun _ => 0)))] := hD
  refine va_putF (D := (dC, dI)) (ci := 1) (v := .ref q_8) (ty := tyX1 8) (C := RX1) (T := TX1) (N := 11) hx hb hts hin_X1 tyX1 tyX1_ok nmX1 hown hK hP hD hS 0 rfl rfl 8 (by decide) hw12 (fun _ h9 => h9) rfl hnm rfl (tyX1_ok 8 (by decide)) rfl rfl (Nat.le_of_ble_eq_true rfl) dX1_init_65 (fun H locs hP hD hS => ?_)
  have hP : va_P (dC, dI) vwCl [(b, .inr (1, [.ref q_1, .ref q_2, .ref q_3, .ref q_4, .ref q_5, .int 0, .ref q_6, .ref q_7, .ref q_8, .null, .int 0])), (q_1, .inl (cI, 15, .inl (fun _ => 0))), (q_2, .inl (cI, 40, .inl (fun _ => 0))), (q_3, .inl (cI, 40, .inl (fun _ => 0))), (q_4, .inl (cI, 40, .inl (fun _ => 0))), (q_5, .inl (cI, 40, .inl (fun _ => 0))), (q_6, .inl (cI, 24, .inl (fun _ => 0))), (q_7, .inl (cI, 24, .inl (fun _ => 0))), (q_8, .inl (cI, 24, .inl (fun _ => 0)))] H := hP
  have hD : va_D A [(b, .inr (1, [.ref q_1, .ref q_2, .ref q_3, .ref q_4, .ref q_5, .int 0, .ref q_6, .ref q_7, .ref q_8, .null, .int 0])), (q_1, .inl (cI, 15, .inl (fun _ => 0))), (q_2, .inl (cI, 40, .inl (fun _ => 0))), (q_3, .inl (cI, 40, .inl (fun _ => 0))), (q_4, .inl (cI, 40, .inl (fun _ => 0))), (q_5, .inl (cI, 40, .inl (fun _ => 0))), (q_6, .inl (cI, 24, .inl (fun _ => 0))), (q_7, .inl (cI, 24, .inl (fun _ => 0))), (q_8, .inl (cI, 24, .inl (fun _ => 0)))] := hD
  refine lv_aload_n hx hb dX1_init_68 rfl (lv_at hl 0 rfl) ?_
  refine lv_bipush (v := 24) hx hb dX1_init_69 (by decide) ?_
  refine cl_newa (atype := .int) hx hb (ty := .int) hw3 rfl (fun _ h => h) 0 rfl hK hP hD hS hA (a0 := (24, .inl (fun _ => 0))) (arr0I 24) (by decide) (by decide) (by decide) (Nat.le_of_ble_eq_true rfl) (Nat.le_of_ble_eq_true rfl) dX1_init_71 (fun q_9 H hP hD hS => ?_)
  have hP : va_P (dC, dI) vwCl [(b, .inr (1, [.ref q_1, .ref q_2, .ref q_3, .ref q_4, .ref q_5, .int 0, .ref q_6, .ref q_7, .ref q_8, .null, .int 0])), (q_1, .inl (cI, 15, .inl (fun _ => 0))), (q_2, .inl (cI, 40, .inl (fun _ => 0))), (q_3, .inl (cI, 40, .inl (fun _ => 0))), (q_4, .inl (cI, 40, .inl (fun _ => 0))), (q_5, .inl (cI, 40, .inl (fun _ => 0))), (q_6, .inl (cI, 24, .inl (fun _ => 0))), (q_7, .inl (cI, 24, .inl (fun _ => 0))), (q_8, .inl (cI, 24, .inl (fun _ => 0))), (q_9, .inl (cI, 24, .inl (fun _ => 0)))] H := hP
  have hD : va_D A [(b, .inr (1, [.ref q_1, .ref q_2, .ref q_3, .ref q_4, .ref q_5, .int 0, .ref q_6, .ref q_7, .ref q_8, .null, .int 0])), (q_1, .inl (cI, 15, .inl (fun _ => 0))), (q_2, .inl (cI, 40, .inl (fun _ => 0))), (q_3, .inl (cI, 40, .inl (fun _ => 0))), (q_4, .inl (cI, 40, .inl (fun _ => 0))), (q_5, .inl (cI, 40, .inl (fun _ => 0))), (q_6, .inl (cI, 24, .inl (fun _ => 0))), (q_7, .inl (cI, 24, .inl (fun _ => 0))), (q_8, .inl (cI, 24, .inl (fun _ => 0))), (q_9, .inl (cI, 24, .inl (fun _ => 0)))] := hD
  refine va_putF (D := (dC, dI)) (ci := 1) (v := .ref q_9) (ty := tyX1 9) (C := RX1) (T := TX1) (N := 11) hx hb hts hin_X1 tyX1 tyX1_ok nmX1 hown hK hP hD hS 0 rfl rfl 9 (by decide) hw13 (fun _ h9 => h9) rfl hnm rfl (tyX1_ok 9 (by decide)) rfl rfl (Nat.le_of_ble_eq_true rfl) dX1_init_73 (fun H locs hP hD hS => ?_)
  have hP : va_P (dC, dI) vwCl [(b, .inr (1, [.ref q_1, .ref q_2, .ref q_3, .ref q_4, .ref q_5, .int 0, .ref q_6, .ref q_7, .ref q_8, .ref q_9, .int 0])), (q_1, .inl (cI, 15, .inl (fun _ => 0))), (q_2, .inl (cI, 40, .inl (fun _ => 0))), (q_3, .inl (cI, 40, .inl (fun _ => 0))), (q_4, .inl (cI, 40, .inl (fun _ => 0))), (q_5, .inl (cI, 40, .inl (fun _ => 0))), (q_6, .inl (cI, 24, .inl (fun _ => 0))), (q_7, .inl (cI, 24, .inl (fun _ => 0))), (q_8, .inl (cI, 24, .inl (fun _ => 0))), (q_9, .inl (cI, 24, .inl (fun _ => 0)))] H := hP
  have hD : va_D A [(b, .inr (1, [.ref q_1, .ref q_2, .ref q_3, .ref q_4, .ref q_5, .int 0, .ref q_6, .ref q_7, .ref q_8, .ref q_9, .int 0])), (q_1, .inl (cI, 15, .inl (fun _ => 0))), (q_2, .inl (cI, 40, .inl (fun _ => 0))), (q_3, .inl (cI, 40, .inl (fun _ => 0))), (q_4, .inl (cI, 40, .inl (fun _ => 0))), (q_5, .inl (cI, 40, .inl (fun _ => 0))), (q_6, .inl (cI, 24, .inl (fun _ => 0))), (q_7, .inl (cI, 24, .inl (fun _ => 0))), (q_8, .inl (cI, 24, .inl (fun _ => 0))), (q_9, .inl (cI, 24, .inl (fun _ => 0)))] := hD
  refine lv_aload_n hx hb dX1_init_76 rfl (lv_at hl 0 rfl) ?_
  refine lv_iconst (v := 1) hx hb dX1_init_77 (by decide) ?_
  refine va_put (D := (dC, dI)) (ci := 1) (v := .int 1) (ty := tyX1 10) (C := RX1) (T := TX1) (N := 11) hx hb hts hin_X1 tyX1 tyX1_ok nmX1 hown hK hP hD hS 0 rfl rfl 10 (by decide) hw14 (fun _ h9 => h9) rfl (tyX1_ok 10 (by decide)) rfl rfl (Nat.le_of_ble_eq_true rfl) dX1_init_78 (fun H locs hP hD hS => ?_)
  have hP : va_P (dC, dI) vwCl [(b, .inr (1, [.ref q_1, .ref q_2, .ref q_3, .ref q_4, .ref q_5, .int 0, .ref q_6, .ref q_7, .ref q_8, .ref q_9, .int 1])), (q_1, .inl (cI, 15, .inl (fun _ => 0))), (q_2, .inl (cI, 40, .inl (fun _ => 0))), (q_3, .inl (cI, 40, .inl (fun _ => 0))), (q_4, .inl (cI, 40, .inl (fun _ => 0))), (q_5, .inl (cI, 40, .inl (fun _ => 0))), (q_6, .inl (cI, 24, .inl (fun _ => 0))), (q_7, .inl (cI, 24, .inl (fun _ => 0))), (q_8, .inl (cI, 24, .inl (fun _ => 0))), (q_9, .inl (cI, 24, .inl (fun _ => 0)))] H := hP
  have hD : va_D A [(b, .inr (1, [.ref q_1, .ref q_2, .ref q_3, .ref q_4, .ref q_5, .int 0, .ref q_6, .ref q_7, .ref q_8, .ref q_9, .int 1])), (q_1, .inl (cI, 15, .inl (fun _ => 0))), (q_2, .inl (cI, 40, .inl (fun _ => 0))), (q_3, .inl (cI, 40, .inl (fun _ => 0))), (q_4, .inl (cI, 40, .inl (fun _ => 0))), (q_5, .inl (cI, 40, .inl (fun _ => 0))), (q_6, .inl (cI, 24, .inl (fun _ => 0))), (q_7, .inl (cI, 24, .inl (fun _ => 0))), (q_8, .inl (cI, 24, .inl (fun _ => 0))), (q_9, .inl (cI, 24, .inl (fun _ => 0)))] := hD
  exact hret (fun j => [0, 0, 0, 0, 0, q_1, q_2, q_3, q_4, q_5, q_6, q_7, q_8, q_9].getD j 0) H locs 81 ls dX1_init_81 trivial (hP.sub [0, 1, 2, 3, 4, 5, 6, 7, 8, 9] rfl) (hD.sub [0, 1, 2, 3, 4, 5, 6, 7, 8, 9] (by decide) rfl) hS
def rm_X0_init : Room := { frames := 1, cells := 9, slots := 428, locals := 23 }
set_option maxHeartbeats 4000000 in
set_option maxRecDepth 100000 in
theorem c_X0_init (l : Launch) (dC : Nat → ClassId) (dI : Nat → Nat → Nat) (cI cZ cJ : ClassId) (b fa : Nat) : CtV l (dC, dI) vwCl (tys3 cI cZ cJ) yX0_init wsX0_init rm_X0_init [.ref b, .ref fa] [(b, .inr (0, [.null, .null, .null, .null, .null, .null, .null, .null, .int 0, .null, .null]))] (S := (Nat → Nat) × (Nat → Int32)) (fun u => ∀ i, i < 4 → u.2 i = 500) (fun u => [(b, .inr (0, [.ref fa, .ref (u.1 14), .ref (u.1 15), .ref (u.1 16), .ref (u.1 17), .ref (u.1 18), .ref (u.1 19), .ref (u.1 20), .int 0, .ref (u.1 21), .ref (u.1 22)])), (u.1 14, .inl (cI, 4, .inl u.2)), (u.1 15, .inl (cI, 40, .inl (fun _ => 0))), (u.1 16, .inl (cI, 40, .inl (fun _ => 0))), (u.1 17, .inl (cI, 40, .inl (fun _ => 0))), (u.1 18, .inl (cI, 4, .inl (fun _ => 0))), (u.1 19, .inl (cI, 40, .inl (fun _ => 0))), (u.1 20, .inl (cI, 4, .inl (fun _ => 0))), (u.1 21, .inl (cI, 128, .inl (fun _ => 0))), (u.1 22, .inl (cZ, 128, .inl (fun _ => 0)))]) 9 428 := by
  refine ct_V (cc := cX0_init) (maxL := 2) (own := RX0) (by decide) rfl rfl (Nat.le_of_ble_eq_true rfl) (lv := [(0, .ref b), (1, .ref fa)]) rfl ?_
  intro p e s m args below meth c A Q ls hnm fx hK hP hD hA hl hret
  obtain ⟨hx, hb, hml, hown, hts⟩ := id fx
  have hS : va_S A s.heap s.heap [] := va_S.rf
  have hw0 := hts (.methodLink RX0 5 objectInit) (by decide +kernel)
  have hw1 := hts (.instanceMethod objectInit) (by decide +kernel)
  have hw2 := hts (.code objectInit ⟨#[0xb1]⟩ 1 none) (by decide +kernel)
  have hw3 := hts (.fieldLink RX0 11 "MirrorTower$Face" "field" "LMirrorTower$Field;") (by decide +kernel)
  have hin_X0 : ∀ w ∈ u_ws RX0 TX0 11, w ∈ wsX0_init := by decide +kernel
  have hw5 := hts (.arrayClass .int) (by decide +kernel)
  have hw6 := hts (.fieldLink RX0 15 "MirrorTower$Face" "limits" "[I") (by decide +kernel)
  have hw7 := hts (.fieldLink RX0 25 "MirrorTower$Face" "order" "[I") (by decide +kernel)
  have hw8 := hts (.fieldLink RX0 28 "MirrorTower$Face" "powers" "[I") (by decide +kernel)
  have hw9 := hts (.fieldLink RX0 31 "MirrorTower$Face" "cellOf" "[I") (by decide +kernel)
  have hw10 := hts (.fieldLink RX0 34 "MirrorTower$Face" "left" "[I") (by decide +kernel)
  have hw11 := hts (.fieldLink RX0 37 "MirrorTower$Face" "keptCells" "[I") (by decide +kernel)
  have hw12 := hts (.fieldLink RX0 40 "MirrorTower$Face" "keptPowers" "[I") (by decide +kernel)
  have hw13 := hts (.fieldLink RX0 43 "MirrorTower$Face" "setPowers" "[I") (by decide +kernel)
  have hw14 := hts (.arrayClass .boolean) (by decide +kernel)
  have hw15 := hts (.fieldLink RX0 46 "MirrorTower$Face" "fits" "[Z") (by decide +kernel)
  obtain ⟨H, hH⟩ : ∃ H, H = s.heap := ⟨_, rfl⟩
  rw [← hH] at hP ⊢
  have hS : va_S A s.heap H [] := by rw [hH]; exact hS
  generalize ([] : List Loc) = locs at hS ⊢
  refine lv_aload_n hx hb dX0_init_0 rfl (lv_at hl 0 rfl) ?_
  refine W.objInit hx hb hown hw0 hw1 hw2 rfl (by rw [hml]; exact hl.1) rfl dX0_init_1 (Nat.le_of_ble_eq_true rfl) (Nat.le_of_ble_eq_true rfl) ?_
  refine W.eq (g2 := F0 m 4 ls []) rfl ?_
  refine lv_aload_n hx hb dX0_init_4 rfl (lv_at hl 0 rfl) ?_
  refine lv_aload_n hx hb dX0_init_5 rfl (lv_at hl 1 rfl) ?_
  refine va_putF (D := (dC, dI)) (ci := 0) (v := .ref fa) (ty := tyX0 0) (C := RX0) (T := TX0) (N := 11) hx hb hts hin_X0 tyX0 tyX0_ok nmX0 hown hK hP hD hS 0 rfl rfl 0 (by decide) hw3 (fun _ h9 => h9) rfl hnm rfl (tyX0_ok 0 (by decide)) rfl rfl (Nat.le_of_ble_eq_true rfl) dX0_init_6 (fun H locs hP hD hS => ?_)
  have hP : va_P (dC, dI) vwCl [(b, .inr (0, [.ref fa, .null, .null, .null, .null, .null, .null, .null, .int 0, .null, .null]))] H := hP
  have hD : va_D A [(b, .inr (0, [.ref fa, .null, .null, .null, .null, .null, .null, .null, .int 0, .null, .null]))] := hD
  refine lv_aload_n hx hb dX0_init_9 rfl (lv_at hl 0 rfl) ?_
  refine lv_iconst (v := 4) hx hb dX0_init_10 (by decide) ?_
  refine cl_newa (atype := .int) hx hb (ty := .int) hw5 rfl (fun _ h => h) 0 rfl hK hP hD hS hA (a0 := (4, .inl (fun _ => 0))) (arr0I 4) (by decide) (by decide) (by decide) (Nat.le_of_ble_eq_true rfl) (Nat.le_of_ble_eq_true rfl) dX0_init_11 (fun q_1 H hP hD hS => ?_)
  have hP : va_P (dC, dI) vwCl [(b, .inr (0, [.ref fa, .null, .null, .null, .null, .null, .null, .null, .int 0, .null, .null])), (q_1, .inl (cI, 4, .inl (fun _ => 0)))] H := hP
  have hD : va_D A [(b, .inr (0, [.ref fa, .null, .null, .null, .null, .null, .null, .null, .int 0, .null, .null])), (q_1, .inl (cI, 4, .inl (fun _ => 0)))] := hD
  refine va_putF (D := (dC, dI)) (ci := 0) (v := .ref q_1) (ty := tyX0 1) (C := RX0) (T := TX0) (N := 11) hx hb hts hin_X0 tyX0 tyX0_ok nmX0 hown hK hP hD hS 0 rfl rfl 1 (by decide) hw6 (fun _ h9 => h9) rfl hnm rfl (tyX0_ok 1 (by decide)) rfl rfl (Nat.le_of_ble_eq_true rfl) dX0_init_13 (fun H locs hP hD hS => ?_)
  have hP : va_P (dC, dI) vwCl [(b, .inr (0, [.ref fa, .ref q_1, .null, .null, .null, .null, .null, .null, .int 0, .null, .null])), (q_1, .inl (cI, 4, .inl (fun _ => 0)))] H := hP
  have hD : va_D A [(b, .inr (0, [.ref fa, .ref q_1, .null, .null, .null, .null, .null, .null, .int 0, .null, .null])), (q_1, .inl (cI, 4, .inl (fun _ => 0)))] := hD
  refine lv_aload_n hx hb dX0_init_16 rfl (lv_at hl 0 rfl) ?_
  refine va_get (D := (dC, dI)) (ci := 0) (v := .ref q_1) (C := RX0) (T := TX0) (N := 11) hx hb hts hin_X0 hown hK hP 0 rfl rfl 1 (by decide) hw6 (fun _ h9 => h9) rfl dX0_init_17 ?_
  refine lv_sipush (v := 500) hx hb dX0_init_20 (by decide) ?_
  refine cl_Sv (As := [.ref q_1, .int 500]) (rest := []) (wr := [(b, .inr (0, [.ref fa, .ref q_1, .null, .null, .null, .null, .null, .null, .int 0, .null, .null]))]) (c_J7_fill l dC dI cI cZ cJ q_1 4 (fun _ => 0) 500 (by decide)) fx (va_cwS 2 hts gX0_init_J7_fill_53178 rfl rfl rfl (by decide +kernel) ⟨Nat.le_of_ble_eq_true rfl, Nat.le_of_ble_eq_true rfl⟩) hK hP hD hS hA [1] [0] rfl rfl (by decide) (by decide) (by decide) rfl hl.1 rfl (Nat.le_of_ble_eq_true rfl) dX0_init_23 ⟨Nat.le_of_ble_eq_true rfl, Nat.le_of_ble_eq_true rfl⟩ (fun f_2 H locs hw_3 hP hD hS => ?_)
  have hP : va_P (dC, dI) vwCl [(b, .inr (0, [.ref fa, .ref q_1, .null, .null, .null, .null, .null, .null, .int 0, .null, .null])), (q_1, .inl (cI, 4, .inl f_2))] H := hP
  have hD : va_D A [(b, .inr (0, [.ref fa, .ref q_1, .null, .null, .null, .null, .null, .null, .int 0, .null, .null])), (q_1, .inl (cI, 4, .inl f_2))] := hD
  have hw_3 : ∀ i, i < 4 → f_2 i = 500 := hw_3
  refine lv_aload_n hx hb dX0_init_26 rfl (lv_at hl 0 rfl) ?_
  refine lv_bipush (v := 40) hx hb dX0_init_27 (by decide) ?_
  refine cl_newa (atype := .int) hx hb (ty := .int) hw5 rfl (fun _ h => h) 0 rfl hK hP hD hS hA (a0 := (40, .inl (fun _ => 0))) (arr0I 40) (by decide) (by decide) (by decide) (Nat.le_of_ble_eq_true rfl) (Nat.le_of_ble_eq_true rfl) dX0_init_29 (fun q_4 H hP hD hS => ?_)
  have hP : va_P (dC, dI) vwCl [(b, .inr (0, [.ref fa, .ref q_1, .null, .null, .null, .null, .null, .null, .int 0, .null, .null])), (q_1, .inl (cI, 4, .inl f_2)), (q_4, .inl (cI, 40, .inl (fun _ => 0)))] H := hP
  have hD : va_D A [(b, .inr (0, [.ref fa, .ref q_1, .null, .null, .null, .null, .null, .null, .int 0, .null, .null])), (q_1, .inl (cI, 4, .inl f_2)), (q_4, .inl (cI, 40, .inl (fun _ => 0)))] := hD
  refine va_putF (D := (dC, dI)) (ci := 0) (v := .ref q_4) (ty := tyX0 2) (C := RX0) (T := TX0) (N := 11) hx hb hts hin_X0 tyX0 tyX0_ok nmX0 hown hK hP hD hS 0 rfl rfl 2 (by decide) hw7 (fun _ h9 => h9) rfl hnm rfl (tyX0_ok 2 (by decide)) rfl rfl (Nat.le_of_ble_eq_true rfl) dX0_init_31 (fun H locs hP hD hS => ?_)
  have hP : va_P (dC, dI) vwCl [(b, .inr (0, [.ref fa, .ref q_1, .ref q_4, .null, .null, .null, .null, .null, .int 0, .null, .null])), (q_1, .inl (cI, 4, .inl f_2)), (q_4, .inl (cI, 40, .inl (fun _ => 0)))] H := hP
  have hD : va_D A [(b, .inr (0, [.ref fa, .ref q_1, .ref q_4, .null, .null, .null, .null, .null, .int 0, .null, .null])), (q_1, .inl (cI, 4, .inl f_2)), (q_4, .inl (cI, 40, .inl (fun _ => 0)))] := hD
  refine lv_aload_n hx hb dX0_init_34 rfl (lv_at hl 0 rfl) ?_
  refine lv_bipush (v := 40) hx hb dX0_init_35 (by decide) ?_
  refine cl_newa (atype := .int) hx hb (ty := .int) hw5 rfl (fun _ h => h) 0 rfl hK hP hD hS hA (a0 := (40, .inl (fun _ => 0))) (arr0I 40) (by decide) (by decide) (by decide) (Nat.le_of_ble_eq_true rfl) (Nat.le_of_ble_eq_true rfl) dX0_init_37 (fun q_5 H hP hD hS => ?_)
  have hP : va_P (dC, dI) vwCl [(b, .inr (0, [.ref fa, .ref q_1, .ref q_4, .null, .null, .null, .null, .null, .int 0, .null, .null])), (q_1, .inl (cI, 4, .inl f_2)), (q_4, .inl (cI, 40, .inl (fun _ => 0))), (q_5, .inl (cI, 40, .inl (fun _ => 0)))] H := hP
  have hD : va_D A [(b, .inr (0, [.ref fa, .ref q_1, .ref q_4, .null, .null, .null, .null, .null, .int 0, .null, .null])), (q_1, .inl (cI, 4, .inl f_2)), (q_4, .inl (cI, 40, .inl (fun _ => 0))), (q_5, .inl (cI, 40, .inl (fun _ => 0)))] := hD
  refine va_putF (D := (dC, dI)) (ci := 0) (v := .ref q_5) (ty := tyX0 3) (C := RX0) (T := TX0) (N := 11) hx hb hts hin_X0 tyX0 tyX0_ok nmX0 hown hK hP hD hS 0 rfl rfl 3 (by decide) hw8 (fun _ h9 => h9) rfl hnm rfl (tyX0_ok 3 (by decide)) rfl rfl (Nat.le_of_ble_eq_true rfl) dX0_init_39 (fun H locs hP hD hS => ?_)
  have hP : va_P (dC, dI) vwCl [(b, .inr (0, [.ref fa, .ref q_1, .ref q_4, .ref q_5, .null, .null, .null, .null, .int 0, .null, .null])), (q_1, .inl (cI, 4, .inl f_2)), (q_4, .inl (cI, 40, .inl (fun _ => 0))), (q_5, .inl (cI, 40, .inl (fun _ => 0)))] H := hP
  have hD : va_D A [(b, .inr (0, [.ref fa, .ref q_1, .ref q_4, .ref q_5, .null, .null, .null, .null, .int 0, .null, .null])), (q_1, .inl (cI, 4, .inl f_2)), (q_4, .inl (cI, 40, .inl (fun _ => 0))), (q_5, .inl (cI, 40, .inl (fun _ => 0)))] := hD
  refine lv_aload_n hx hb dX0_init_42 rfl (lv_at hl 0 rfl) ?_
  refine lv_bipush (v := 40) hx hb dX0_init_43 (by decide) ?_
  refine cl_newa (atype := .int) hx hb (ty := .int) hw5 rfl (fun _ h => h) 0 rfl hK hP hD hS hA (a0 := (40, .inl (fun _ => 0))) (arr0I 40) (by decide) (by decide) (by decide) (Nat.le_of_ble_eq_true rfl) (Nat.le_of_ble_eq_true rfl) dX0_init_45 (fun q_6 H hP hD hS => ?_)
  have hP : va_P (dC, dI) vwCl [(b, .inr (0, [.ref fa, .ref q_1, .ref q_4, .ref q_5, .null, .null, .null, .null, .int 0, .null, .null])), (q_1, .inl (cI, 4, .inl f_2)), (q_4, .inl (cI, 40, .inl (fun _ => 0))), (q_5, .inl (cI, 40, .inl (fun _ => 0))), (q_6, .inl (cI, 40, .inl (fun _ => 0)))] H := hP
  have hD : va_D A [(b, .inr (0, [.ref fa, .ref q_1, .ref q_4, .ref q_5, .null, .null, .null, .null, .int 0, .null, .null])), (q_1, .inl (cI, 4, .inl f_2)), (q_4, .inl (cI, 40, .inl (fun _ => 0))), (q_5, .inl (cI, 40, .inl (fun _ => 0))), (q_6, .inl (cI, 40, .inl (fun _ => 0)))] := hD
  refine va_putF (D := (dC, dI)) (ci := 0) (v := .ref q_6) (ty := tyX0 4) (C := RX0) (T := TX0) (N := 11) hx hb hts hin_X0 tyX0 tyX0_ok nmX0 hown hK hP hD hS 0 rfl rfl 4 (by decide) hw9 (fun _ h9 => h9) rfl hnm rfl (tyX0_ok 4 (by decide)) rfl rfl (Nat.le_of_ble_eq_true rfl) dX0_init_47 (fun H locs hP hD hS => ?_)
  have hP : va_P (dC, dI) vwCl [(b, .inr (0, [.ref fa, .ref q_1, .ref q_4, .ref q_5, .ref q_6, .null, .null, .null, .int 0, .null, .null])), (q_1, .inl (cI, 4, .inl f_2)), (q_4, .inl (cI, 40, .inl (fun _ => 0))), (q_5, .inl (cI, 40, .inl (fun _ => 0))), (q_6, .inl (cI, 40, .inl (fun _ => 0)))] H := hP
  have hD : va_D A [(b, .inr (0, [.ref fa, .ref q_1, .ref q_4, .ref q_5, .ref q_6, .null, .null, .null, .int 0, .null, .null])), (q_1, .inl (cI, 4, .inl f_2)), (q_4, .inl (cI, 40, .inl (fun _ => 0))), (q_5, .inl (cI, 40, .inl (fun _ => 0))), (q_6, .inl (cI, 40, .inl (fun _ => 0)))] := hD
  refine lv_aload_n hx hb dX0_init_50 rfl (lv_at hl 0 rfl) ?_
  refine lv_iconst (v := 4) hx hb dX0_init_51 (by decide) ?_
  refine cl_newa (atype := .int) hx hb (ty := .int) hw5 rfl (fun _ h => h) 0 rfl hK hP hD hS hA (a0 := (4, .inl (fun _ => 0))) (arr0I 4) (by decide) (by decide) (by decide) (Nat.le_of_ble_eq_true rfl) (Nat.le_of_ble_eq_true rfl) dX0_init_52 (fun q_7 H hP hD hS => ?_)
  have hP : va_P (dC, dI) vwCl [(b, .inr (0, [.ref fa, .ref q_1, .ref q_4, .ref q_5, .ref q_6, .null, .null, .null, .int 0, .null, .null])), (q_1, .inl (cI, 4, .inl f_2)), (q_4, .inl (cI, 40, .inl (fun _ => 0))), (q_5, .inl (cI, 40, .inl (fun _ => 0))), (q_6, .inl (cI, 40, .inl (fun _ => 0))), (q_7, .inl (cI, 4, .inl (fun _ => 0)))] H := hP
  have hD : va_D A [(b, .inr (0, [.ref fa, .ref q_1, .ref q_4, .ref q_5, .ref q_6, .null, .null, .null, .int 0, .null, .null])), (q_1, .inl (cI, 4, .inl f_2)), (q_4, .inl (cI, 40, .inl (fun _ => 0))), (q_5, .inl (cI, 40, .inl (fun _ => 0))), (q_6, .inl (cI, 40, .inl (fun _ => 0))), (q_7, .inl (cI, 4, .inl (fun _ => 0)))] := hD
  refine va_putF (D := (dC, dI)) (ci := 0) (v := .ref q_7) (ty := tyX0 5) (C := RX0) (T := TX0) (N := 11) hx hb hts hin_X0 tyX0 tyX0_ok nmX0 hown hK hP hD hS 0 rfl rfl 5 (by decide) hw10 (fun _ h9 => h9) rfl hnm rfl (tyX0_ok 5 (by decide)) rfl rfl (Nat.le_of_ble_eq_true rfl) dX0_init_54 (fun H locs hP hD hS => ?_)
  have hP : va_P (dC, dI) vwCl [(b, .inr (0, [.ref fa, .ref q_1, .ref q_4, .ref q_5, .ref q_6, .ref q_7, .null, .null, .int 0, .null, .null])), (q_1, .inl (cI, 4, .inl f_2)), (q_4, .inl (cI, 40, .inl (fun _ => 0))), (q_5, .inl (cI, 40, .inl (fun _ => 0))), (q_6, .inl (cI, 40, .inl (fun _ => 0))), (q_7, .inl (cI, 4, .inl (fun _ => 0)))] H := hP
  have hD : va_D A [(b, .inr (0, [.ref fa, .ref q_1, .ref q_4, .ref q_5, .ref q_6, .ref q_7, .null, .null, .int 0, .null, .null])), (q_1, .inl (cI, 4, .inl f_2)), (q_4, .inl (cI, 40, .inl (fun _ => 0))), (q_5, .inl (cI, 40, .inl (fun _ => 0))), (q_6, .inl (cI, 40, .inl (fun _ => 0))), (q_7, .inl (cI, 4, .inl (fun _ => 0)))] := hD
  refine lv_aload_n hx hb dX0_init_57 rfl (lv_at hl 0 rfl) ?_
  refine lv_bipush (v := 40) hx hb dX0_init_58 (by decide) ?_
  refine cl_newa (atype := .int) hx hb (ty := .int) hw5 rfl (fun _ h => h) 0 rfl hK hP hD hS hA (a0 := (40, .inl (fun _ => 0))) (arr0I 40) (by decide) (by decide) (by decide) (Nat.le_of_ble_eq_true rfl) (Nat.le_of_ble_eq_true rfl) dX0_init_60 (fun q_8 H hP hD hS => ?_)
  have hP : va_P (dC, dI) vwCl [(b, .inr (0, [.ref fa, .ref q_1, .ref q_4, .ref q_5, .ref q_6, .ref q_7, .null, .null, .int 0, .null, .null])), (q_1, .inl (cI, 4, .inl f_2)), (q_4, .inl (cI, 40, .inl (fun _ => 0))), (q_5, .inl (cI, 40, .inl (fun _ => 0))), (q_6, .inl (cI, 40, .inl (fun _ => 0))), (q_7, .inl (cI, 4, .inl (fun _ => 0))), (q_8, .inl (cI, 40, .inl (fun _ => 0)))] H := hP
  have hD : va_D A [(b, .inr (0, [.ref fa, .ref q_1, .ref q_4, .ref q_5, .ref q_6, .ref q_7, .null, .null, .int 0, .null, .null])), (q_1, .inl (cI, 4, .inl f_2)), (q_4, .inl (cI, 40, .inl (fun _ => 0))), (q_5, .inl (cI, 40, .inl (fun _ => 0))), (q_6, .inl (cI, 40, .inl (fun _ => 0))), (q_7, .inl (cI, 4, .inl (fun _ => 0))), (q_8, .inl (cI, 40, .inl (fun _ => 0)))] := hD
  refine va_putF (D := (dC, dI)) (ci := 0) (v := .ref q_8) (ty := tyX0 6) (C := RX0) (T := TX0) (N := 11) hx hb hts hin_X0 tyX0 tyX0_ok nmX0 hown hK hP hD hS 0 rfl rfl 6 (by decide) hw11 (fun _ h9 => h9) rfl hnm rfl (tyX0_ok 6 (by decide)) rfl rfl (Nat.le_of_ble_eq_true rfl) dX0_init_62 (fun H locs hP hD hS => ?_)
  have hP : va_P (dC, dI) vwCl [(b, .inr (0, [.ref fa, .ref q_1, .ref q_4, .ref q_5, .ref q_6, .ref q_7, .ref q_8, .null, .int 0, .null, .null])), (q_1, .inl (cI, 4, .inl f_2)), (q_4, .inl (cI, 40, .inl (fun _ => 0))), (q_5, .inl (cI, 40, .inl (fun _ => 0))), (q_6, .inl (cI, 40, .inl (fun _ => 0))), (q_7, .inl (cI, 4, .inl (fun _ => 0))), (q_8, .inl (cI, 40, .inl (fun _ => 0)))] H := hP
  have hD : va_D A [(b, .inr (0, [.ref fa, .ref q_1, .ref q_4, .ref q_5, .ref q_6, .ref q_7, .ref q_8, .null, .int 0, .null, .null])), (q_1, .inl (cI, 4, .inl f_2)), (q_4, .inl (cI, 40, .inl (fun _ => 0))), (q_5, .inl (cI, 40, .inl (fun _ => 0))), (q_6, .inl (cI, 40, .inl (fun _ => 0))), (q_7, .inl (cI, 4, .inl (fun _ => 0))), (q_8, .inl (cI, 40, .inl (fun _ => 0)))] := hD
  refine lv_aload_n hx hb dX0_init_65 rfl (lv_at hl 0 rfl) ?_
  refine lv_iconst (v := 4) hx hb dX0_init_66 (by decide) ?_
  refine cl_newa (atype := .int) hx hb (ty := .int) hw5 rfl (fun _ h => h) 0 rfl hK hP hD hS hA (a0 := (4, .inl (fun _ => 0))) (arr0I 4) (by decide) (by decide) (by decide) (Nat.le_of_ble_eq_true rfl) (Nat.le_of_ble_eq_true rfl) dX0_init_67 (fun q_9 H hP hD hS => ?_)
  have hP : va_P (dC, dI) vwCl [(b, .inr (0, [.ref fa, .ref q_1, .ref q_4, .ref q_5, .ref q_6, .ref q_7, .ref q_8, .null, .int 0, .null, .null])), (q_1, .inl (cI, 4, .inl f_2)), (q_4, .inl (cI, 40, .inl (fun _ => 0))), (q_5, .inl (cI, 40, .inl (fun _ => 0))), (q_6, .inl (cI, 40, .inl (fun _ => 0))), (q_7, .inl (cI, 4, .inl (fun _ => 0))), (q_8, .inl (cI, 40, .inl (fun _ => 0))), (q_9, .inl (cI, 4, .inl (fun _ => 0)))] H := hP
  have hD : va_D A [(b, .inr (0, [.ref fa, .ref q_1, .ref q_4, .ref q_5, .ref q_6, .ref q_7, .ref q_8, .null, .int 0, .null, .null])), (q_1, .inl (cI, 4, .inl f_2)), (q_4, .inl (cI, 40, .inl (fun _ => 0))), (q_5, .inl (cI, 40, .inl (fun _ => 0))), (q_6, .inl (cI, 40, .inl (fun _ => 0))), (q_7, .inl (cI, 4, .inl (fun _ => 0))), (q_8, .inl (cI, 40, .inl (fun _ => 0))), (q_9, .inl (cI, 4, .inl (fun _ => 0)))] := hD
  refine va_putF (D := (dC, dI)) (ci := 0) (v := .ref q_9) (ty := tyX0 7) (C := RX0) (T := TX0) (N := 11) hx hb hts hin_X0 tyX0 tyX0_ok nmX0 hown hK hP hD hS 0 rfl rfl 7 (by decide) hw12 (fun _ h9 => h9) rfl hnm rfl (tyX0_ok 7 (by decide)) rfl rfl (Nat.le_of_ble_eq_true rfl) dX0_init_69 (fun H locs hP hD hS => ?_)
  have hP : va_P (dC, dI) vwCl [(b, .inr (0, [.ref fa, .ref q_1, .ref q_4, .ref q_5, .ref q_6, .ref q_7, .ref q_8, .ref q_9, .int 0, .null, .null])), (q_1, .inl (cI, 4, .inl f_2)), (q_4, .inl (cI, 40, .inl (fun _ => 0))), (q_5, .inl (cI, 40, .inl (fun _ => 0))), (q_6, .inl (cI, 40, .inl (fun _ => 0))), (q_7, .inl (cI, 4, .inl (fun _ => 0))), (q_8, .inl (cI, 40, .inl (fun _ => 0))), (q_9, .inl (cI, 4, .inl (fun _ => 0)))] H := hP
  have hD : va_D A [(b, .inr (0, [.ref fa, .ref q_1, .ref q_4, .ref q_5, .ref q_6, .ref q_7, .ref q_8, .ref q_9, .int 0, .null, .null])), (q_1, .inl (cI, 4, .inl f_2)), (q_4, .inl (cI, 40, .inl (fun _ => 0))), (q_5, .inl (cI, 40, .inl (fun _ => 0))), (q_6, .inl (cI, 40, .inl (fun _ => 0))), (q_7, .inl (cI, 4, .inl (fun _ => 0))), (q_8, .inl (cI, 40, .inl (fun _ => 0))), (q_9, .inl (cI, 4, .inl (fun _ => 0)))] := hD
  refine lv_aload_n hx hb dX0_init_72 rfl (lv_at hl 0 rfl) ?_
  refine lv_sipush (v := 128) hx hb dX0_init_73 (by decide) ?_
  refine cl_newa (atype := .int) hx hb (ty := .int) hw5 rfl (fun _ h => h) 0 rfl hK hP hD hS hA (a0 := (128, .inl (fun _ => 0))) (arr0I 128) (by decide) (by decide) (by decide) (Nat.le_of_ble_eq_true rfl) (Nat.le_of_ble_eq_true rfl) dX0_init_76 (fun q_10 H hP hD hS => ?_)
  have hP : va_P (dC, dI) vwCl [(b, .inr (0, [.ref fa, .ref q_1, .ref q_4, .ref q_5, .ref q_6, .ref q_7, .ref q_8, .ref q_9, .int 0, .null, .null])), (q_1, .inl (cI, 4, .inl f_2)), (q_4, .inl (cI, 40, .inl (fun _ => 0))), (q_5, .inl (cI, 40, .inl (fun _ => 0))), (q_6, .inl (cI, 40, .inl (fun _ => 0))), (q_7, .inl (cI, 4, .inl (fun _ => 0))), (q_8, .inl (cI, 40, .inl (fun _ => 0))), (q_9, .inl (cI, 4, .inl (fun _ => 0))), (q_10, .inl (cI, 128, .inl (fun _ => 0)))] H := hP
  have hD : va_D A [(b, .inr (0, [.ref fa, .ref q_1, .ref q_4, .ref q_5, .ref q_6, .ref q_7, .ref q_8, .ref q_9, .int 0, .null, .null])), (q_1, .inl (cI, 4, .inl f_2)), (q_4, .inl (cI, 40, .inl (fun _ => 0))), (q_5, .inl (cI, 40, .inl (fun _ => 0))), (q_6, .inl (cI, 40, .inl (fun _ => 0))), (q_7, .inl (cI, 4, .inl (fun _ => 0))), (q_8, .inl (cI, 40, .inl (fun _ => 0))), (q_9, .inl (cI, 4, .inl (fun _ => 0))), (q_10, .inl (cI, 128, .inl (fun _ => 0)))] := hD
  refine va_putF (D := (dC, dI)) (ci := 0) (v := .ref q_10) (ty := tyX0 9) (C := RX0) (T := TX0) (N := 11) hx hb hts hin_X0 tyX0 tyX0_ok nmX0 hown hK hP hD hS 0 rfl rfl 9 (by decide) hw13 (fun _ h9 => h9) rfl hnm rfl (tyX0_ok 9 (by decide)) rfl rfl (Nat.le_of_ble_eq_true rfl) dX0_init_78 (fun H locs hP hD hS => ?_)
  have hP : va_P (dC, dI) vwCl [(b, .inr (0, [.ref fa, .ref q_1, .ref q_4, .ref q_5, .ref q_6, .ref q_7, .ref q_8, .ref q_9, .int 0, .ref q_10, .null])), (q_1, .inl (cI, 4, .inl f_2)), (q_4, .inl (cI, 40, .inl (fun _ => 0))), (q_5, .inl (cI, 40, .inl (fun _ => 0))), (q_6, .inl (cI, 40, .inl (fun _ => 0))), (q_7, .inl (cI, 4, .inl (fun _ => 0))), (q_8, .inl (cI, 40, .inl (fun _ => 0))), (q_9, .inl (cI, 4, .inl (fun _ => 0))), (q_10, .inl (cI, 128, .inl (fun _ => 0)))] H := hP
  have hD : va_D A [(b, .inr (0, [.ref fa, .ref q_1, .ref q_4, .ref q_5, .ref q_6, .ref q_7, .ref q_8, .ref q_9, .int 0, .ref q_10, .null])), (q_1, .inl (cI, 4, .inl f_2)), (q_4, .inl (cI, 40, .inl (fun _ => 0))), (q_5, .inl (cI, 40, .inl (fun _ => 0))), (q_6, .inl (cI, 40, .inl (fun _ => 0))), (q_7, .inl (cI, 4, .inl (fun _ => 0))), (q_8, .inl (cI, 40, .inl (fun _ => 0))), (q_9, .inl (cI, 4, .inl (fun _ => 0))), (q_10, .inl (cI, 128, .inl (fun _ => 0)))] := hD
  refine lv_aload_n hx hb dX0_init_81 rfl (lv_at hl 0 rfl) ?_
  refine lv_sipush (v := 128) hx hb dX0_init_82 (by decide) ?_
  refine cl_newa (atype := .boolean) hx hb (ty := .boolean) hw14 rfl (fun _ h => h) 1 rfl hK hP hD hS hA (a0 := (128, .inl (fun _ => 0))) (arr0Z 128) (by decide) (by decide) (by decide) (Nat.le_of_ble_eq_true rfl) (Nat.le_of_ble_eq_true rfl) dX0_init_85 (fun q_11 H hP hD hS => ?_)
  have hP : va_P (dC, dI) vwCl [(b, .inr (0, [.ref fa, .ref q_1, .ref q_4, .ref q_5, .ref q_6, .ref q_7, .ref q_8, .ref q_9, .int 0, .ref q_10, .null])), (q_1, .inl (cI, 4, .inl f_2)), (q_4, .inl (cI, 40, .inl (fun _ => 0))), (q_5, .inl (cI, 40, .inl (fun _ => 0))), (q_6, .inl (cI, 40, .inl (fun _ => 0))), (q_7, .inl (cI, 4, .inl (fun _ => 0))), (q_8, .inl (cI, 40, .inl (fun _ => 0))), (q_9, .inl (cI, 4, .inl (fun _ => 0))), (q_10, .inl (cI, 128, .inl (fun _ => 0))), (q_11, .inl (cZ, 128, .inl (fun _ => 0)))] H := hP
  have hD : va_D A [(b, .inr (0, [.ref fa, .ref q_1, .ref q_4, .ref q_5, .ref q_6, .ref q_7, .ref q_8, .ref q_9, .int 0, .ref q_10, .null])), (q_1, .inl (cI, 4, .inl f_2)), (q_4, .inl (cI, 40, .inl (fun _ => 0))), (q_5, .inl (cI, 40, .inl (fun _ => 0))), (q_6, .inl (cI, 40, .inl (fun _ => 0))), (q_7, .inl (cI, 4, .inl (fun _ => 0))), (q_8, .inl (cI, 40, .inl (fun _ => 0))), (q_9, .inl (cI, 4, .inl (fun _ => 0))), (q_10, .inl (cI, 128, .inl (fun _ => 0))), (q_11, .inl (cZ, 128, .inl (fun _ => 0)))] := hD
  refine va_putF (D := (dC, dI)) (ci := 0) (v := .ref q_11) (ty := tyX0 10) (C := RX0) (T := TX0) (N := 11) hx hb hts hin_X0 tyX0 tyX0_ok nmX0 hown hK hP hD hS 0 rfl rfl 10 (by decide) hw15 (fun _ h9 => h9) rfl hnm rfl (tyX0_ok 10 (by decide)) rfl rfl (Nat.le_of_ble_eq_true rfl) dX0_init_87 (fun H locs hP hD hS => ?_)
  have hP : va_P (dC, dI) vwCl [(b, .inr (0, [.ref fa, .ref q_1, .ref q_4, .ref q_5, .ref q_6, .ref q_7, .ref q_8, .ref q_9, .int 0, .ref q_10, .ref q_11])), (q_1, .inl (cI, 4, .inl f_2)), (q_4, .inl (cI, 40, .inl (fun _ => 0))), (q_5, .inl (cI, 40, .inl (fun _ => 0))), (q_6, .inl (cI, 40, .inl (fun _ => 0))), (q_7, .inl (cI, 4, .inl (fun _ => 0))), (q_8, .inl (cI, 40, .inl (fun _ => 0))), (q_9, .inl (cI, 4, .inl (fun _ => 0))), (q_10, .inl (cI, 128, .inl (fun _ => 0))), (q_11, .inl (cZ, 128, .inl (fun _ => 0)))] H := hP
  have hD : va_D A [(b, .inr (0, [.ref fa, .ref q_1, .ref q_4, .ref q_5, .ref q_6, .ref q_7, .ref q_8, .ref q_9, .int 0, .ref q_10, .ref q_11])), (q_1, .inl (cI, 4, .inl f_2)), (q_4, .inl (cI, 40, .inl (fun _ => 0))), (q_5, .inl (cI, 40, .inl (fun _ => 0))), (q_6, .inl (cI, 40, .inl (fun _ => 0))), (q_7, .inl (cI, 4, .inl (fun _ => 0))), (q_8, .inl (cI, 40, .inl (fun _ => 0))), (q_9, .inl (cI, 4, .inl (fun _ => 0))), (q_10, .inl (cI, 128, .inl (fun _ => 0))), (q_11, .inl (cZ, 128, .inl (fun _ => 0)))] := hD
  exact hret (fun j => [0, 0, 0, 0, 0, 0, 0, 0, 0, 0, 0, 0, 0, 0, q_1, q_4, q_5, q_6, q_7, q_8, q_9, q_10, q_11].getD j 0, f_2) H locs 90 ls dX0_init_90 hw_3 (hP.sub [0, 1, 2, 3, 4, 5, 6, 7, 8, 9] rfl) (hD.sub [0, 1, 2, 3, 4, 5, 6, 7, 8, 9] (by decide) rfl) hS
def rm_X3_init : Room := { frames := 1, cells := 6, slots := 1278, locals := 23 }
set_option maxHeartbeats 4000000 in
set_option maxRecDepth 100000 in
theorem c_X3_init (l : Launch) (dC : Nat → ClassId) (dI : Nat → Nat → Nat) (cI cZ cJ : ClassId) (b fa ca : Nat) : CtV l (dC, dI) vwCl (tys3 cI cZ cJ) yX3_init wsX3_init rm_X3_init [.ref b, .ref fa, .ref ca] [(b, .inr (3, [.null, .null, .null, .int 0, .int 0, .int 0, .int 0, .null, .null, .null, .null, .null, .int 0, .int 0]))] (S := (Nat → Nat) × (Nat → Int32)) (fun u => ∀ i, i < 24 → u.2 i = 10) (fun u => [(b, .inr (3, [.ref fa, .ref ca, .ref (u.1 23), .int 0, .int 0, .int 0, .int 0, .ref (u.1 24), .ref (u.1 25), .ref (u.1 26), .ref (u.1 27), .ref (u.1 28), .int 0, .int 24])), (u.1 23, .inl (cI, 24, .inl u.2)), (u.1 24, .inl (cI, 402, .inl (fun _ => 0))), (u.1 25, .inl (cI, 402, .inl (fun _ => 0))), (u.1 26, .inl (cI, 402, .inl (fun _ => 0))), (u.1 27, .inl (cI, 24, .inl (fun _ => 0))), (u.1 28, .inl (cI, 24, .inl (fun _ => 0)))]) 6 1278 := by
  refine ct_V (cc := cX3_init) (maxL := 3) (own := RX3) (by decide) rfl rfl (Nat.le_of_ble_eq_true rfl) (lv := [(0, .ref b), (1, .ref fa), (2, .ref ca)]) rfl ?_
  intro p e s m args below meth c A Q ls hnm fx hK hP hD hA hl hret
  obtain ⟨hx, hb, hml, hown, hts⟩ := id fx
  have hS : va_S A s.heap s.heap [] := va_S.rf
  have hw0 := hts (.methodLink RX3 3 objectInit) (by decide +kernel)
  have hw1 := hts (.instanceMethod objectInit) (by decide +kernel)
  have hw2 := hts (.code objectInit ⟨#[0xb1]⟩ 1 none) (by decide +kernel)
  have hw3 := hts (.fieldLink RX3 9 "MirrorTower$Store" "field" "LMirrorTower$Field;") (by decide +kernel)
  have hin_X3 : ∀ w ∈ u_ws RX3 TX3 14, w ∈ wsX3_init := by decide +kernel
  have hw5 := hts (.fieldLink RX3 15 "MirrorTower$Store" "cells" "LMirrorTower$Face;") (by decide +kernel)
  have hw6 := hts (.arrayClass .int) (by decide +kernel)
  have hw7 := hts (.fieldLink RX3 19 "MirrorTower$Store" "prices" "[I") (by decide +kernel)
  have hw8 := hts (.fieldLink RX3 29 "MirrorTower$Store" "gains" "[I") (by decide +kernel)
  have hw9 := hts (.fieldLink RX3 32 "MirrorTower$Store" "laterGains" "[I") (by decide +kernel)
  have hw10 := hts (.fieldLink RX3 35 "MirrorTower$Store" "choices" "[I") (by decide +kernel)
  have hw11 := hts (.fieldLink RX3 38 "MirrorTower$Store" "unitsIn" "[I") (by decide +kernel)
  have hw12 := hts (.fieldLink RX3 41 "MirrorTower$Store" "mostHeld" "[I") (by decide +kernel)
  have hw13 := hts (.fieldLink RX3 44 "MirrorTower$Store" "plannedFrom" "I") (by decide +kernel)
  obtain ⟨H, hH⟩ : ∃ H, H = s.heap := ⟨_, rfl⟩
  rw [← hH] at hP ⊢
  have hS : va_S A s.heap H [] := by rw [hH]; exact hS
  generalize ([] : List Loc) = locs at hS ⊢
  refine lv_aload_n hx hb dX3_init_0 rfl (lv_at hl 0 rfl) ?_
  refine W.objInit hx hb hown hw0 hw1 hw2 rfl (by rw [hml]; exact hl.1) rfl dX3_init_1 (Nat.le_of_ble_eq_true rfl) (Nat.le_of_ble_eq_true rfl) ?_
  refine W.eq (g2 := F0 m 4 ls []) rfl ?_
  refine lv_aload_n hx hb dX3_init_4 rfl (lv_at hl 0 rfl) ?_
  refine lv_aload_n hx hb dX3_init_5 rfl (lv_at hl 1 rfl) ?_
  refine va_putF (D := (dC, dI)) (ci := 3) (v := .ref fa) (ty := tyX3 0) (C := RX3) (T := TX3) (N := 14) hx hb hts hin_X3 tyX3 tyX3_ok nmX3 hown hK hP hD hS 0 rfl rfl 0 (by decide) hw3 (fun _ h9 => h9) rfl hnm rfl (tyX3_ok 0 (by decide)) rfl rfl (Nat.le_of_ble_eq_true rfl) dX3_init_6 (fun H locs hP hD hS => ?_)
  have hP : va_P (dC, dI) vwCl [(b, .inr (3, [.ref fa, .null, .null, .int 0, .int 0, .int 0, .int 0, .null, .null, .null, .null, .null, .int 0, .int 0]))] H := hP
  have hD : va_D A [(b, .inr (3, [.ref fa, .null, .null, .int 0, .int 0, .int 0, .int 0, .null, .null, .null, .null, .null, .int 0, .int 0]))] := hD
  refine lv_aload_n hx hb dX3_init_9 rfl (lv_at hl 0 rfl) ?_
  refine lv_aload_n hx hb dX3_init_10 rfl (lv_at hl 2 rfl) ?_
  refine va_putF (D := (dC, dI)) (ci := 3) (v := .ref ca) (ty := tyX3 1) (C := RX3) (T := TX3) (N := 14) hx hb hts hin_X3 tyX3 tyX3_ok nmX3 hown hK hP hD hS 0 rfl rfl 1 (by decide) hw5 (fun _ h9 => h9) rfl hnm rfl (tyX3_ok 1 (by decide)) rfl rfl (Nat.le_of_ble_eq_true rfl) dX3_init_11 (fun H locs hP hD hS => ?_)
  have hP : va_P (dC, dI) vwCl [(b, .inr (3, [.ref fa, .ref ca, .null, .int 0, .int 0, .int 0, .int 0, .null, .null, .null, .null, .null, .int 0, .int 0]))] H := hP
  have hD : va_D A [(b, .inr (3, [.ref fa, .ref ca, .null, .int 0, .int 0, .int 0, .int 0, .null, .null, .null, .null, .null, .int 0, .int 0]))] := hD
  refine lv_aload_n hx hb dX3_init_14 rfl (lv_at hl 0 rfl) ?_
  refine lv_bipush (v := 24) hx hb dX3_init_15 (by decide) ?_
  refine cl_newa (atype := .int) hx hb (ty := .int) hw6 rfl (fun _ h => h) 0 rfl hK hP hD hS hA (a0 := (24, .inl (fun _ => 0))) (arr0I 24) (by decide) (by decide) (by decide) (Nat.le_of_ble_eq_true rfl) (Nat.le_of_ble_eq_true rfl) dX3_init_17 (fun q_1 H hP hD hS => ?_)
  have hP : va_P (dC, dI) vwCl [(b, .inr (3, [.ref fa, .ref ca, .null, .int 0, .int 0, .int 0, .int 0, .null, .null, .null, .null, .null, .int 0, .int 0])), (q_1, .inl (cI, 24, .inl (fun _ => 0)))] H := hP
  have hD : va_D A [(b, .inr (3, [.ref fa, .ref ca, .null, .int 0, .int 0, .int 0, .int 0, .null, .null, .null, .null, .null, .int 0, .int 0])), (q_1, .inl (cI, 24, .inl (fun _ => 0)))] := hD
  refine va_putF (D := (dC, dI)) (ci := 3) (v := .ref q_1) (ty := tyX3 2) (C := RX3) (T := TX3) (N := 14) hx hb hts hin_X3 tyX3 tyX3_ok nmX3 hown hK hP hD hS 0 rfl rfl 2 (by decide) hw7 (fun _ h9 => h9) rfl hnm rfl (tyX3_ok 2 (by decide)) rfl rfl (Nat.le_of_ble_eq_true rfl) dX3_init_19 (fun H locs hP hD hS => ?_)
  have hP : va_P (dC, dI) vwCl [(b, .inr (3, [.ref fa, .ref ca, .ref q_1, .int 0, .int 0, .int 0, .int 0, .null, .null, .null, .null, .null, .int 0, .int 0])), (q_1, .inl (cI, 24, .inl (fun _ => 0)))] H := hP
  have hD : va_D A [(b, .inr (3, [.ref fa, .ref ca, .ref q_1, .int 0, .int 0, .int 0, .int 0, .null, .null, .null, .null, .null, .int 0, .int 0])), (q_1, .inl (cI, 24, .inl (fun _ => 0)))] := hD
  refine lv_aload_n hx hb dX3_init_22 rfl (lv_at hl 0 rfl) ?_
  refine va_get (D := (dC, dI)) (ci := 3) (v := .ref q_1) (C := RX3) (T := TX3) (N := 14) hx hb hts hin_X3 hown hK hP 0 rfl rfl 2 (by decide) hw7 (fun _ h9 => h9) rfl dX3_init_23 ?_
  refine lv_bipush (v := 10) hx hb dX3_init_26 (by decide) ?_
  refine cl_Sv (As := [.ref q_1, .int 10]) (rest := []) (wr := [(b, .inr (3, [.ref fa, .ref ca, .ref q_1, .int 0, .int 0, .int 0, .int 0, .null, .null, .null, .null, .null, .int 0, .int 0]))]) (c_J7_fill l dC dI cI cZ cJ q_1 24 (fun _ => 0) 10 (by decide)) fx (va_cwS 2 hts gX3_init_J7_fill_53178 rfl rfl rfl (by decide +kernel) ⟨Nat.le_of_ble_eq_true rfl, Nat.le_of_ble_eq_true rfl⟩) hK hP hD hS hA [1] [0] rfl rfl (by decide) (by decide) (by decide) rfl hl.1 rfl (Nat.le_of_ble_eq_true rfl) dX3_init_28 ⟨Nat.le_of_ble_eq_true rfl, Nat.le_of_ble_eq_true rfl⟩ (fun f_2 H locs hw_3 hP hD hS => ?_)
  have hP : va_P (dC, dI) vwCl [(b, .inr (3, [.ref fa, .ref ca, .ref q_1, .int 0, .int 0, .int 0, .int 0, .null, .null, .null, .null, .null, .int 0, .int 0])), (q_1, .inl (cI, 24, .inl f_2))] H := hP
  have hD : va_D A [(b, .inr (3, [.ref fa, .ref ca, .ref q_1, .int 0, .int 0, .int 0, .int 0, .null, .null, .null, .null, .null, .int 0, .int 0])), (q_1, .inl (cI, 24, .inl f_2))] := hD
  have hw_3 : ∀ i, i < 24 → f_2 i = 10 := hw_3
  refine lv_aload_n hx hb dX3_init_31 rfl (lv_at hl 0 rfl) ?_
  refine lv_sipush (v := 402) hx hb dX3_init_32 (by decide) ?_
  refine cl_newa (atype := .int) hx hb (ty := .int) hw6 rfl (fun _ h => h) 0 rfl hK hP hD hS hA (a0 := (402, .inl (fun _ => 0))) (arr0I 402) (by decide) (by decide) (by decide) (Nat.le_of_ble_eq_true rfl) (Nat.le_of_ble_eq_true rfl) dX3_init_35 (fun q_4 H hP hD hS => ?_)
  have hP : va_P (dC, dI) vwCl [(b, .inr (3, [.ref fa, .ref ca, .ref q_1, .int 0, .int 0, .int 0, .int 0, .null, .null, .null, .null, .null, .int 0, .int 0])), (q_1, .inl (cI, 24, .inl f_2)), (q_4, .inl (cI, 402, .inl (fun _ => 0)))] H := hP
  have hD : va_D A [(b, .inr (3, [.ref fa, .ref ca, .ref q_1, .int 0, .int 0, .int 0, .int 0, .null, .null, .null, .null, .null, .int 0, .int 0])), (q_1, .inl (cI, 24, .inl f_2)), (q_4, .inl (cI, 402, .inl (fun _ => 0)))] := hD
  refine va_put (D := (dC, dI)) (ci := 3) (v := .ref q_4) (ty := tyX3 7) (C := RX3) (T := TX3) (N := 14) hx hb hts hin_X3 tyX3 tyX3_ok nmX3 hown hK hP hD hS 0 rfl rfl 7 (by decide) hw8 (fun _ h9 => h9) rfl (tyX3_ok 7 (by decide)) rfl rfl (Nat.le_of_ble_eq_true rfl) dX3_init_37 (fun H locs hP hD hS => ?_)
  have hP : va_P (dC, dI) vwCl [(b, .inr (3, [.ref fa, .ref ca, .ref q_1, .int 0, .int 0, .int 0, .int 0, .ref q_4, .null, .null, .null, .null, .int 0, .int 0])), (q_1, .inl (cI, 24, .inl f_2)), (q_4, .inl (cI, 402, .inl (fun _ => 0)))] H := hP
  have hD : va_D A [(b, .inr (3, [.ref fa, .ref ca, .ref q_1, .int 0, .int 0, .int 0, .int 0, .ref q_4, .null, .null, .null, .null, .int 0, .int 0])), (q_1, .inl (cI, 24, .inl f_2)), (q_4, .inl (cI, 402, .inl (fun _ => 0)))] := hD
  refine lv_aload_n hx hb dX3_init_40 rfl (lv_at hl 0 rfl) ?_
  refine lv_sipush (v := 402) hx hb dX3_init_41 (by decide) ?_
  refine cl_newa (atype := .int) hx hb (ty := .int) hw6 rfl (fun _ h => h) 0 rfl hK hP hD hS hA (a0 := (402, .inl (fun _ => 0))) (arr0I 402) (by decide) (by decide) (by decide) (Nat.le_of_ble_eq_true rfl) (Nat.le_of_ble_eq_true rfl) dX3_init_44 (fun q_5 H hP hD hS => ?_)
  have hP : va_P (dC, dI) vwCl [(b, .inr (3, [.ref fa, .ref ca, .ref q_1, .int 0, .int 0, .int 0, .int 0, .ref q_4, .null, .null, .null, .null, .int 0, .int 0])), (q_1, .inl (cI, 24, .inl f_2)), (q_4, .inl (cI, 402, .inl (fun _ => 0))), (q_5, .inl (cI, 402, .inl (fun _ => 0)))] H := hP
  have hD : va_D A [(b, .inr (3, [.ref fa, .ref ca, .ref q_1, .int 0, .int 0, .int 0, .int 0, .ref q_4, .null, .null, .null, .null, .int 0, .int 0])), (q_1, .inl (cI, 24, .inl f_2)), (q_4, .inl (cI, 402, .inl (fun _ => 0))), (q_5, .inl (cI, 402, .inl (fun _ => 0)))] := hD
  refine va_put (D := (dC, dI)) (ci := 3) (v := .ref q_5) (ty := tyX3 8) (C := RX3) (T := TX3) (N := 14) hx hb hts hin_X3 tyX3 tyX3_ok nmX3 hown hK hP hD hS 0 rfl rfl 8 (by decide) hw9 (fun _ h9 => h9) rfl (tyX3_ok 8 (by decide)) rfl rfl (Nat.le_of_ble_eq_true rfl) dX3_init_46 (fun H locs hP hD hS => ?_)
  have hP : va_P (dC, dI) vwCl [(b, .inr (3, [.ref fa, .ref ca, .ref q_1, .int 0, .int 0, .int 0, .int 0, .ref q_4, .ref q_5, .null, .null, .null, .int 0, .int 0])), (q_1, .inl (cI, 24, .inl f_2)), (q_4, .inl (cI, 402, .inl (fun _ => 0))), (q_5, .inl (cI, 402, .inl (fun _ => 0)))] H := hP
  have hD : va_D A [(b, .inr (3, [.ref fa, .ref ca, .ref q_1, .int 0, .int 0, .int 0, .int 0, .ref q_4, .ref q_5, .null, .null, .null, .int 0, .int 0])), (q_1, .inl (cI, 24, .inl f_2)), (q_4, .inl (cI, 402, .inl (fun _ => 0))), (q_5, .inl (cI, 402, .inl (fun _ => 0)))] := hD
  refine lv_aload_n hx hb dX3_init_49 rfl (lv_at hl 0 rfl) ?_
  refine lv_sipush (v := 402) hx hb dX3_init_50 (by decide) ?_
  refine cl_newa (atype := .int) hx hb (ty := .int) hw6 rfl (fun _ h => h) 0 rfl hK hP hD hS hA (a0 := (402, .inl (fun _ => 0))) (arr0I 402) (by decide) (by decide) (by decide) (Nat.le_of_ble_eq_true rfl) (Nat.le_of_ble_eq_true rfl) dX3_init_53 (fun q_6 H hP hD hS => ?_)
  have hP : va_P (dC, dI) vwCl [(b, .inr (3, [.ref fa, .ref ca, .ref q_1, .int 0, .int 0, .int 0, .int 0, .ref q_4, .ref q_5, .null, .null, .null, .int 0, .int 0])), (q_1, .inl (cI, 24, .inl f_2)), (q_4, .inl (cI, 402, .inl (fun _ => 0))), (q_5, .inl (cI, 402, .inl (fun _ => 0))), (q_6, .inl (cI, 402, .inl (fun _ => 0)))] H := hP
  have hD : va_D A [(b, .inr (3, [.ref fa, .ref ca, .ref q_1, .int 0, .int 0, .int 0, .int 0, .ref q_4, .ref q_5, .null, .null, .null, .int 0, .int 0])), (q_1, .inl (cI, 24, .inl f_2)), (q_4, .inl (cI, 402, .inl (fun _ => 0))), (q_5, .inl (cI, 402, .inl (fun _ => 0))), (q_6, .inl (cI, 402, .inl (fun _ => 0)))] := hD
  refine va_putF (D := (dC, dI)) (ci := 3) (v := .ref q_6) (ty := tyX3 9) (C := RX3) (T := TX3) (N := 14) hx hb hts hin_X3 tyX3 tyX3_ok nmX3 hown hK hP hD hS 0 rfl rfl 9 (by decide) hw10 (fun _ h9 => h9) rfl hnm rfl (tyX3_ok 9 (by decide)) rfl rfl (Nat.le_of_ble_eq_true rfl) dX3_init_55 (fun H locs hP hD hS => ?_)
  have hP : va_P (dC, dI) vwCl [(b, .inr (3, [.ref fa, .ref ca, .ref q_1, .int 0, .int 0, .int 0, .int 0, .ref q_4, .ref q_5, .ref q_6, .null, .null, .int 0, .int 0])), (q_1, .inl (cI, 24, .inl f_2)), (q_4, .inl (cI, 402, .inl (fun _ => 0))), (q_5, .inl (cI, 402, .inl (fun _ => 0))), (q_6, .inl (cI, 402, .inl (fun _ => 0)))] H := hP
  have hD : va_D A [(b, .inr (3, [.ref fa, .ref ca, .ref q_1, .int 0, .int 0, .int 0, .int 0, .ref q_4, .ref q_5, .ref q_6, .null, .null, .int 0, .int 0])), (q_1, .inl (cI, 24, .inl f_2)), (q_4, .inl (cI, 402, .inl (fun _ => 0))), (q_5, .inl (cI, 402, .inl (fun _ => 0))), (q_6, .inl (cI, 402, .inl (fun _ => 0)))] := hD
  refine lv_aload_n hx hb dX3_init_58 rfl (lv_at hl 0 rfl) ?_
  refine lv_bipush (v := 24) hx hb dX3_init_59 (by decide) ?_
  refine cl_newa (atype := .int) hx hb (ty := .int) hw6 rfl (fun _ h => h) 0 rfl hK hP hD hS hA (a0 := (24, .inl (fun _ => 0))) (arr0I 24) (by decide) (by decide) (by decide) (Nat.le_of_ble_eq_true rfl) (Nat.le_of_ble_eq_true rfl) dX3_init_61 (fun q_7 H hP hD hS => ?_)
  have hP : va_P (dC, dI) vwCl [(b, .inr (3, [.ref fa, .ref ca, .ref q_1, .int 0, .int 0, .int 0, .int 0, .ref q_4, .ref q_5, .ref q_6, .null, .null, .int 0, .int 0])), (q_1, .inl (cI, 24, .inl f_2)), (q_4, .inl (cI, 402, .inl (fun _ => 0))), (q_5, .inl (cI, 402, .inl (fun _ => 0))), (q_6, .inl (cI, 402, .inl (fun _ => 0))), (q_7, .inl (cI, 24, .inl (fun _ => 0)))] H := hP
  have hD : va_D A [(b, .inr (3, [.ref fa, .ref ca, .ref q_1, .int 0, .int 0, .int 0, .int 0, .ref q_4, .ref q_5, .ref q_6, .null, .null, .int 0, .int 0])), (q_1, .inl (cI, 24, .inl f_2)), (q_4, .inl (cI, 402, .inl (fun _ => 0))), (q_5, .inl (cI, 402, .inl (fun _ => 0))), (q_6, .inl (cI, 402, .inl (fun _ => 0))), (q_7, .inl (cI, 24, .inl (fun _ => 0)))] := hD
  refine va_putF (D := (dC, dI)) (ci := 3) (v := .ref q_7) (ty := tyX3 10) (C := RX3) (T := TX3) (N := 14) hx hb hts hin_X3 tyX3 tyX3_ok nmX3 hown hK hP hD hS 0 rfl rfl 10 (by decide) hw11 (fun _ h9 => h9) rfl hnm rfl (tyX3_ok 10 (by decide)) rfl rfl (Nat.le_of_ble_eq_true rfl) dX3_init_63 (fun H locs hP hD hS => ?_)
  have hP : va_P (dC, dI) vwCl [(b, .inr (3, [.ref fa, .ref ca, .ref q_1, .int 0, .int 0, .int 0, .int 0, .ref q_4, .ref q_5, .ref q_6, .ref q_7, .null, .int 0, .int 0])), (q_1, .inl (cI, 24, .inl f_2)), (q_4, .inl (cI, 402, .inl (fun _ => 0))), (q_5, .inl (cI, 402, .inl (fun _ => 0))), (q_6, .inl (cI, 402, .inl (fun _ => 0))), (q_7, .inl (cI, 24, .inl (fun _ => 0)))] H := hP
  have hD : va_D A [(b, .inr (3, [.ref fa, .ref ca, .ref q_1, .int 0, .int 0, .int 0, .int 0, .ref q_4, .ref q_5, .ref q_6, .ref q_7, .null, .int 0, .int 0])), (q_1, .inl (cI, 24, .inl f_2)), (q_4, .inl (cI, 402, .inl (fun _ => 0))), (q_5, .inl (cI, 402, .inl (fun _ => 0))), (q_6, .inl (cI, 402, .inl (fun _ => 0))), (q_7, .inl (cI, 24, .inl (fun _ => 0)))] := hD
  refine lv_aload_n hx hb dX3_init_66 rfl (lv_at hl 0 rfl) ?_
  refine lv_bipush (v := 24) hx hb dX3_init_67 (by decide) ?_
  refine cl_newa (atype := .int) hx hb (ty := .int) hw6 rfl (fun _ h => h) 0 rfl hK hP hD hS hA (a0 := (24, .inl (fun _ => 0))) (arr0I 24) (by decide) (by decide) (by decide) (Nat.le_of_ble_eq_true rfl) (Nat.le_of_ble_eq_true rfl) dX3_init_69 (fun q_8 H hP hD hS => ?_)
  have hP : va_P (dC, dI) vwCl [(b, .inr (3, [.ref fa, .ref ca, .ref q_1, .int 0, .int 0, .int 0, .int 0, .ref q_4, .ref q_5, .ref q_6, .ref q_7, .null, .int 0, .int 0])), (q_1, .inl (cI, 24, .inl f_2)), (q_4, .inl (cI, 402, .inl (fun _ => 0))), (q_5, .inl (cI, 402, .inl (fun _ => 0))), (q_6, .inl (cI, 402, .inl (fun _ => 0))), (q_7, .inl (cI, 24, .inl (fun _ => 0))), (q_8, .inl (cI, 24, .inl (fun _ => 0)))] H := hP
  have hD : va_D A [(b, .inr (3, [.ref fa, .ref ca, .ref q_1, .int 0, .int 0, .int 0, .int 0, .ref q_4, .ref q_5, .ref q_6, .ref q_7, .null, .int 0, .int 0])), (q_1, .inl (cI, 24, .inl f_2)), (q_4, .inl (cI, 402, .inl (fun _ => 0))), (q_5, .inl (cI, 402, .inl (fun _ => 0))), (q_6, .inl (cI, 402, .inl (fun _ => 0))), (q_7, .inl (cI, 24, .inl (fun _ => 0))), (q_8, .inl (cI, 24, .inl (fun _ => 0)))] := hD
  refine va_putF (D := (dC, dI)) (ci := 3) (v := .ref q_8) (ty := tyX3 11) (C := RX3) (T := TX3) (N := 14) hx hb hts hin_X3 tyX3 tyX3_ok nmX3 hown hK hP hD hS 0 rfl rfl 11 (by decide) hw12 (fun _ h9 => h9) rfl hnm rfl (tyX3_ok 11 (by decide)) rfl rfl (Nat.le_of_ble_eq_true rfl) dX3_init_71 (fun H locs hP hD hS => ?_)
  have hP : va_P (dC, dI) vwCl [(b, .inr (3, [.ref fa, .ref ca, .ref q_1, .int 0, .int 0, .int 0, .int 0, .ref q_4, .ref q_5, .ref q_6, .ref q_7, .ref q_8, .int 0, .int 0])), (q_1, .inl (cI, 24, .inl f_2)), (q_4, .inl (cI, 402, .inl (fun _ => 0))), (q_5, .inl (cI, 402, .inl (fun _ => 0))), (q_6, .inl (cI, 402, .inl (fun _ => 0))), (q_7, .inl (cI, 24, .inl (fun _ => 0))), (q_8, .inl (cI, 24, .inl (fun _ => 0)))] H := hP
  have hD : va_D A [(b, .inr (3, [.ref fa, .ref ca, .ref q_1, .int 0, .int 0, .int 0, .int 0, .ref q_4, .ref q_5, .ref q_6, .ref q_7, .ref q_8, .int 0, .int 0])), (q_1, .inl (cI, 24, .inl f_2)), (q_4, .inl (cI, 402, .inl (fun _ => 0))), (q_5, .inl (cI, 402, .inl (fun _ => 0))), (q_6, .inl (cI, 402, .inl (fun _ => 0))), (q_7, .inl (cI, 24, .inl (fun _ => 0))), (q_8, .inl (cI, 24, .inl (fun _ => 0)))] := hD
  refine lv_aload_n hx hb dX3_init_74 rfl (lv_at hl 0 rfl) ?_
  refine lv_bipush (v := 24) hx hb dX3_init_75 (by decide) ?_
  refine va_put (D := (dC, dI)) (ci := 3) (v := .int 24) (ty := tyX3 13) (C := RX3) (T := TX3) (N := 14) hx hb hts hin_X3 tyX3 tyX3_ok nmX3 hown hK hP hD hS 0 rfl rfl 13 (by decide) hw13 (fun _ h9 => h9) rfl (tyX3_ok 13 (by decide)) rfl rfl (Nat.le_of_ble_eq_true rfl) dX3_init_77 (fun H locs hP hD hS => ?_)
  have hP : va_P (dC, dI) vwCl [(b, .inr (3, [.ref fa, .ref ca, .ref q_1, .int 0, .int 0, .int 0, .int 0, .ref q_4, .ref q_5, .ref q_6, .ref q_7, .ref q_8, .int 0, .int 24])), (q_1, .inl (cI, 24, .inl f_2)), (q_4, .inl (cI, 402, .inl (fun _ => 0))), (q_5, .inl (cI, 402, .inl (fun _ => 0))), (q_6, .inl (cI, 402, .inl (fun _ => 0))), (q_7, .inl (cI, 24, .inl (fun _ => 0))), (q_8, .inl (cI, 24, .inl (fun _ => 0)))] H := hP
  have hD : va_D A [(b, .inr (3, [.ref fa, .ref ca, .ref q_1, .int 0, .int 0, .int 0, .int 0, .ref q_4, .ref q_5, .ref q_6, .ref q_7, .ref q_8, .int 0, .int 24])), (q_1, .inl (cI, 24, .inl f_2)), (q_4, .inl (cI, 402, .inl (fun _ => 0))), (q_5, .inl (cI, 402, .inl (fun _ => 0))), (q_6, .inl (cI, 402, .inl (fun _ => 0))), (q_7, .inl (cI, 24, .inl (fun _ => 0))), (q_8, .inl (cI, 24, .inl (fun _ => 0)))] := hD
  exact hret (fun j => [0, 0, 0, 0, 0, 0, 0, 0, 0, 0, 0, 0, 0, 0, 0, 0, 0, 0, 0, 0, 0, 0, 0, q_1, q_4, q_5, q_6, q_7, q_8].getD j 0, f_2) H locs 80 ls dX3_init_80 hw_3 (hP.sub [0, 1, 2, 3, 4, 5, 6] rfl) (hD.sub [0, 1, 2, 3, 4, 5, 6] (by decide) rfl) hS
def rm_X2_init : Room := { frames := 1, cells := 2, slots := 80, locals := 20 }
set_option maxHeartbeats 4000000 in
set_option maxRecDepth 100000 in
theorem c_X2_init (l : Launch) (dC : Nat → ClassId) (dI : Nat → Nat → Nat) (cI cZ cJ : ClassId) (b : Nat) : CtV l (dC, dI) vwCl (tys3 cI cZ cJ) yX2_init wsX2_init rm_X2_init [.ref b] [(b, .inr (2, [.null, .int 0, .int 0, .int 0, .null]))] (S := Nat → Nat) (fun _ => True) (fun u => [(b, .inr (2, [.ref (u 29), .int 0, .int 0, .int 0, .ref (u 30)])), (u 29, .inl (cI, 40, .inl (fun _ => 0))), (u 30, .inl (cI, 40, .inl (fun _ => 0)))]) 2 80 := by
  refine ct_V (cc := cX2_init) (maxL := 1) (own := RX2) (by decide) rfl rfl (Nat.le_of_ble_eq_true rfl) (lv := [(0, .ref b)]) rfl ?_
  intro p e s m args below meth c A Q ls hnm fx hK hP hD hA hl hret
  obtain ⟨hx, hb, hml, hown, hts⟩ := id fx
  have hS : va_S A s.heap s.heap [] := va_S.rf
  have hw0 := hts (.methodLink RX2 3 objectInit) (by decide +kernel)
  have hw1 := hts (.instanceMethod objectInit) (by decide +kernel)
  have hw2 := hts (.code objectInit ⟨#[0xb1]⟩ 1 none) (by decide +kernel)
  have hw3 := hts (.arrayClass .int) (by decide +kernel)
  have hw4 := hts (.fieldLink RX2 9 "MirrorTower$Shots" "marks" "[I") (by decide +kernel)
  have hin_X2 : ∀ w ∈ u_ws RX2 TX2 5, w ∈ wsX2_init := by decide +kernel
  have hw6 := hts (.fieldLink RX2 15 "MirrorTower$Shots" "setsWith" "[I") (by decide +kernel)
  obtain ⟨H, hH⟩ : ∃ H, H = s.heap := ⟨_, rfl⟩
  rw [← hH] at hP ⊢
  have hS : va_S A s.heap H [] := by rw [hH]; exact hS
  generalize ([] : List Loc) = locs at hS ⊢
  refine lv_aload_n hx hb dX2_init_0 rfl (lv_at hl 0 rfl) ?_
  refine W.objInit hx hb hown hw0 hw1 hw2 rfl (by rw [hml]; exact hl.1) rfl dX2_init_1 (Nat.le_of_ble_eq_true rfl) (Nat.le_of_ble_eq_true rfl) ?_
  refine W.eq (g2 := F0 m 4 ls []) rfl ?_
  refine lv_aload_n hx hb dX2_init_4 rfl (lv_at hl 0 rfl) ?_
  refine lv_bipush (v := 40) hx hb dX2_init_5 (by decide) ?_
  refine cl_newa (atype := .int) hx hb (ty := .int) hw3 rfl (fun _ h => h) 0 rfl hK hP hD hS hA (a0 := (40, .inl (fun _ => 0))) (arr0I 40) (by decide) (by decide) (by decide) (Nat.le_of_ble_eq_true rfl) (Nat.le_of_ble_eq_true rfl) dX2_init_7 (fun q_1 H hP hD hS => ?_)
  have hP : va_P (dC, dI) vwCl [(b, .inr (2, [.null, .int 0, .int 0, .int 0, .null])), (q_1, .inl (cI, 40, .inl (fun _ => 0)))] H := hP
  have hD : va_D A [(b, .inr (2, [.null, .int 0, .int 0, .int 0, .null])), (q_1, .inl (cI, 40, .inl (fun _ => 0)))] := hD
  refine va_putF (D := (dC, dI)) (ci := 2) (v := .ref q_1) (ty := tyX2 0) (C := RX2) (T := TX2) (N := 5) hx hb hts hin_X2 tyX2 tyX2_ok nmX2 hown hK hP hD hS 0 rfl rfl 0 (by decide) hw4 (fun _ h9 => h9) rfl hnm rfl (tyX2_ok 0 (by decide)) rfl rfl (Nat.le_of_ble_eq_true rfl) dX2_init_9 (fun H locs hP hD hS => ?_)
  have hP : va_P (dC, dI) vwCl [(b, .inr (2, [.ref q_1, .int 0, .int 0, .int 0, .null])), (q_1, .inl (cI, 40, .inl (fun _ => 0)))] H := hP
  have hD : va_D A [(b, .inr (2, [.ref q_1, .int 0, .int 0, .int 0, .null])), (q_1, .inl (cI, 40, .inl (fun _ => 0)))] := hD
  refine lv_aload_n hx hb dX2_init_12 rfl (lv_at hl 0 rfl) ?_
  refine lv_bipush (v := 40) hx hb dX2_init_13 (by decide) ?_
  refine cl_newa (atype := .int) hx hb (ty := .int) hw3 rfl (fun _ h => h) 0 rfl hK hP hD hS hA (a0 := (40, .inl (fun _ => 0))) (arr0I 40) (by decide) (by decide) (by decide) (Nat.le_of_ble_eq_true rfl) (Nat.le_of_ble_eq_true rfl) dX2_init_15 (fun q_2 H hP hD hS => ?_)
  have hP : va_P (dC, dI) vwCl [(b, .inr (2, [.ref q_1, .int 0, .int 0, .int 0, .null])), (q_1, .inl (cI, 40, .inl (fun _ => 0))), (q_2, .inl (cI, 40, .inl (fun _ => 0)))] H := hP
  have hD : va_D A [(b, .inr (2, [.ref q_1, .int 0, .int 0, .int 0, .null])), (q_1, .inl (cI, 40, .inl (fun _ => 0))), (q_2, .inl (cI, 40, .inl (fun _ => 0)))] := hD
  refine va_putF (D := (dC, dI)) (ci := 2) (v := .ref q_2) (ty := tyX2 4) (C := RX2) (T := TX2) (N := 5) hx hb hts hin_X2 tyX2 tyX2_ok nmX2 hown hK hP hD hS 0 rfl rfl 4 (by decide) hw6 (fun _ h9 => h9) rfl hnm rfl (tyX2_ok 4 (by decide)) rfl rfl (Nat.le_of_ble_eq_true rfl) dX2_init_17 (fun H locs hP hD hS => ?_)
  have hP : va_P (dC, dI) vwCl [(b, .inr (2, [.ref q_1, .int 0, .int 0, .int 0, .ref q_2])), (q_1, .inl (cI, 40, .inl (fun _ => 0))), (q_2, .inl (cI, 40, .inl (fun _ => 0)))] H := hP
  have hD : va_D A [(b, .inr (2, [.ref q_1, .int 0, .int 0, .int 0, .ref q_2])), (q_1, .inl (cI, 40, .inl (fun _ => 0))), (q_2, .inl (cI, 40, .inl (fun _ => 0)))] := hD
  exact hret (fun j => [0, 0, 0, 0, 0, 0, 0, 0, 0, 0, 0, 0, 0, 0, 0, 0, 0, 0, 0, 0, 0, 0, 0, 0, 0, 0, 0, 0, 0, q_1, q_2].getD j 0) H locs 20 ls dX2_init_20 trivial (hP.sub [0, 1, 2] rfl) (hD.sub [0, 1, 2] (by decide) rfl) hS
