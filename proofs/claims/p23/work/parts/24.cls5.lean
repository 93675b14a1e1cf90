def rm_X2_size : Room := { frames := 0, cells := 0, slots := 0, locals := 0 }
set_option maxHeartbeats 4000000 in
set_option maxRecDepth 100000 in
theorem c_X2_size (l : Launch) (dC : Nat → ClassId) (dI : Nat → Nat → Nat) (cI cZ cJ : ClassId) (h : Nat → Nat) (F : Nat → Nat → Int32) (V : Nat → Int32)     : CtI l (dC, dI) vwCl (tys3 cI cZ cJ) yX2_size wsX2_size rm_X2_size [.ref (h 4)] (wC cI cZ h F V) (S := Unit) (fun r _ => r = V 11) (fun _ => wC cI cZ h F V) 0 0 := by
  refine ct_I (cc := cX2_size) (maxL := 1) (ty := .int) (own := RX2) (by decide) rfl rfl (Nat.le_of_ble_eq_true rfl) (lv := [(0, .ref (h 4))]) rfl ?_
  intro p e s m args below meth c A Q ls fx hK hP hD hA hl hret
  obtain ⟨hx, hb, hml, hown, hts⟩ := id fx
  have hS : va_S A s.heap s.heap [] := va_S.rf
  have hw0 := hts (.fieldLink RX2 18 "MirrorTower$Shots" "size" "I") (by decide +kernel)
  have hin_X2 : ∀ w ∈ u_ws RX2 TX2 5, w ∈ wsX2_size := by decide +kernel
  obtain ⟨H, hH⟩ : ∃ H, H = s.heap := ⟨_, rfl⟩
  rw [← hH] at hP ⊢
  have hS : va_S A s.heap H [] := by rw [hH]; exact hS
  generalize ([] : List Loc) = locs at hS ⊢
  refine lv_aload_n hx hb dX2_size_0 rfl (lv_at hl 0 rfl) ?_
  refine va_get (D := (dC, dI)) (ci := 2) (v := .int (V 11)) (C := RX2) (T := TX2) (N := 5) hx hb hts hin_X2 hown hK hP 4 rfl rfl 2 (by decide) hw0 (fun _ h9 => h9) rfl dX2_size_1 ?_
  exact hret (V 11) () H locs 4 ls rfl dX2_size_4 (by first | rfl | (simp []; done) | (exfalso; omega)) (hP) (hD) hS
def rm_X2_drop : Room := { frames := 1, cells := 0, slots := 0, locals := 23 }
set_option maxHeartbeats 4000000 in
set_option maxRecDepth 100000 in
theorem c_X2_drop (l : Launch) (dC : Nat → ClassId) (dI : Nat → Nat → Nat) (cI cZ cJ : ClassId) (h : Nat → Nat) (F : Nat → Nat → Int32) (V : Nat → Int32) (sh : Nat) (hV11 : V 11 = nI sh) (bV11 : sh ≤ 12)    : CtI l (dC, dI) vwCl (tys3 cI cZ cJ) yX2_drop wsX2_drop rm_X2_drop [.ref (h 4)] (wC cI cZ h F V) (S := Nat → Nat → Int32) (fun r u => (r = nI sh) ∧ (∀ j, j ∉ ([29] : List Nat) → u j = F j) ∧ (∀ i, i < 40 → u 29 i = 0)) (fun u => wC cI cZ h u (va_up (va_up V 10 0) 11 0)) 0 0 := by
  refine ct_I (cc := cX2_drop) (maxL := 2) (ty := .int) (own := RX2) (by decide) rfl rfl (Nat.le_of_ble_eq_true rfl) (lv := [(0, .ref (h 4))]) rfl ?_
  intro p e s m args below meth c A Q ls fx hK hP hD hA hl hret
  obtain ⟨hx, hb, hml, hown, hts⟩ := id fx
  have hS : va_S A s.heap s.heap [] := va_S.rf
  have hw0 := hts (.fieldLink RX2 18 "MirrorTower$Shots" "size" "I") (by decide +kernel)
  have hin_X2 : ∀ w ∈ u_ws RX2 TX2 5, w ∈ wsX2_drop := by decide +kernel
  have hw2 := hts (.fieldLink RX2 9 "MirrorTower$Shots" "marks" "[I") (by decide +kernel)
  have hw3 := hts (.fieldLink RX2 22 "MirrorTower$Shots" "missing" "I") (by decide +kernel)
  obtain ⟨H, hH⟩ : ∃ H, H = s.heap := ⟨_, rfl⟩
  rw [← hH] at hP ⊢
  have hS : va_S A s.heap H [] := by rw [hH]; exact hS
  generalize ([] : List Loc) = locs at hS ⊢
  refine lv_aload_n hx hb dX2_drop_0 rfl (lv_at hl 0 rfl) ?_
  refine va_get (D := (dC, dI)) (ci := 2) (v := .int (V 11)) (C := RX2) (T := TX2) (N := 5) hx hb hts hin_X2 hown hK hP 4 rfl rfl 2 (by decide) hw0 (fun _ h9 => h9) rfl dX2_drop_1 ?_
  refine lv_topi (fun x_1 ex_1 => ?_)
  obtain rfl : x_1 = nI sh := ex_1.trans (hV11)
  refine lv_istore_n (lv' := [(1, .int (nI sh)), (0, .ref (h 4))]) hx hb dX2_drop_4 rfl hl (by decide) rfl (fun ls hl => ?_)
  refine lv_aload_n hx hb dX2_drop_5 rfl (lv_at hl 1 rfl) ?_
  refine va_get (D := (dC, dI)) (ci := 2) (v := .ref (h 29)) (C := RX2) (T := TX2) (N := 5) hx hb hts hin_X2 hown hK hP 4 rfl rfl 0 (by decide) hw2 (fun _ h9 => h9) rfl dX2_drop_6 ?_
  refine lv_iconst (v := 0) hx hb dX2_drop_9 (by decide) ?_
  refine cl_Sv (As := [.ref (h 29), .int 0]) (rest := []) (wr := (wC cI cZ h F V).eraseIdx 29) (c_J7_fill l dC dI cI cZ cJ (h 29) 40 (F 29) 0 (by decide)) fx (va_cwS 2 hts gX2_drop_J7_fill_53178 rfl rfl rfl (by decide +kernel) ⟨Nat.le_of_ble_eq_true rfl, Nat.le_of_ble_eq_true rfl⟩) hK hP hD hS hA [29] [0, 1, 2, 3, 4, 5, 6, 7, 8, 9, 10, 11, 12, 13, 14, 15, 16, 17, 18, 19, 20, 21, 22, 23, 24, 25, 26, 27, 28, 30] rfl rfl (by decide) (by decide) (by decide) rfl hl.1 rfl (Nat.le_of_ble_eq_true rfl) dX2_drop_10 ⟨Nat.le_of_ble_eq_true rfl, Nat.le_of_ble_eq_true rfl⟩ (fun u_2 H locs hw_3 hP hD hS => ?_)
  have hw_3 : ∀ i, i < 40 → u_2 i = 0 := hw_3
  obtain ⟨F_4, eF_4⟩ : ∃ z : Nat → Nat → Int32, z = va_up F 29 u_2 := ⟨_, rfl⟩
  have hP : va_P (dC, dI) vwCl (wC cI cZ h F_4 V) H := by rw [eF_4]; exact hP.sub [0, 1, 2, 3, 4, 5, 6, 7, 8, 9, 10, 11, 12, 13, 14, 15, 16, 17, 18, 19, 20, 21, 22, 23, 24, 25, 26, 27, 28, 30, 29] rfl
  have hD : va_D A (wC cI cZ h F_4 V) := by rw [eF_4]; exact hD.sub [0, 1, 2, 3, 4, 5, 6, 7, 8, 9, 10, 11, 12, 13, 14, 15, 16, 17, 18, 19, 20, 21, 22, 23, 24, 25, 26, 27, 28, 30, 29] (by decide) rfl
  have hF_5 : ∀ i, i < 40 → F_4 29 i = 0 := by rw [eF_4]; exact hw_3
  refine lv_aload_n hx hb dX2_drop_13 rfl (lv_at hl 1 rfl) ?_
  refine lv_iconst (v := 0) hx hb dX2_drop_14 (by decide) ?_
  refine va_put (D := (dC, dI)) (ci := 2) (v := .int 0) (ty := .int) (C := RX2) (T := TX2) (N := 5) hx hb hts hin_X2 tyX2 tyX2_ok nmX2 hown hK hP hD hS 4 rfl rfl 1 (by decide) hw3 (fun _ h9 => h9) rfl (by decide +kernel) rfl rfl (Nat.le_of_ble_eq_true rfl) dX2_drop_15 (fun H locs hP hD hS => ?_)
  have hP : va_P (dC, dI) vwCl (wC cI cZ h F_4 (va_up V 10 0)) H := hP
  have hD : va_D A (wC cI cZ h F_4 (va_up V 10 0)) := hD
  refine lv_aload_n hx hb dX2_drop_18 rfl (lv_at hl 1 rfl) ?_
  refine lv_iconst (v := 0) hx hb dX2_drop_19 (by decide) ?_
  refine va_put (D := (dC, dI)) (ci := 2) (v := .int 0) (ty := .int) (C := RX2) (T := TX2) (N := 5) hx hb hts hin_X2 tyX2 tyX2_ok nmX2 hown hK hP hD hS 4 rfl rfl 2 (by decide) hw0 (fun _ h9 => h9) rfl (by decide +kernel) rfl rfl (Nat.le_of_ble_eq_true rfl) dX2_drop_20 (fun H locs hP hD hS => ?_)
  have hP : va_P (dC, dI) vwCl (wC cI cZ h F_4 (va_up (va_up V 10 0) 11 0)) H := hP
  have hD : va_D A (wC cI cZ h F_4 (va_up (va_up V 10 0) 11 0)) := hD
  refine lv_iload_n hx hb dX2_drop_23 rfl (lv_at hl 0 rfl) ?_
  exact hret (nI sh) F_4 H locs 24 ls rfl dX2_drop_24 (⟨rfl, fun j hj => va_ne eF_4 (fun h => hj (by rw [h]; decide)), hF_5⟩) (hP) (hD) hS
