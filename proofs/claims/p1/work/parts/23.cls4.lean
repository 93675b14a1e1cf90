def rm_X2_size : Room := { frames := 0, cells := 0, slots := 0, locals := 0 }
set_option maxHeartbeats 4000000 in
set_option maxRecDepth 100000 in
theorem c_X2_size (l : Launch) (dC : Nat → ClassId) (dI : Nat → Nat → Nat) (cI cZ cJ : ClassId) (h : Nat → Nat) (F : Nat → Nat → Int32) (V : Nat → Int32)   : CtI l (dC, dI) vwCl (tys3 cI cZ cJ) yX2_size wsX2_size rm_X2_size [.ref (h 4)] (wC cI cZ h F V) (S := Unit) (fun r _ => r = V 11) (fun _ => wC cI cZ h F V) 0 0 := by
  refine ct_I (cc := cX2_size) (maxL := 1) (ty := .int) (own := RX2) (by decide) rfl rfl (Nat.le_of_ble_eq_true rfl) (lv := [(0, .ref (h 4))]) rfl ?_
  intro p e s m args below meth c A Q ls fx hK hP hD hA hl hret
  obtain ⟨hx, hb, hml, hown, hts⟩ := id fx
  have hS : va_S A s.heap s.heap [] := va_S.rf
  have hw0 := hts (.fieldLink RX2 18 "MirrorTower$Shots" "size" "I") (by decide +kernel)
  have hin_X2 : ∀ w ∈ u_ws RX2 TX2 5, w ∈ wsX2_size := by decide +kernel
  obtain ⟨H, hH⟩ : ∃ H, H = s.heap := ⟨_, rfl⟩
  rw [← hH] at hP ⊢
  have hS : va_S A s.heap H [] := by rw [hH]; exact hS
  generalize ([] : List Loc) = locs at hS ⊢
  refine lv_aload_n hx hb dX2_size_0 rfl (lv_at hl 0 rfl) ?_
  refine va_get (D := (dC, dI)) (ci := 2) (v := .int (V 11)) (C := RX2) (T := TX2) (N := 5) hx hb hts hin_X2 hown hK hP 4 rfl rfl 2 (by decide) hw0 (fun _ h9 => h9) rfl dX2_size_1 ?_
  exact hret (V 11) () H locs 4 ls rfl dX2_size_4 (by first | rfl | (simp []; done) | (exfalso; omega)) (hP) (hD) hS
def rm_X2_drop : Room := { frames := 1, cells := 0, slots := 0, locals := 23 }
set_option maxHeartbeats 4000000 in
set_option maxRecDepth 100000 in
theorem c_X2_drop (l : Launch) (dC : Nat → ClassId) (dI : Nat → Nat → Nat) (cI cZ cJ : ClassId) (h : Nat → Nat) (F : Nat → Nat → Int32) (V : Nat → Int32)  (hV11 : V 11 = 0) : CtI l (dC, dI) vwCl (tys3 cI cZ cJ) yX2_drop wsX2_drop rm_X2_drop [.ref (h 4)] (wC cI cZ h F V) (S := (Nat → Nat → Int32) × (Nat → Int32)) (fun r _ => r = 0) (fun u => wC cI cZ h u.1 u.2) 0 0 := by
  refine ct_I (cc := cX2_drop) (maxL := 2) (ty := .int) (own := RX2) (by decide) rfl rfl (Nat.le_of_ble_eq_true rfl) (lv := [(0, .ref (h 4))]) rfl ?_
  intro p e s m args below meth c A Q ls fx hK hP hD hA hl hret
  obtain ⟨hx, hb, hml, hown, hts⟩ := id fx
  have hS : va_S A s.heap s.heap [] := va_S.rf
  have hw0 := hts (.fieldLink RX2 18 "MirrorTower$Shots" "size" "I") (by decide +kernel)
  have hin_X2 : ∀ w ∈ u_ws RX2 TX2 5, w ∈ wsX2_drop := by decide +kernel
  have hw2 := hts (.fieldLink RX2 9 "MirrorTower$Shots" "marks" "[I") (by decide +kernel)
  have hw3 := hts (.fieldLink RX2 22 "MirrorTower$Shots" "missing" "I") (by decide +kernel)
  obtain ⟨H, hH⟩ : ∃ H, H = s.heap := ⟨_, rfl⟩
  rw [← hH] at hP ⊢
  have hS : va_S A s.heap H [] := by rw [hH]; exact hS
  generalize ([] : List Loc) = locs at hS ⊢
  refine lv_aload_n hx hb dX2_drop_0 rfl (lv_at hl 0 rfl) ?_
  refine va_get (D := (dC, dI)) (ci := 2) (v := .int (V 11)) (C := RX2) (T := TX2) (N := 5) hx hb hts hin_X2 hown hK hP 4 rfl rfl 2 (by decide) hw0 (fun _ h9 => h9) rfl dX2_drop_1 ?_
  refine lv_topi (fun x_1 ex_1 => ?_)
  obtain rfl : x_1 = 0 := ex_1.trans (hV11)
  refine lv_istore_n (lv' := [(1, .int 0), (0, .ref (h 4))]) hx hb dX2_drop_4 rfl hl (by decide) rfl (fun ls hl => ?_)
  refine lv_aload_n hx hb dX2_drop_5 rfl (lv_at hl 1 rfl) ?_
  refine va_get (D := (dC, dI)) (ci := 2) (v := .ref (h 29)) (C := RX2) (T := TX2) (N := 5) hx hb hts hin_X2 hown hK hP 4 rfl rfl 0 (by decide) hw2 (fun _ h9 => h9) rfl dX2_drop_6 ?_
  refine lv_iconst (v := 0) hx hb dX2_drop_9 (by decide) ?_
  refine cl_Sv (As := [.ref (h 29), .int 0]) (rest := []) (wr := (wC cI cZ h F V).eraseIdx 29) (c_J7_fill l dC dI cI cZ cJ (h 29) 40 (F 29) 0 (by decide)) fx (va_cwS 2 hts gX2_drop_J7_fill_53178 rfl rfl rfl (by decide +kernel) ⟨Nat.le_of_ble_eq_true rfl, Nat.le_of_ble_eq_true rfl⟩) hK hP hD hS hA [29] [0, 1, 2, 3, 4, 5, 6, 7, 8, 9, 10, 11, 12, 13, 14, 15, 16, 17, 18, 19, 20, 21, 22, 23, 24, 25, 26, 27, 28, 30] rfl rfl (by decide) (by decide) (by decide) rfl hl.1 rfl (Nat.le_of_ble_eq_true rfl) dX2_drop_10 ⟨Nat.le_of_ble_eq_true rfl, Nat.le_of_ble_eq_true rfl⟩ (fun u_2 H locs hw_3 hP hD hS => ?_)
  have hw_3 : ∀ i, i < 40 → u_2 i = 0 := hw_3
  obtain ⟨F_4, eF_4⟩ : ∃ z : Nat → Nat → Int32, z = va_up F 29 u_2 := ⟨_, rfl⟩
  have hP : va_P (dC, dI) vwCl (wC cI cZ h F_4 V) H := by rw [eF_4]; exact hP.sub [0, 1, 2, 3, 4, 5, 6, 7, 8, 9, 10, 11, 12, 13, 14, 15, 16, 17, 18, 19, 20, 21, 22, 23, 24, 25, 26, 27, 28, 30, 29] rfl
  have hD : va_D A (wC cI cZ h F_4 V) := by rw [eF_4]; exact hD.sub [0, 1, 2, 3, 4, 5, 6, 7, 8, 9, 10, 11, 12, 13, 14, 15, 16, 17, 18, 19, 20, 21, 22, 23, 24, 25, 26, 27, 28, 30, 29] (by decide) rfl
  have hF_5 : ∀ i, i < 40 → F_4 29 i = 0 := by rw [eF_4]; exact hw_3
  refine lv_aload_n hx hb dX2_drop_13 rfl (lv_at hl 1 rfl) ?_
  refine lv_iconst (v := 0) hx hb dX2_drop_14 (by decide) ?_
  refine va_put (D := (dC, dI)) (ci := 2) (v := .int 0) (ty := .int) (C := RX2) (T := TX2) (N := 5) hx hb hts hin_X2 tyX2 tyX2_ok nmX2 hown hK hP hD hS 4 rfl rfl 1 (by decide) hw3 (fun _ h9 => h9) rfl (by decide +kernel) rfl rfl (Nat.le_of_ble_eq_true rfl) dX2_drop_15 (fun H locs hP hD hS => ?_)
  have hP : va_P (dC, dI) vwCl (wC cI cZ h F_4 (va_up V 10 0)) H := hP
  have hD : va_D A (wC cI cZ h F_4 (va_up V 10 0)) := hD
  refine lv_aload_n hx hb dX2_drop_18 rfl (lv_at hl 1 rfl) ?_
  refine lv_iconst (v := 0) hx hb dX2_drop_19 (by decide) ?_
  refine va_put (D := (dC, dI)) (ci := 2) (v := .int 0) (ty := .int) (C := RX2) (T := TX2) (N := 5) hx hb hts hin_X2 tyX2 tyX2_ok nmX2 hown hK hP hD hS 4 rfl rfl 2 (by decide) hw0 (fun _ h9 => h9) rfl (by decide +kernel) rfl rfl (Nat.le_of_ble_eq_true rfl) dX2_drop_20 (fun H locs hP hD hS => ?_)
  have hP : va_P (dC, dI) vwCl (wC cI cZ h F_4 (va_up (va_up V 10 0) 11 0)) H := hP
  have hD : va_D A (wC cI cZ h F_4 (va_up (va_up V 10 0) 11 0)) := hD
  refine lv_iload_n hx hb dX2_drop_23 rfl (lv_at hl 0 rfl) ?_
  exact hret 0 (F_4, va_up (va_up V 10 0) 11 0) H locs 24 ls rfl dX2_drop_24 (rfl) (hP) (hD) hS
def rm_X2_tally : Room := { frames := 1, cells := 0, slots := 0, locals := 23 }
set_option maxHeartbeats 4000000 in
set_option maxRecDepth 100000 in
theorem c_X2_tally (l : Launch) (dC : Nat → ClassId) (dI : Nat → Nat → Nat) (cI cZ cJ : ClassId) (h : Nat → Nat) (F : Nat → Nat → Int32) (V : Nat → Int32)  (hV10 : V 10 = 0) : CtV l (dC, dI) vwCl (tys3 cI cZ cJ) yX2_tally wsX2_tally rm_X2_tally [.ref (h 4), .int 0] (wC cI cZ h F V) (S := Nat → Nat → Int32) (fun _ => True) (fun u => wC cI cZ h u (va_up V 12 1)) 0 0 := by
  refine ct_V (cc := cX2_tally) (maxL := 4) (own := RX2) (by decide) rfl rfl (Nat.le_of_ble_eq_true rfl) (lv := [(0, .ref (h 4)), (1, .int 0)]) rfl ?_
  intro p e s m args below meth c A Q ls hnm fx hK hP hD hA hl hret
  obtain ⟨hx, hb, hml, hown, hts⟩ := id fx
  have hS : va_S A s.heap s.heap [] := va_S.rf
  have hw0 := hts (.fieldLink RX2 15 "MirrorTower$Shots" "setsWith" "[I") (by decide +kernel)
  have hin_X2 : ∀ w ∈ u_ws RX2 TX2 5, w ∈ wsX2_tally := by decide +kernel
  have hw2 := hts (.fieldLink RX2 22 "MirrorTower$Shots" "missing" "I") (by decide +kernel)
  have hw3 := hts (.fieldLink RX2 47 "MirrorTower$Shots" "sets" "I") (by decide +kernel)
  obtain ⟨H, hH⟩ : ∃ H, H = s.heap := ⟨_, rfl⟩
  rw [← hH] at hP ⊢
  have hS : va_S A s.heap H [] := by rw [hH]; exact hS
  generalize ([] : List Loc) = locs at hS ⊢
  refine lv_aload_n hx hb dX2_tally_0 rfl (lv_at hl 0 rfl) ?_
  refine va_get (D := (dC, dI)) (ci := 2) (v := .ref (h 30)) (C := RX2) (T := TX2) (N := 5) hx hb hts hin_X2 hown hK hP 4 rfl rfl 4 (by decide) hw0 (fun _ h9 => h9) rfl dX2_tally_1 ?_
  refine lv_iconst (v := 0) hx hb dX2_tally_4 (by decide) ?_
  refine cl_Sv (As := [.ref (h 30), .int 0]) (rest := []) (wr := (wC cI cZ h F V).eraseIdx 30) (c_J7_fill l dC dI cI cZ cJ (h 30) 40 (F 30) 0 (by decide)) fx (va_cwS 2 hts gX2_tally_J7_fill_53178 rfl rfl rfl (by decide +kernel) ⟨Nat.le_of_ble_eq_true rfl, Nat.le_of_ble_eq_true rfl⟩) hK hP hD hS hA [30] [0, 1, 2, 3, 4, 5, 6, 7, 8, 9, 10, 11, 12, 13, 14, 15, 16, 17, 18, 19, 20, 21, 22, 23, 24, 25, 26, 27, 28, 29] rfl rfl (by decide) (by decide) (by decide) rfl hl.1 rfl (Nat.le_of_ble_eq_true rfl) dX2_tally_5 ⟨Nat.le_of_ble_eq_true rfl, Nat.le_of_ble_eq_true rfl⟩ (fun u_1 H locs hw_2 hP hD hS => ?_)
  have hw_2 : ∀ i, i < 40 → u_1 i = 0 := hw_2
  obtain ⟨F_3, eF_3⟩ : ∃ z : Nat → Nat → Int32, z = va_up F 30 u_1 := ⟨_, rfl⟩
  have hP : va_P (dC, dI) vwCl (wC cI cZ h F_3 V) H := by rw [eF_3]; exact hP.sub [0, 1, 2, 3, 4, 5, 6, 7, 8, 9, 10, 11, 12, 13, 14, 15, 16, 17, 18, 19, 20, 21, 22, 23, 24, 25, 26, 27, 28, 29, 30] rfl
  have hD : va_D A (wC cI cZ h F_3 V) := by rw [eF_3]; exact hD.sub [0, 1, 2, 3, 4, 5, 6, 7, 8, 9, 10, 11, 12, 13, 14, 15, 16, 17, 18, 19, 20, 21, 22, 23, 24, 25, 26, 27, 28, 29, 30] (by decide) rfl
  have hF_4 : ∀ i, i < 40 → F_3 30 i = 0 := by rw [eF_3]; exact hw_2
  refine lv_aload_n hx hb dX2_tally_8 rfl (lv_at hl 0 rfl) ?_
  refine lv_aload_n hx hb dX2_tally_9 rfl (lv_at hl 0 rfl) ?_
  refine va_get (D := (dC, dI)) (ci := 2) (v := .int (V 10)) (C := RX2) (T := TX2) (N := 5) hx hb hts hin_X2 hown hK hP 4 rfl rfl 1 (by decide) hw2 (fun _ h9 => h9) rfl dX2_tally_10 ?_
  refine lv_topi (fun x_5 ex_5 => ?_)
  obtain rfl : x_5 = 0 := ex_5.trans (hV10)
  refine lv_if_ne (tgt := 20) hx hb dX2_tally_13 (by decide) (fun c_6 => ?_) (fun c_6 => ?_)
  · exact absurd c_6 (by decide)
  · refine lv_iconst (v := 1) hx hb dX2_tally_16 (by decide) ?_
    refine lv_goto (tgt := 21) hx hb dX2_tally_17 (by decide) ?_
    refine va_put (D := (dC, dI)) (ci := 2) (v := .int 1) (ty := .int) (C := RX2) (T := TX2) (N := 5) hx hb hts hin_X2 tyX2 tyX2_ok nmX2 hown hK hP hD hS 4 rfl rfl 3 (by decide) hw3 (fun _ h9 => h9) rfl (by decide +kernel) rfl rfl (Nat.le_of_ble_eq_true rfl) dX2_tally_21 (fun H locs hP hD hS => ?_)
    have hP : va_P (dC, dI) vwCl (wC cI cZ h F_3 (va_up V 12 1)) H := hP
    have hD : va_D A (wC cI cZ h F_3 (va_up V 12 1)) := hD
    refine lv_iconst (v := 0) hx hb dX2_tally_24 (by decide) ?_
    refine lv_istore_n (lv' := [(2, .int 0), (0, .ref (h 4)), (1, .int 0)]) hx hb dX2_tally_25 rfl hl (by decide) rfl (fun ls hl => ?_)
    refine lv_iload_n hx hb dX2_tally_26 rfl (lv_at hl 0 rfl) ?_
    refine lv_iload_n hx hb dX2_tally_27 rfl (lv_at hl 2 rfl) ?_
    refine lv_icmp_ge (tgt := 133) hx hb dX2_tally_28 (by decide) (fun c_7 => ?_) (fun c_7 => ?_)
    · exact hret F_3 H locs 133 ls dX2_tally_133 (trivial) (hP) (hD) hS
    · exact absurd c_7 (by decide)
def rm_X2_setsOf : Room := { frames := 2, cells := 0, slots := 0, locals := 46 }
set_option maxHeartbeats 4000000 in
set_option maxRecDepth 100000 in
theorem c_X2_setsOf (l : Launch) (dC : Nat → ClassId) (dI : Nat → Nat → Nat) (cI cZ cJ : ClassId) (h : Nat → Nat) (F : Nat → Nat → Int32) (V : Nat → Int32)  (hV10 : V 10 = 0) : CtI l (dC, dI) vwCl (tys3 cI cZ cJ) yX2_setsOf wsX2_setsOf rm_X2_setsOf [.ref (h 4), .int 0] (wC cI cZ h F V) (S := (Nat → Nat → Int32) × (Nat → Int32)) (fun r _ => r = 1) (fun u => wC cI cZ h u.1 u.2) 0 0 := by
  refine ct_I (cc := cX2_setsOf) (maxL := 2) (ty := .int) (own := RX2) (by decide) rfl rfl (Nat.le_of_ble_eq_true rfl) (lv := [(0, .ref (h 4)), (1, .int 0)]) rfl ?_
  intro p e s m args below meth c A Q ls fx hK hP hD hA hl hret
  obtain ⟨hx, hb, hml, hown, hts⟩ := id fx
  have hS : va_S A s.heap s.heap [] := va_S.rf
  have hw0 := hts (.fieldLink RX2 47 "MirrorTower$Shots" "sets" "I") (by decide +kernel)
  have hin_X2 : ∀ w ∈ u_ws RX2 TX2 5, w ∈ wsX2_setsOf := by decide +kernel
  obtain ⟨H, hH⟩ : ∃ H, H = s.heap := ⟨_, rfl⟩
  rw [← hH] at hP ⊢
  have hS : va_S A s.heap H [] := by rw [hH]; exact hS
  generalize ([] : List Loc) = locs at hS ⊢
  refine lv_aload_n hx hb dX2_setsOf_0 rfl (lv_at hl 0 rfl) ?_
  refine lv_iload_n hx hb dX2_setsOf_1 rfl (lv_at hl 1 rfl) ?_
  refine cw_Vv (As := [.int 0]) (rest := []) (c_X2_tally l dC dI cI cZ cJ h F V hV10) fx (cwV 1 hts gX2_setsOf_X2_tally rfl rfl rfl (by decide +kernel) ⟨Nat.le_of_ble_eq_true rfl, Nat.le_of_ble_eq_true rfl⟩) hK hP hD hS hA 4 rfl rfl rfl rfl hl.1 rfl (Nat.le_of_ble_eq_true rfl) dX2_setsOf_2 ⟨Nat.le_of_ble_eq_true rfl, Nat.le_of_ble_eq_true rfl⟩ (fun u_2 H locs hw_3 hP hD hS => ?_)
  obtain ⟨F_4, rfl⟩ : ∃ z, z = u_2 := ⟨_, rfl⟩
  have hP : va_P (dC, dI) vwCl (wC cI cZ h F_4 (va_up V 12 1)) H := hP
  have hD : va_D A (wC cI cZ h F_4 (va_up V 12 1)) := hD
  refine lv_aload_n hx hb dX2_setsOf_5 rfl (lv_at hl 0 rfl) ?_
  refine va_get (D := (dC, dI)) (ci := 2) (v := .int 1) (C := RX2) (T := TX2) (N := 5) hx hb hts hin_X2 hown hK hP 4 rfl rfl 3 (by decide) hw0 (fun _ h9 => h9) rfl dX2_setsOf_6 ?_
  exact hret 1 (F_4, va_up V 12 1) H locs 9 ls rfl dX2_setsOf_9 (rfl) (hP) (hD) hS
def rm_X2_unsureOf : Room := { frames := 2, cells := 0, slots := 0, locals := 46 }
set_option maxHeartbeats 4000000 in
set_option maxRecDepth 100000 in
theorem c_X2_unsureOf (l : Launch) (dC : Nat → ClassId) (dI : Nat → Nat → Nat) (cI cZ cJ : ClassId) (h : Nat → Nat) (F : Nat → Nat → Int32) (V : Nat → Int32)  (hV10 : V 10 = 0) : CtI l (dC, dI) vwCl (tys3 cI cZ cJ) yX2_unsureOf wsX2_unsureOf rm_X2_unsureOf [.ref (h 4), .int 0] (wC cI cZ h F V) (S := (Nat → Nat → Int32) × (Nat → Int32)) (fun r _ => r = 0) (fun u => wC cI cZ h u.1 u.2) 0 0 := by
  refine ct_I (cc := cX2_unsureOf) (maxL := 4) (ty := .int) (own := RX2) (by decide) rfl rfl (Nat.le_of_ble_eq_true rfl) (lv := [(0, .ref (h 4)), (1, .int 0)]) rfl ?_
  intro p e s m args below meth c A Q ls fx hK hP hD hA hl hret
  obtain ⟨hx, hb, hml, hown, hts⟩ := id fx
  have hS : va_S A s.heap s.heap [] := va_S.rf
  obtain ⟨H, hH⟩ : ∃ H, H = s.heap := ⟨_, rfl⟩
  rw [← hH] at hP ⊢
  have hS : va_S A s.heap H [] := by rw [hH]; exact hS
  generalize ([] : List Loc) = locs at hS ⊢
  refine lv_aload_n hx hb dX2_unsureOf_0 rfl (lv_at hl 0 rfl) ?_
  refine lv_iload_n hx hb dX2_unsureOf_1 rfl (lv_at hl 1 rfl) ?_
  refine cw_Vv (As := [.int 0]) (rest := []) (c_X2_tally l dC dI cI cZ cJ h F V hV10) fx (cwV 1 hts gX2_unsureOf_X2_tally rfl rfl rfl (by decide +kernel) ⟨Nat.le_of_ble_eq_true rfl, Nat.le_of_ble_eq_true rfl⟩) hK hP hD hS hA 4 rfl rfl rfl rfl hl.1 rfl (Nat.le_of_ble_eq_true rfl) dX2_unsureOf_2 ⟨Nat.le_of_ble_eq_true rfl, Nat.le_of_ble_eq_true rfl⟩ (fun u_2 H locs hw_3 hP hD hS => ?_)
  obtain ⟨F_4, rfl⟩ : ∃ z, z = u_2 := ⟨_, rfl⟩
  have hP : va_P (dC, dI) vwCl (wC cI cZ h F_4 (va_up V 12 1)) H := hP
  have hD : va_D A (wC cI cZ h F_4 (va_up V 12 1)) := hD
  refine lv_iconst (v := 0) hx hb dX2_unsureOf_5 (by decide) ?_
  refine lv_istore_n (lv' := [(2, .int 0), (0, .ref (h 4)), (1, .int 0)]) hx hb dX2_unsureOf_6 rfl hl (by decide) rfl (fun ls hl => ?_)
  refine lv_iconst (v := 0) hx hb dX2_unsureOf_7 (by decide) ?_
  refine lv_istore_n (lv' := [(3, .int 0), (2, .int 0), (0, .ref (h 4)), (1, .int 0)]) hx hb dX2_unsureOf_8 rfl hl (by decide) rfl (fun ls hl => ?_)
  refine lv_iload_n hx hb dX2_unsureOf_9 rfl (lv_at hl 0 rfl) ?_
  refine lv_iload_n hx hb dX2_unsureOf_10 rfl (lv_at hl 3 rfl) ?_
  refine lv_icmp_ge (tgt := 31) hx hb dX2_unsureOf_11 (by decide) (fun c_5 => ?_) (fun c_5 => ?_)
  · refine lv_iload_n hx hb dX2_unsureOf_31 rfl (lv_at hl 1 rfl) ?_
    exact hret 0 (F_4, va_up V 12 1) H locs 32 ls rfl dX2_unsureOf_32 (rfl) (hP) (hD) hS
  · exact absurd c_5 (by decide)
def rm_J13_bitCount_95d88 : Room := { frames := 0, cells := 0, slots := 0, locals := 0 }
set_option maxHeartbeats 4000000 in
set_option maxRecDepth 100000 in
theorem c_J13_bitCount_95d88 (l : Launch) (dC : Nat → ClassId) (dI : Nat → Nat → Nat) (cI cZ cJ : ClassId) (w : va_W) (q0 : Int64)  : CtI l (dC, dI) vwCl (tys3 cI cZ cJ) yJ13_bitCount_95d88 wsJ13_bitCount_95d88 rm_J13_bitCount_95d88 [.long q0] (w) (S := Unit) (fun _ _ => True) (fun _ => w) 0 0 := by
  refine ct_I (cc := cJ13_bitCount_95d88) (maxL := 2) (ty := .int) (own := RJ13) (by decide) rfl rfl (Nat.le_of_ble_eq_true rfl) (lv := [(0, .long q0)]) rfl ?_
  intro p e s m args below meth c A Q ls fx hK hP hD hA hl hret
  obtain ⟨hx, hb, hml, hown, hts⟩ := id fx
  have hS : va_S A s.heap s.heap [] := va_S.rf
  have hw0 := hts (.constantLong RJ13 314 (6148914691236517205)) (by decide +kernel)
  have hw1 := hts (.constantLong RJ13 316 (3689348814741910323)) (by decide +kernel)
  have hw2 := hts (.constantLong RJ13 318 (1085102592571150095)) (by decide +kernel)
  obtain ⟨H, hH⟩ : ∃ H, H = s.heap := ⟨_, rfl⟩
  rw [← hH] at hP ⊢
  have hS : va_S A s.heap H [] := by rw [hH]; exact hS
  generalize ([] : List Loc) = locs at hS ⊢
  refine lv_lload_n hx hb dJ13_bitCount_95d88_0 rfl (lv_at hl 0 rfl) ?_
  refine lv_lload_n hx hb dJ13_bitCount_95d88_1 rfl (lv_at hl 0 rfl) ?_
  refine lv_iconst (v := 1) hx hb dJ13_bitCount_95d88_2 (by decide) ?_
  refine lv_lushr hx hb dJ13_bitCount_95d88_3 rfl ?_
  refine lv_topl (fun z_1 ez_1 => ?_)
  refine lv_ldc2 hx hb hown hw0 dJ13_bitCount_95d88_4 ?_
  refine lv_land hx hb dJ13_bitCount_95d88_7 ?_
  refine lv_topl (fun z_2 ez_2 => ?_)
  refine lv_lsub hx hb dJ13_bitCount_95d88_8 ?_
  refine lv_topl (fun z_3 ez_3 => ?_)
  refine lv_lstore_n (lv' := [(0, .long z_3)]) hx hb dJ13_bitCount_95d88_9 rfl hl (by decide) rfl (fun ls hl => ?_)
  refine lv_lload_n hx hb dJ13_bitCount_95d88_10 rfl (lv_at hl 0 rfl) ?_
  refine lv_ldc2 hx hb hown hw1 dJ13_bitCount_95d88_11 ?_
  refine lv_land hx hb dJ13_bitCount_95d88_14 ?_
  refine lv_topl (fun z_4 ez_4 => ?_)
  refine lv_lload_n hx hb dJ13_bitCount_95d88_15 rfl (lv_at hl 0 rfl) ?_
  refine lv_iconst (v := 2) hx hb dJ13_bitCount_95d88_16 (by decide) ?_
  refine lv_lushr hx hb dJ13_bitCount_95d88_17 rfl ?_
  refine lv_topl (fun z_5 ez_5 => ?_)
  refine lv_ldc2 hx hb hown hw1 dJ13_bitCount_95d88_18 ?_
  refine lv_land hx hb dJ13_bitCount_95d88_21 ?_
  refine lv_topl (fun z_6 ez_6 => ?_)
  refine lv_ladd hx hb dJ13_bitCount_95d88_22 ?_
  refine lv_topl (fun z_7 ez_7 => ?_)
  refine lv_lstore_n (lv' := [(0, .long z_7)]) hx hb dJ13_bitCount_95d88_23 rfl hl (by decide) rfl (fun ls hl => ?_)
  refine lv_lload_n hx hb dJ13_bitCount_95d88_24 rfl (lv_at hl 0 rfl) ?_
  refine lv_lload_n hx hb dJ13_bitCount_95d88_25 rfl (lv_at hl 0 rfl) ?_
  refine lv_iconst (v := 4) hx hb dJ13_bitCount_95d88_26 (by decide) ?_
  refine lv_lushr hx hb dJ13_bitCount_95d88_27 rfl ?_
  refine lv_topl (fun z_8 ez_8 => ?_)
  refine lv_ladd hx hb dJ13_bitCount_95d88_28 ?_
  refine lv_topl (fun z_9 ez_9 => ?_)
  refine lv_ldc2 hx hb hown hw2 dJ13_bitCount_95d88_29 ?_
  refine lv_land hx hb dJ13_bitCount_95d88_32 ?_
  refine lv_topl (fun z_10 ez_10 => ?_)
  refine lv_lstore_n (lv' := [(0, .long z_10)]) hx hb dJ13_bitCount_95d88_33 rfl hl (by decide) rfl (fun ls hl => ?_)
  refine lv_lload_n hx hb dJ13_bitCount_95d88_34 rfl (lv_at hl 0 rfl) ?_
  refine lv_lload_n hx hb dJ13_bitCount_95d88_35 rfl (lv_at hl 0 rfl) ?_
  refine lv_bipush (v := 8) hx hb dJ13_bitCount_95d88_36 (by decide) ?_
  refine lv_lushr hx hb dJ13_bitCount_95d88_38 rfl ?_
  refine lv_topl (fun z_11 ez_11 => ?_)
  refine lv_ladd hx hb dJ13_bitCount_95d88_39 ?_
  refine lv_topl (fun z_12 ez_12 => ?_)
  refine lv_lstore_n (lv' := [(0, .long z_12)]) hx hb dJ13_bitCount_95d88_40 rfl hl (by decide) rfl (fun ls hl => ?_)
  refine lv_lload_n hx hb dJ13_bitCount_95d88_41 rfl (lv_at hl 0 rfl) ?_
  refine lv_lload_n hx hb dJ13_bitCount_95d88_42 rfl (lv_at hl 0 rfl) ?_
  refine lv_bipush (v := 16) hx hb dJ13_bitCount_95d88_43 (by decide) ?_
  refine lv_lushr hx hb dJ13_bitCount_95d88_45 rfl ?_
  refine lv_topl (fun z_13 ez_13 => ?_)
  refine lv_ladd hx hb dJ13_bitCount_95d88_46 ?_
  refine lv_topl (fun z_14 ez_14 => ?_)
  refine lv_lstore_n (lv' := [(0, .long z_14)]) hx hb dJ13_bitCount_95d88_47 rfl hl (by decide) rfl (fun ls hl => ?_)
  refine lv_lload_n hx hb dJ13_bitCount_95d88_48 rfl (lv_at hl 0 rfl) ?_
  refine lv_lload_n hx hb dJ13_bitCount_95d88_49 rfl (lv_at hl 0 rfl) ?_
  refine lv_bipush (v := 32) hx hb dJ13_bitCount_95d88_50 (by decide) ?_
  refine lv_lushr hx hb dJ13_bitCount_95d88_52 rfl ?_
  refine lv_topl (fun z_15 ez_15 => ?_)
  refine lv_ladd hx hb dJ13_bitCount_95d88_53 ?_
  refine lv_topl (fun z_16 ez_16 => ?_)
  refine lv_lstore_n (lv' := [(0, .long z_16)]) hx hb dJ13_bitCount_95d88_54 rfl hl (by decide) rfl (fun ls hl => ?_)
  refine lv_lload_n hx hb dJ13_bitCount_95d88_55 rfl (lv_at hl 0 rfl) ?_
  refine lv_l2i hx hb dJ13_bitCount_95d88_56 rfl ?_
  refine lv_bipush (v := 127) hx hb dJ13_bitCount_95d88_57 (by decide) ?_
  refine lv_iand hx hb dJ13_bitCount_95d88_59 ?_
  exact hret (z_16.toInt32 &&& 127) () H locs 60 ls rfl dJ13_bitCount_95d88_60 (trivial) (hP) (hD) hS
