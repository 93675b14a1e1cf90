def rm_X4_isWithin : Room := { frames := 0, cells := 0, slots := 0, locals := 0 }
set_option maxHeartbeats 4000000 in
set_option maxRecDepth 100000 in
theorem c_X4_isWithin (l : Launch) (dC : Nat → ClassId) (dI : Nat → Nat → Nat) (cI cZ cJ : ClassId) (w : va_W)  (p0 p1 p2 : Int32)   : CtI l (dC, dI) vwCl (tys3 cI cZ cJ) yX4_isWithin wsX4_isWithin rm_X4_isWithin [.int p0, .int p1, .int p2] (w) (S := Unit) (fun r _ => r = bI (isW p0 p1 p2)) (fun _ => w) 0 0 := by
  refine ct_I (cc := cX4_isWithin) (maxL := 3) (ty := .boolean) (own := RX4) (by decide) rfl rfl (Nat.le_of_ble_eq_true rfl) (lv := [(0, .int p0), (1, .int p1), (2, .int p2)]) rfl ?_
  intro p e s m args below meth c A Q ls fx hK hP hD hA hl hret
  obtain ⟨hx, hb, hml, hown, hts⟩ := id fx
  have hS : va_S A s.heap s.heap [] := va_S.rf
  obtain ⟨H, hH⟩ : ∃ H, H = s.heap := ⟨_, rfl⟩
  rw [← hH] at hP ⊢
  have hS : va_S A s.heap H [] := by rw [hH]; exact hS
  generalize ([] : List Loc) = locs at hS ⊢
  refine lv_iload_n hx hb dX4_isWithin_0 rfl (lv_at hl 0 rfl) ?_
  refine lv_iload_n hx hb dX4_isWithin_1 rfl (lv_at hl 1 rfl) ?_
  refine lv_icmp_lt (tgt := 14) hx hb dX4_isWithin_2 (by decide) (fun c_1 => ?_) (fun c_1 => ?_)
  · have c_1 : ltI p0 p1 = true := decide_eq_true c_1
    refine lv_iconst (v := 0) hx hb dX4_isWithin_14 (by decide) ?_
    exact hret 0 () H locs 15 ls rfl dX4_isWithin_15 (by first | rfl | (simp [isW, bI, c_1]; done) | (exfalso; omega)) (hP) (hD) hS
  · have c_1 : ltI p0 p1 = false := decide_eq_false c_1
    refine lv_iload_n hx hb dX4_isWithin_5 rfl (lv_at hl 0 rfl) ?_
    refine lv_iload_n hx hb dX4_isWithin_6 rfl (lv_at hl 2 rfl) ?_
    refine lv_icmp_gt (tgt := 14) hx hb dX4_isWithin_7 (by decide) (fun c_2 => ?_) (fun c_2 => ?_)
    · have c_2 : ltI p2 p0 = true := decide_eq_true c_2
      refine lv_iconst (v := 0) hx hb dX4_isWithin_14 (by decide) ?_
      exact hret 0 () H locs 15 ls rfl dX4_isWithin_15 (by first | rfl | (simp [isW, bI, c_1, c_2]; done) | (exfalso; omega)) (hP) (hD) hS
    · have c_2 : ltI p2 p0 = false := decide_eq_false c_2
      refine lv_iconst (v := 1) hx hb dX4_isWithin_10 (by decide) ?_
      refine lv_goto (tgt := 15) hx hb dX4_isWithin_11 (by decide) ?_
      exact hret 1 () H locs 15 ls rfl dX4_isWithin_15 (by first | rfl | (simp [isW, bI, c_1, c_2]; done) | (exfalso; omega)) (hP) (hD) hS
def rm_X4_isHour : Room := { frames := 1, cells := 0, slots := 0, locals := 22 }
set_option maxHeartbeats 4000000 in
set_option maxRecDepth 100000 in
theorem c_X4_isHour (l : Launch) (dC : Nat → ClassId) (dI : Nat → Nat → Nat) (cI cZ cJ : ClassId) (w : va_W)  (p0 : Int32)   : CtI l (dC, dI) vwCl (tys3 cI cZ cJ) yX4_isHour wsX4_isHour rm_X4_isHour [.int p0] (w) (S := Unit) (fun r _ => r = bI (isW p0 0 23)) (fun _ => w) 0 0 := by
  refine ct_I (cc := cX4_isHour) (maxL := 1) (ty := .boolean) (own := RX4) (by decide) rfl rfl (Nat.le_of_ble_eq_true rfl) (lv := [(0, .int p0)]) rfl ?_
  intro p e s m args below meth c A Q ls fx hK hP hD hA hl hret
  obtain ⟨hx, hb, hml, hown, hts⟩ := id fx
  have hS : va_S A s.heap s.heap [] := va_S.rf
  obtain ⟨H, hH⟩ : ∃ H, H = s.heap := ⟨_, rfl⟩
  rw [← hH] at hP ⊢
  have hS : va_S A s.heap H [] := by rw [hH]; exact hS
  generalize ([] : List Loc) = locs at hS ⊢
  refine lv_iload_n hx hb dX4_isHour_0 rfl (lv_at hl 0 rfl) ?_
  refine lv_iconst (v := 0) hx hb dX4_isHour_1 (by decide) ?_
  refine lv_bipush (v := 23) hx hb dX4_isHour_2 (by decide) ?_
  refine cw_Si (As := [.int p0, .int 0, .int 23]) (rest := []) (c_X4_isWithin l dC dI cI cZ cJ w p0 0 23) fx (va_cwS 3 hts gX4_isHour_X4_isWithin rfl rfl rfl (by decide +kernel) ⟨Nat.le_of_ble_eq_true rfl, Nat.le_of_ble_eq_true rfl⟩) hK hP hD hS hA rfl hl.1 rfl (Nat.le_of_ble_eq_true rfl) dX4_isHour_4 ⟨Nat.le_of_ble_eq_true rfl, Nat.le_of_ble_eq_true rfl⟩ (fun r_1 u_2 H locs hw_3 hP hD hS => ?_)
  have hP : va_P (dC, dI) vwCl (w) H := hP
  have hD : va_D A (w) := hD
  have hw_3 : r_1 = bI (isW p0 0 23) := hw_3
  exact hret r_1 () H locs 7 ls (by rw [hw_3]; exact bI_narrow _) dX4_isHour_7 (hw_3) (hP) (hD) hS
def rm_X4_isCell : Room := { frames := 1, cells := 0, slots := 0, locals := 22 }
set_option maxHeartbeats 4000000 in
set_option maxRecDepth 100000 in
theorem c_X4_isCell (l : Launch) (dC : Nat → ClassId) (dI : Nat → Nat → Nat) (cI cZ cJ : ClassId) (w : va_W)  (p0 : Int32)   : CtI l (dC, dI) vwCl (tys3 cI cZ cJ) yX4_isCell wsX4_isCell rm_X4_isCell [.int p0] (w) (S := Unit) (fun r _ => r = bI (isW p0 0 3)) (fun _ => w) 0 0 := by
  refine ct_I (cc := cX4_isCell) (maxL := 1) (ty := .boolean) (own := RX4) (by decide) rfl rfl (Nat.le_of_ble_eq_true rfl) (lv := [(0, .int p0)]) rfl ?_
  intro p e s m args below meth c A Q ls fx hK hP hD hA hl hret
  obtain ⟨hx, hb, hml, hown, hts⟩ := id fx
  have hS : va_S A s.heap s.heap [] := va_S.rf
  obtain ⟨H, hH⟩ : ∃ H, H = s.heap := ⟨_, rfl⟩
  rw [← hH] at hP ⊢
  have hS : va_S A s.heap H [] := by rw [hH]; exact hS
  generalize ([] : List Loc) = locs at hS ⊢
  refine lv_iload_n hx hb dX4_isCell_0 rfl (lv_at hl 0 rfl) ?_
  refine lv_iconst (v := 0) hx hb dX4_isCell_1 (by decide) ?_
  refine lv_iconst (v := 3) hx hb dX4_isCell_2 (by decide) ?_
  refine cw_Si (As := [.int p0, .int 0, .int 3]) (rest := []) (c_X4_isWithin l dC dI cI cZ cJ w p0 0 3) fx (va_cwS 3 hts gX4_isCell_X4_isWithin rfl rfl rfl (by decide +kernel) ⟨Nat.le_of_ble_eq_true rfl, Nat.le_of_ble_eq_true rfl⟩) hK hP hD hS hA rfl hl.1 rfl (Nat.le_of_ble_eq_true rfl) dX4_isCell_3 ⟨Nat.le_of_ble_eq_true rfl, Nat.le_of_ble_eq_true rfl⟩ (fun r_1 u_2 H locs hw_3 hP hD hS => ?_)
  have hP : va_P (dC, dI) vwCl (w) H := hP
  have hD : va_D A (w) := hD
  have hw_3 : r_1 = bI (isW p0 0 3) := hw_3
  exact hret r_1 () H locs 6 ls (by rw [hw_3]; exact bI_narrow _) dX4_isCell_6 (hw_3) (hP) (hD) hS
def rm_X4_refused : Room := { frames := 0, cells := 0, slots := 0, locals := 0 }
set_option maxHeartbeats 4000000 in
set_option maxRecDepth 100000 in
theorem c_X4_refused (l : Launch) (dC : Nat → ClassId) (dI : Nat → Nat → Nat) (cI cZ cJ : ClassId) (h : Nat → Nat) (F : Nat → Nat → Int32) (V : Nat → Int32)  (p0 : Int32)   : CtI l (dC, dI) vwCl (tys3 cI cZ cJ) yX4_refused wsX4_refused rm_X4_refused [.ref (h 0), .int p0] (wC cI cZ h F V) (S := Unit) (fun r _ => r = (-1)) (fun _ => wC cI cZ h F (va_up V 0 p0)) 0 0 := by
  refine ct_I (cc := cX4_refused) (maxL := 2) (ty := .int) (own := RX4) (by decide) rfl rfl (Nat.le_of_ble_eq_true rfl) (lv := [(0, .ref (h 0)), (1, .int p0)]) rfl ?_
  intro p e s m args below meth c A Q ls fx hK hP hD hA hl hret
  obtain ⟨hx, hb, hml, hown, hts⟩ := id fx
  have hS : va_S A s.heap s.heap [] := va_S.rf
  have hw0 := hts (.fieldLink RX4 41 "MirrorTower" "trouble" "I") (by decide +kernel)
  have hin_X4 : ∀ w ∈ u_ws RX4 TX4 5, w ∈ wsX4_refused := by decide +kernel
  obtain ⟨H, hH⟩ : ∃ H, H = s.heap := ⟨_, rfl⟩
  rw [← hH] at hP ⊢
  have hS : va_S A s.heap H [] := by rw [hH]; exact hS
  generalize ([] : List Loc) = locs at hS ⊢
  refine lv_aload_n hx hb dX4_refused_0 rfl (lv_at hl 0 rfl) ?_
  refine lv_iload_n hx hb dX4_refused_1 rfl (lv_at hl 1 rfl) ?_
  refine va_put (D := (dC, dI)) (ci := 4) (v := .int p0) (ty := .int) (C := RX4) (T := TX4) (N := 5) hx hb hts hin_X4 tyX4 tyX4_ok nmX4 hown hK hP hD hS 0 rfl rfl 4 (by decide) hw0 (fun _ h9 => h9) rfl (by decide +kernel) rfl rfl (Nat.le_of_ble_eq_true rfl) dX4_refused_2 (fun H locs hP hD hS => ?_)
  have hP : va_P (dC, dI) vwCl (wC cI cZ h F (va_up V 0 p0)) H := hP
  have hD : va_D A (wC cI cZ h F (va_up V 0 p0)) := hD
  refine lv_iconst (v := (-1)) hx hb dX4_refused_5 (by decide) ?_
  exact hret (-1) () H locs 6 ls rfl dX4_refused_6 (by first | rfl | (simp []; done) | (exfalso; omega)) (hP) (hD) hS
def rm_X4_denied : Room := { frames := 0, cells := 0, slots := 0, locals := 0 }
set_option maxHeartbeats 4000000 in
set_option maxRecDepth 100000 in
theorem c_X4_denied (l : Launch) (dC : Nat → ClassId) (dI : Nat → Nat → Nat) (cI cZ cJ : ClassId) (h : Nat → Nat) (F : Nat → Nat → Int32) (V : Nat → Int32)  (p0 : Int32)   : CtI l (dC, dI) vwCl (tys3 cI cZ cJ) yX4_denied wsX4_denied rm_X4_denied [.ref (h 0), .int p0] (wC cI cZ h F V) (S := Unit) (fun r _ => r = 0) (fun _ => wC cI cZ h F (va_up V 0 p0)) 0 0 := by
  refine ct_I (cc := cX4_denied) (maxL := 2) (ty := .boolean) (own := RX4) (by decide) rfl rfl (Nat.le_of_ble_eq_true rfl) (lv := [(0, .ref (h 0)), (1, .int p0)]) rfl ?_
  intro p e s m args below meth c A Q ls fx hK hP hD hA hl hret
  obtain ⟨hx, hb, hml, hown, hts⟩ := id fx
  have hS : va_S A s.heap s.heap [] := va_S.rf
  have hw0 := hts (.fieldLink RX4 41 "MirrorTower" "trouble" "I") (by decide +kernel)
  have hin_X4 : ∀ w ∈ u_ws RX4 TX4 5, w ∈ wsX4_denied := by decide +kernel
  obtain ⟨H, hH⟩ : ∃ H, H = s.heap := ⟨_, rfl⟩
  rw [← hH] at hP ⊢
  have hS : va_S A s.heap H [] := by rw [hH]; exact hS
  generalize ([] : List Loc) = locs at hS ⊢
  refine lv_aload_n hx hb dX4_denied_0 rfl (lv_at hl 0 rfl) ?_
  refine lv_iload_n hx hb dX4_denied_1 rfl (lv_at hl 1 rfl) ?_
  refine va_put (D := (dC, dI)) (ci := 4) (v := .int p0) (ty := .int) (C := RX4) (T := TX4) (N := 5) hx hb hts hin_X4 tyX4 tyX4_ok nmX4 hown hK hP hD hS 0 rfl rfl 4 (by decide) hw0 (fun _ h9 => h9) rfl (by decide +kernel) rfl rfl (Nat.le_of_ble_eq_true rfl) dX4_denied_2 (fun H locs hP hD hS => ?_)
  have hP : va_P (dC, dI) vwCl (wC cI cZ h F (va_up V 0 p0)) H := hP
  have hD : va_D A (wC cI cZ h F (va_up V 0 p0)) := hD
  refine lv_iconst (v := 0) hx hb dX4_denied_5 (by decide) ?_
  exact hret 0 () H locs 6 ls rfl dX4_denied_6 (by first | rfl | (simp []; done) | (exfalso; omega)) (hP) (hD) hS
def rm_X4_granted : Room := { frames := 0, cells := 0, slots := 0, locals := 0 }
set_option maxHeartbeats 4000000 in
set_option maxRecDepth 100000 in
theorem c_X4_granted (l : Launch) (dC : Nat → ClassId) (dI : Nat → Nat → Nat) (cI cZ cJ : ClassId) (h : Nat → Nat) (F : Nat → Nat → Int32) (V : Nat → Int32)  (p0 : Int32)   : CtI l (dC, dI) vwCl (tys3 cI cZ cJ) yX4_granted wsX4_granted rm_X4_granted [.ref (h 0), .int p0] (wC cI cZ h F V) (S := Unit) (fun r _ => r = p0) (fun _ => wC cI cZ h F (va_up V 0 0)) 0 0 := by
  refine ct_I (cc := cX4_granted) (maxL := 2) (ty := .int) (own := RX4) (by decide) rfl rfl (Nat.le_of_ble_eq_true rfl) (lv := [(0, .ref (h 0)), (1, .int p0)]) rfl ?_
  intro p e s m args below meth c A Q ls fx hK hP hD hA hl hret
  obtain ⟨hx, hb, hml, hown, hts⟩ := id fx
  have hS : va_S A s.heap s.heap [] := va_S.rf
  have hw0 := hts (.fieldLink RX4 41 "MirrorTower" "trouble" "I") (by decide +kernel)
  have hin_X4 : ∀ w ∈ u_ws RX4 TX4 5, w ∈ wsX4_granted := by decide +kernel
  obtain ⟨H, hH⟩ : ∃ H, H = s.heap := ⟨_, rfl⟩
  rw [← hH] at hP ⊢
  have hS : va_S A s.heap H [] := by rw [hH]; exact hS
  generalize ([] : List Loc) = locs at hS ⊢
  refine lv_aload_n hx hb dX4_granted_0 rfl (lv_at hl 0 rfl) ?_
  refine lv_iconst (v := 0) hx hb dX4_granted_1 (by decide) ?_
  refine va_put (D := (dC, dI)) (ci := 4) (v := .int 0) (ty := .int) (C := RX4) (T := TX4) (N := 5) hx hb hts hin_X4 tyX4 tyX4_ok nmX4 hown hK hP hD hS 0 rfl rfl 4 (by decide) hw0 (fun _ h9 => h9) rfl (by decide +kernel) rfl rfl (Nat.le_of_ble_eq_true rfl) dX4_granted_2 (fun H locs hP hD hS => ?_)
  have hP : va_P (dC, dI) vwCl (wC cI cZ h F (va_up V 0 0)) H := hP
  have hD : va_D A (wC cI cZ h F (va_up V 0 0)) := hD
  refine lv_iload_n hx hb dX4_granted_5 rfl (lv_at hl 1 rfl) ?_
  exact hret p0 () H locs 6 ls rfl dX4_granted_6 (by first | rfl | (simp []; done) | (exfalso; omega)) (hP) (hD) hS
def rm_X4_allowed : Room := { frames := 0, cells := 0, slots := 0, locals := 0 }
set_option maxHeartbeats 4000000 in
set_option maxRecDepth 100000 in
theorem c_X4_allowed (l : Launch) (dC : Nat → ClassId) (dI : Nat → Nat → Nat) (cI cZ cJ : ClassId) (h : Nat → Nat) (F : Nat → Nat → Int32) (V : Nat → Int32)     : CtI l (dC, dI) vwCl (tys3 cI cZ cJ) yX4_allowed wsX4_allowed rm_X4_allowed [.ref (h 0)] (wC cI cZ h F V) (S := Unit) (fun r _ => r = 1) (fun _ => wC cI cZ h F (va_up V 0 0)) 0 0 := by
  refine ct_I (cc := cX4_allowed) (maxL := 1) (ty := .boolean) (own := RX4) (by decide) rfl rfl (Nat.le_of_ble_eq_true rfl) (lv := [(0, .ref (h 0))]) rfl ?_
  intro p e s m args below meth c A Q ls fx hK hP hD hA hl hret
  obtain ⟨hx, hb, hml, hown, hts⟩ := id fx
  have hS : va_S A s.heap s.heap [] := va_S.rf
  have hw0 := hts (.fieldLink RX4 41 "MirrorTower" "trouble" "I") (by decide +kernel)
  have hin_X4 : ∀ w ∈ u_ws RX4 TX4 5, w ∈ wsX4_allowed := by decide +kernel
  obtain ⟨H, hH⟩ : ∃ H, H = s.heap := ⟨_, rfl⟩
  rw [← hH] at hP ⊢
  have hS : va_S A s.heap H [] := by rw [hH]; exact hS
  generalize ([] : List Loc) = locs at hS ⊢
  refine lv_aload_n hx hb dX4_allowed_0 rfl (lv_at hl 0 rfl) ?_
  refine lv_iconst (v := 0) hx hb dX4_allowed_1 (by decide) ?_
  refine va_put (D := (dC, dI)) (ci := 4) (v := .int 0) (ty := .int) (C := RX4) (T := TX4) (N := 5) hx hb hts hin_X4 tyX4 tyX4_ok nmX4 hown hK hP hD hS 0 rfl rfl 4 (by decide) hw0 (fun _ h9 => h9) rfl (by decide +kernel) rfl rfl (Nat.le_of_ble_eq_true rfl) dX4_allowed_2 (fun H locs hP hD hS => ?_)
  have hP : va_P (dC, dI) vwCl (wC cI cZ h F (va_up V 0 0)) H := hP
  have hD : va_D A (wC cI cZ h F (va_up V 0 0)) := hD
  refine lv_iconst (v := 1) hx hb dX4_allowed_5 (by decide) ?_
  exact hret 1 () H locs 6 ls rfl dX4_allowed_6 (by first | rfl | (simp []; done) | (exfalso; omega)) (hP) (hD) hS
def rm_X1_size : Room := { frames := 0, cells := 0, slots := 0, locals := 0 }
set_option maxHeartbeats 4000000 in
set_option maxRecDepth 100000 in
theorem c_X1_size (l : Launch) (dC : Nat → ClassId) (dI : Nat → Nat → Nat) (cI cZ cJ : ClassId) (h : Nat → Nat) (F : Nat → Nat → Int32) (V : Nat → Int32)     : CtI l (dC, dI) vwCl (tys3 cI cZ cJ) yX1_size wsX1_size rm_X1_size [.ref (h 1)] (wC cI cZ h F V) (S := Unit) (fun r _ => r = V 1) (fun _ => wC cI cZ h F V) 0 0 := by
  refine ct_I (cc := cX1_size) (maxL := 1) (ty := .int) (own := RX1) (by decide) rfl rfl (Nat.le_of_ble_eq_true rfl) (lv := [(0, .ref (h 1))]) rfl ?_
  intro p e s m args below meth c A Q ls fx hK hP hD hA hl hret
  obtain ⟨hx, hb, hml, hown, hts⟩ := id fx
  have hS : va_S A s.heap s.heap [] := va_S.rf
  have hw0 := hts (.fieldLink RX1 43 "MirrorTower$Field" "size" "I") (by decide +kernel)
  have hin_X1 : ∀ w ∈ u_ws RX1 TX1 11, w ∈ wsX1_size := by decide +kernel
  obtain ⟨H, hH⟩ : ∃ H, H = s.heap := ⟨_, rfl⟩
  rw [← hH] at hP ⊢
  have hS : va_S A s.heap H [] := by rw [hH]; exact hS
  generalize ([] : List Loc) = locs at hS ⊢
  refine lv_aload_n hx hb dX1_size_0 rfl (lv_at hl 0 rfl) ?_
  refine va_get (D := (dC, dI)) (ci := 1) (v := .int (V 1)) (C := RX1) (T := TX1) (N := 11) hx hb hts hin_X1 hown hK hP 1 rfl rfl 5 (by decide) hw0 (fun _ h9 => h9) rfl dX1_size_1 ?_
  exact hret (V 1) () H locs 4 ls rfl dX1_size_4 (by first | rfl | (simp []; done) | (exfalso; omega)) (hP) (hD) hS
def rm_X1_isTaken : Room := { frames := 0, cells := 0, slots := 0, locals := 0 }
set_option maxHeartbeats 4000000 in
set_option maxRecDepth 100000 in
theorem c_X1_isTaken (l : Launch) (dC : Nat → ClassId) (dI : Nat → Nat → Nat) (cI cZ cJ : ClassId) (h : Nat → Nat) (F : Nat → Nat → Int32) (V : Nat → Int32)  (k0 k1 : Nat) (hk0 : k0 < 15) (hk1 : k1 < 15)   : CtI l (dC, dI) vwCl (tys3 cI cZ cJ) yX1_isTaken wsX1_isTaken rm_X1_isTaken [.ref (h 1), .int (nI k0), .int (nI k1)] (wC cI cZ h F V) (S := Unit) (fun r _ => r = bI (tkb (F 5 k1) k0)) (fun _ => wC cI cZ h F V) 0 0 := by
  refine ct_I (cc := cX1_isTaken) (maxL := 3) (ty := .boolean) (own := RX1) (by decide) rfl rfl (Nat.le_of_ble_eq_true rfl) (lv := [(0, .ref (h 1)), (1, .int (nI k0)), (2, .int (nI k1))]) rfl ?_
  intro p e s m args below meth c A Q ls fx hK hP hD hA hl hret
  obtain ⟨hx, hb, hml, hown, hts⟩ := id fx
  have hS : va_S A s.heap s.heap [] := va_S.rf
  have hw0 := hts (.fieldLink RX1 9 "MirrorTower$Field" "taken" "[I") (by decide +kernel)
  have hin_X1 : ∀ w ∈ u_ws RX1 TX1 11, w ∈ wsX1_isTaken := by decide +kernel
  obtain ⟨H, hH⟩ : ∃ H, H = s.heap := ⟨_, rfl⟩
  rw [← hH] at hP ⊢
  have hS : va_S A s.heap H [] := by rw [hH]; exact hS
  generalize ([] : List Loc) = locs at hS ⊢
  refine lv_aload_n hx hb dX1_isTaken_0 rfl (lv_at hl 0 rfl) ?_
  refine va_get (D := (dC, dI)) (ci := 1) (v := .ref (h 5)) (C := RX1) (T := TX1) (N := 11) hx hb hts hin_X1 hown hK hP 1 rfl rfl 0 (by decide) hw0 (fun _ h9 => h9) rfl dX1_isTaken_1 ?_
  refine lv_iload_n hx hb dX1_isTaken_4 rfl (lv_at hl 2 rfl) ?_
  refine va_iald hx hb hK hP 5 0 rfl rfl (vp_in_nI (n := k1) (N := 15) (by omega) (by decide)) dX1_isTaken_5 ?_
  refine lv_topi (fun x_1 ex_1 => ?_)
  rw [nI_clamp (n := k1) (by omega)] at ex_1
  refine lv_iload_n hx hb dX1_isTaken_6 rfl (lv_at hl 1 rfl) ?_
  refine lv_ishr hx hb dX1_isTaken_7 ?_
  refine lv_iconst (v := 1) hx hb dX1_isTaken_8 (by decide) ?_
  refine lv_iand hx hb dX1_isTaken_9 ?_
  refine lv_if_eq (tgt := 17) hx hb dX1_isTaken_10 (by decide) (fun c_2 => ?_) (fun c_2 => ?_)
  · have c_2 : eqI ((x_1 >>> ((nI k0) &&& 31)) &&& 1) 0 = true := decide_eq_true c_2
    refine lv_iconst (v := 0) hx hb dX1_isTaken_17 (by decide) ?_
    exact hret 0 () H locs 18 ls rfl dX1_isTaken_18 (by
                have q := ex_1
                first | (subst q; simp [tkb, bI, c_2]) | (rw [← q]; simp [tkb, bI, c_2])) (hP) (hD) hS
  · have c_2 : eqI ((x_1 >>> ((nI k0) &&& 31)) &&& 1) 0 = false := decide_eq_false c_2
    refine lv_iconst (v := 1) hx hb dX1_isTaken_13 (by decide) ?_
    refine lv_goto (tgt := 18) hx hb dX1_isTaken_14 (by decide) ?_
    exact hret 1 () H locs 18 ls rfl dX1_isTaken_18 (by
                have q := ex_1
                first | (subst q; simp [tkb, bI, c_2]) | (rw [← q]; simp [tkb, bI, c_2])) (hP) (hD) hS
def rm_X1_soilOf : Room := { frames := 1, cells := 0, slots := 0, locals := 13 }
set_option maxHeartbeats 4000000 in
set_option maxRecDepth 100000 in
theorem c_X1_soilOf (l : Launch) (dC : Nat → ClassId) (dI : Nat → Nat → Nat) (cI cZ cJ : ClassId) (h : Nat → Nat) (F : Nat → Nat → Int32) (V : Nat → Int32) (d : Nat) (hV2 : V 2 = nI d) (bV2 : d ≤ 20) (So : Nat → Nat) (hSo : ∀ i, i < 40 → F 9 i = nI (So i)) (bSo : ∀ i, i < 40 → So i ≤ 90) (k0 k1 : Nat) (hk0 : k0 < 40) (hk1 : k1 ≤ 23)   : CtI l (dC, dI) vwCl (tys3 cI cZ cJ) yX1_soilOf wsX1_soilOf rm_X1_soilOf [.ref (h 1), .int (nI k0), .int (nI k1)] (wC cI cZ h F V) (S := Unit) (fun r _ => r = nI (min 90 (So k0 + k1 * d))) (fun _ => wC cI cZ h F V) 0 0 := by
  refine ct_I (cc := cX1_soilOf) (maxL := 3) (ty := .int) (own := RX1) (by decide) rfl rfl (Nat.le_of_ble_eq_true rfl) (lv := [(0, .ref (h 1)), (1, .int (nI k0)), (2, .int (nI k1))]) rfl ?_
  intro p e s m args below meth c A Q ls fx hK hP hD hA hl hret
  obtain ⟨hx, hb, hml, hown, hts⟩ := id fx
  have hS : va_S A s.heap s.heap [] := va_S.rf
  have hw0 := hts (.fieldLink RX1 24 "MirrorTower$Field" "soils" "[I") (by decide +kernel)
  have hin_X1 : ∀ w ∈ u_ws RX1 TX1 11, w ∈ wsX1_soilOf := by decide +kernel
  have hw2 := hts (.fieldLink RX1 39 "MirrorTower$Field" "dustAnHour" "I") (by decide +kernel)
  have hw3 := hts (.methodLink RX1 66 Lib.Math.min.name) (by decide +kernel)
  have hw4 := hts (.static Lib.Math.min.name) (by decide +kernel)
  have hw5 := hts (.initialized "java/lang/Math") (by decide +kernel)
  have hw6 := hts (.code Lib.Math.min.name Lib.Math.min.code 2 (some .int)) (by decide +kernel)
  have hkd : k1 * d ≤ 23 * 20 := Nat.mul_le_mul hk1 bV2
  obtain ⟨H, hH⟩ : ∃ H, H = s.heap := ⟨_, rfl⟩
  rw [← hH] at hP ⊢
  have hS : va_S A s.heap H [] := by rw [hH]; exact hS
  generalize ([] : List Loc) = locs at hS ⊢
  refine lv_bipush (v := 90) hx hb dX1_soilOf_0 (by decide) ?_
  refine lv_aload_n hx hb dX1_soilOf_2 rfl (lv_at hl 0 rfl) ?_
  refine va_get (D := (dC, dI)) (ci := 1) (v := .ref (h 9)) (C := RX1) (T := TX1) (N := 11) hx hb hts hin_X1 hown hK hP 1 rfl rfl 4 (by decide) hw0 (fun _ h9 => h9) rfl dX1_soilOf_3 ?_
  refine lv_iload_n hx hb dX1_soilOf_6 rfl (lv_at hl 1 rfl) ?_
  refine va_iald hx hb hK hP 9 0 rfl rfl (vp_in_nI (n := k0) (N := 40) (by omega) (by decide)) dX1_soilOf_7 ?_
  have hb_1 := bSo k0 (by omega)
  refine lv_topi (fun x_2 ex_2 => ?_)
  obtain rfl : x_2 = nI (So k0) := ex_2.trans ((congrArg (F 9) (nI_clamp (n := k0) (by omega))).trans (hSo k0 (by omega)))
  refine lv_iload_n hx hb dX1_soilOf_8 rfl (lv_at hl 2 rfl) ?_
  refine lv_aload_n hx hb dX1_soilOf_9 rfl (lv_at hl 0 rfl) ?_
  refine va_get (D := (dC, dI)) (ci := 1) (v := .int (V 2)) (C := RX1) (T := TX1) (N := 11) hx hb hts hin_X1 hown hK hP 1 rfl rfl 10 (by decide) hw2 (fun _ h9 => h9) rfl dX1_soilOf_10 ?_
  refine lv_topi (fun x_3 ex_3 => ?_)
  obtain rfl : x_3 = nI d := ex_3.trans (hV2)
  refine lv_imul hx hb dX1_soilOf_13 ?_
  refine lv_topi (fun x_4 ex_4 => ?_)
  obtain rfl : x_4 = nI (k1 * d) := ex_4.trans (pk_mul k1 d)
  refine lv_iadd hx hb dX1_soilOf_14 ?_
  refine lv_topi (fun x_5 ex_5 => ?_)
  obtain rfl : x_5 = nI ((So k0) + (k1 * d)) := ex_5.trans (nI_add (So k0) (k1 * d))
  refine va_mmin hx hb (hml.trans hl.1.symm) hown hw3 hw4 hw5 hw6 (Nat.le_of_ble_eq_true rfl) (Nat.le_of_ble_eq_true rfl) (Nat.le_of_ble_eq_true rfl) (Nat.le_of_ble_eq_true rfl) dX1_soilOf_15 ?_
  refine lv_topi (fun x_6 ex_6 => ?_)
  obtain rfl : x_6 = nI (min 90 ((So k0) + (k1 * d))) := ex_6.trans (mm_min (a := 90) (b := (So k0) + (k1 * d)) (by omega) (by omega))
  exact hret (nI (min 90 ((So k0) + (k1 * d)))) () H locs 18 ls rfl dX1_soilOf_18 (by first | rfl | (simp []; done) | (exfalso; omega)) (hP) (hD) hS
def rm_X1_isStowed : Room := { frames := 0, cells := 0, slots := 0, locals := 0 }
set_option maxHeartbeats 4000000 in
set_option maxRecDepth 100000 in
theorem c_X1_isStowed (l : Launch) (dC : Nat → ClassId) (dI : Nat → Nat → Nat) (cI cZ cJ : ClassId) (h : Nat → Nat) (F : Nat → Nat → Int32) (V : Nat → Int32)  (Wd : Nat → Nat) (hWd : ∀ i, i < 24 → F 13 i = nI (Wd i)) (bWd : ∀ i, i < 24 → Wd i ≤ 99) (k0 : Nat) (hk0 : k0 < 24)   : CtI l (dC, dI) vwCl (tys3 cI cZ cJ) yX1_isStowed wsX1_isStowed rm_X1_isStowed [.ref (h 1), .int (nI k0)] (wC cI cZ h F V) (S := Unit) (fun r _ => r = bI (stow Wd k0)) (fun _ => wC cI cZ h F V) 0 0 := by
  refine ct_I (cc := cX1_isStowed) (maxL := 2) (ty := .boolean) (own := RX1) (by decide) rfl rfl (Nat.le_of_ble_eq_true rfl) (lv := [(0, .ref (h 1)), (1, .int (nI k0))]) rfl ?_
  intro p e s m args below meth c A Q ls fx hK hP hD hA hl hret
  obtain ⟨hx, hb, hml, hown, hts⟩ := id fx
  have hS : va_S A s.heap s.heap [] := va_S.rf
  have hw0 := hts (.fieldLink RX1 36 "MirrorTower$Field" "winds" "[I") (by decide +kernel)
  have hin_X1 : ∀ w ∈ u_ws RX1 TX1 11, w ∈ wsX1_isStowed := by decide +kernel
  obtain ⟨H, hH⟩ : ∃ H, H = s.heap := ⟨_, rfl⟩
  rw [← hH] at hP ⊢
  have hS : va_S A s.heap H [] := by rw [hH]; exact hS
  generalize ([] : List Loc) = locs at hS ⊢
  refine lv_aload_n hx hb dX1_isStowed_0 rfl (lv_at hl 0 rfl) ?_
  refine va_get (D := (dC, dI)) (ci := 1) (v := .ref (h 13)) (C := RX1) (T := TX1) (N := 11) hx hb hts hin_X1 hown hK hP 1 rfl rfl 9 (by decide) hw0 (fun _ h9 => h9) rfl dX1_isStowed_1 ?_
  refine lv_iload_n hx hb dX1_isStowed_4 rfl (lv_at hl 1 rfl) ?_
  refine va_iald hx hb hK hP 13 0 rfl rfl (vp_in_nI (n := k0) (N := 24) (by omega) (by decide)) dX1_isStowed_5 ?_
  have hb_1 := bWd k0 (by omega)
  refine lv_topi (fun x_2 ex_2 => ?_)
  obtain rfl : x_2 = nI (Wd k0) := ex_2.trans ((congrArg (F 13) (nI_clamp (n := k0) (by omega))).trans (hWd k0 (by omega)))
  refine lv_bipush (v := 50) hx hb dX1_isStowed_6 (by decide) ?_
  refine lv_icmp_gt (tgt := 32) hx hb dX1_isStowed_8 (by decide) (fun c_3 => ?_) (fun c_3 => ?_)
  · have c_3 : 50 < (Wd k0) := (nI_ltI (a := 50) (b := Wd k0) (by omega) (by omega)).mp c_3
    refine lv_iconst (v := 1) hx hb dX1_isStowed_32 (by decide) ?_
    refine lv_goto (tgt := 37) hx hb dX1_isStowed_33 (by decide) ?_
    exact hret 1 () H locs 37 ls rfl dX1_isStowed_37 (by rw [show stow Wd k0 = true from by simp [stow]; omega]; rfl) (hP) (hD) hS
  · have c_3 : ¬ 50 < (Wd k0) := fun h => c_3 ((nI_ltI (a := 50) (b := Wd k0) (by omega) (by omega)).mpr h)
    refine lv_iload_n hx hb dX1_isStowed_11 rfl (lv_at hl 1 rfl) ?_
    refine lv_iconst (v := 1) hx hb dX1_isStowed_12 (by decide) ?_
    refine lv_iadd hx hb dX1_isStowed_13 ?_
    refine lv_topi (fun x_4 ex_4 => ?_)
    obtain rfl : x_4 = nI (k0 + 1) := ex_4.trans (nI_add k0 1)
    refine lv_bipush (v := 24) hx hb dX1_isStowed_14 (by decide) ?_
    refine lv_icmp_ge (tgt := 36) hx hb dX1_isStowed_16 (by decide) (fun c_5 => ?_) (fun c_5 => ?_)
    · have c_5 : 24 ≤ (k0 + 1) := (nI_leI (a := 24) (b := k0 + 1) (by omega) (by omega)).mp c_5
      refine lv_iconst (v := 0) hx hb dX1_isStowed_36 (by decide) ?_
      exact hret 0 () H locs 37 ls rfl dX1_isStowed_37 (by rw [show stow Wd k0 = false from by simp [stow]; omega]; rfl) (hP) (hD) hS
    · have c_5 : ¬ 24 ≤ (k0 + 1) := fun h => c_5 ((nI_leI (a := 24) (b := k0 + 1) (by omega) (by omega)).mpr h)
      refine lv_aload_n hx hb dX1_isStowed_19 rfl (lv_at hl 0 rfl) ?_
      refine va_get (D := (dC, dI)) (ci := 1) (v := .ref (h 13)) (C := RX1) (T := TX1) (N := 11) hx hb hts hin_X1 hown hK hP 1 rfl rfl 9 (by decide) hw0 (fun _ h9 => h9) rfl dX1_isStowed_20 ?_
      refine lv_iload_n hx hb dX1_isStowed_23 rfl (lv_at hl 1 rfl) ?_
      refine lv_iconst (v := 1) hx hb dX1_isStowed_24 (by decide) ?_
      refine lv_iadd hx hb dX1_isStowed_25 ?_
      refine lv_topi (fun x_6 ex_6 => ?_)
      obtain rfl : x_6 = nI (k0 + 1) := ex_6.trans (nI_add k0 1)
      refine va_iald hx hb hK hP 13 0 rfl rfl (vp_in_nI (n := k0 + 1) (N := 24) (by omega) (by decide)) dX1_isStowed_26 ?_
      have hb_7 := bWd (k0 + 1) (by omega)
      refine lv_topi (fun x_8 ex_8 => ?_)
      obtain rfl : x_8 = nI (Wd (k0 + 1)) := ex_8.trans ((congrArg (F 13) (nI_clamp (n := k0 + 1) (by omega))).trans (hWd (k0 + 1) (by omega)))
      refine lv_bipush (v := 50) hx hb dX1_isStowed_27 (by decide) ?_
      refine lv_icmp_le (tgt := 36) hx hb dX1_isStowed_29 (by decide) (fun c_9 => ?_) (fun c_9 => ?_)
      · have c_9 : (Wd (k0 + 1)) ≤ 50 := (nI_leI (a := Wd (k0 + 1)) (b := 50) (by omega) (by omega)).mp c_9
        refine lv_iconst (v := 0) hx hb dX1_isStowed_36 (by decide) ?_
        exact hret 0 () H locs 37 ls rfl dX1_isStowed_37 (by rw [show stow Wd k0 = false from by simp [stow]; omega]; rfl) (hP) (hD) hS
      · have c_9 : ¬ (Wd (k0 + 1)) ≤ 50 := fun h => c_9 ((nI_leI (a := Wd (k0 + 1)) (b := 50) (by omega) (by omega)).mpr h)
        refine lv_iconst (v := 1) hx hb dX1_isStowed_32 (by decide) ?_
        refine lv_goto (tgt := 37) hx hb dX1_isStowed_33 (by decide) ?_
        exact hret 1 () H locs 37 ls rfl dX1_isStowed_37 (by rw [show stow Wd k0 = true from by simp [stow]; omega]; rfl) (hP) (hD) hS
def rm_X1_shadersOf : Room := { frames := 0, cells := 0, slots := 0, locals := 0 }
set_option maxHeartbeats 4000000 in
set_option maxRecDepth 100000 in
theorem c_X1_shadersOf (l : Launch) (dC : Nat → ClassId) (dI : Nat → Nat → Nat) (cI cZ cJ : ClassId) (h : Nat → Nat) (F : Nat → Nat → Int32) (V : Nat → Int32)  (Hh : Nat → Nat) (hHh : ∀ i, i < 24 → F 12 i = nI (Hh i)) (bHh : ∀ i, i < 24 → Hh i ≤ 9) (k0 k1 : Nat) (hk0 : k0 < 40) (hk1 : k1 < 24)   : CtI l (dC, dI) vwCl (tys3 cI cZ cJ) yX1_shadersOf wsX1_shadersOf rm_X1_shadersOf [.ref (h 1), .int (nI k0), .int (nI k1)] (wC cI cZ h F V) (S := Unit) (fun r _ => r = shC F Hh k0 k1) (fun _ => wC cI cZ h F V) 0 0 := by
  refine ct_I (cc := cX1_shadersOf) (maxL := 7) (ty := .int) (own := RX1) (by decide) rfl rfl (Nat.le_of_ble_eq_true rfl) (lv := [(0, .ref (h 1)), (1, .int (nI k0)), (2, .int (nI k1))]) rfl ?_
  intro p e s m args below meth c A Q ls fx hK hP hD hA hl hret
  obtain ⟨hx, hb, hml, hown, hts⟩ := id fx
  have hS : va_S A s.heap s.heap [] := va_S.rf
  have hw0 := hts (.fieldLink RX1 33 "MirrorTower$Field" "heights" "[I") (by decide +kernel)
  have hin_X1 : ∀ w ∈ u_ws RX1 TX1 11, w ∈ wsX1_shadersOf := by decide +kernel
  have hw2 := hts (.fieldLink RX1 15 "MirrorTower$Field" "xs" "[I") (by decide +kernel)
  have hw3 := hts (.fieldLink RX1 18 "MirrorTower$Field" "ys" "[I") (by decide +kernel)
  have hw4 := hts (.fieldLink RX1 27 "MirrorTower$Field" "stepsX" "[I") (by decide +kernel)
  have hw5 := hts (.fieldLink RX1 30 "MirrorTower$Field" "stepsY" "[I") (by decide +kernel)
  have hw6 := hts (.fieldLink RX1 9 "MirrorTower$Field" "taken" "[I") (by decide +kernel)
  obtain ⟨H, hH⟩ : ∃ H, H = s.heap := ⟨_, rfl⟩
  rw [← hH] at hP ⊢
  have hS : va_S A s.heap H [] := by rw [hH]; exact hS
  generalize ([] : List Loc) = locs at hS ⊢
  refine lv_aload_n hx hb dX1_shadersOf_0 rfl (lv_at hl 0 rfl) ?_
  refine va_get (D := (dC, dI)) (ci := 1) (v := .ref (h 12)) (C := RX1) (T := TX1) (N := 11) hx hb hts hin_X1 hown hK hP 1 rfl rfl 8 (by decide) hw0 (fun _ h9 => h9) rfl dX1_shadersOf_1 ?_
  refine lv_iload_n hx hb dX1_shadersOf_4 rfl (lv_at hl 2 rfl) ?_
  refine va_iald hx hb hK hP 12 0 rfl rfl (vp_in_nI (n := k1) (N := 24) (by omega) (by decide)) dX1_shadersOf_5 ?_
  have hb_1 := bHh k1 (by omega)
  refine lv_topi (fun x_2 ex_2 => ?_)
  obtain rfl : x_2 = nI (Hh k1) := ex_2.trans ((congrArg (F 12) (nI_clamp (n := k1) (by omega))).trans (hHh k1 (by omega)))
  refine lv_if_ne (tgt := 11) hx hb dX1_shadersOf_6 (by decide) (fun c_3 => ?_) (fun c_3 => ?_)
  · have c_3 : ¬ (Hh k1) = 0 := fun h => c_3 ((nI_eq (a := Hh k1) (b := 0) (by omega) (by omega)).mpr h)
    have hh0 : ¬ Hh k1 = 0 := by omega
    refine lv_aload_n hx hb dX1_shadersOf_11 rfl (lv_at hl 0 rfl) ?_
    refine va_get (D := (dC, dI)) (ci := 1) (v := .ref (h 6)) (C := RX1) (T := TX1) (N := 11) hx hb hts hin_X1 hown hK hP 1 rfl rfl 1 (by decide) hw2 (fun _ h9 => h9) rfl dX1_shadersOf_12 ?_
    refine lv_iload_n hx hb dX1_shadersOf_15 rfl (lv_at hl 1 rfl) ?_
    refine va_iald hx hb hK hP 6 0 rfl rfl (vp_in_nI (n := k0) (N := 40) (by omega) (by decide)) dX1_shadersOf_16 ?_
    refine lv_topi (fun x_4 ex_4 => ?_)
    rw [nI_clamp (n := k0) (by omega)] at ex_4
    refine lv_istore_n (lv' := [(3, .int x_4), (0, .ref (h 1)), (1, .int (nI k0)), (2, .int (nI k1))]) hx hb dX1_shadersOf_17 rfl hl (by decide) rfl (fun ls hl => ?_)
    refine lv_aload_n hx hb dX1_shadersOf_18 rfl (lv_at hl 1 rfl) ?_
    refine va_get (D := (dC, dI)) (ci := 1) (v := .ref (h 7)) (C := RX1) (T := TX1) (N := 11) hx hb hts hin_X1 hown hK hP 1 rfl rfl 2 (by decide) hw3 (fun _ h9 => h9) rfl dX1_shadersOf_19 ?_
    refine lv_iload_n hx hb dX1_shadersOf_22 rfl (lv_at hl 2 rfl) ?_
    refine va_iald hx hb hK hP 7 0 rfl rfl (vp_in_nI (n := k0) (N := 40) (by omega) (by decide)) dX1_shadersOf_23 ?_
    refine lv_topi (fun x_5 ex_5 => ?_)
    rw [nI_clamp (n := k0) (by omega)] at ex_5
    refine lv_istore (lv' := [(4, .int x_5), (3, .int x_4), (0, .ref (h 1)), (1, .int (nI k0)), (2, .int (nI k1))]) hx hb dX1_shadersOf_24 hl (by decide) rfl (fun ls hl => ?_)
    refine lv_iconst (v := 0) hx hb dX1_shadersOf_26 (by decide) ?_
    refine lv_istore (lv' := [(5, .int 0), (4, .int x_5), (3, .int x_4), (0, .ref (h 1)), (1, .int (nI k0)), (2, .int (nI k1))]) hx hb dX1_shadersOf_27 hl (by decide) rfl (fun ls hl => ?_)
    refine lv_bipush (v := 10) hx hb dX1_shadersOf_29 (by decide) ?_
    refine lv_aload_n hx hb dX1_shadersOf_31 rfl (lv_at hl 3 rfl) ?_
    refine va_get (D := (dC, dI)) (ci := 1) (v := .ref (h 12)) (C := RX1) (T := TX1) (N := 11) hx hb hts hin_X1 hown hK hP 1 rfl rfl 8 (by decide) hw0 (fun _ h9 => h9) rfl dX1_shadersOf_32 ?_
    refine lv_iload_n hx hb dX1_shadersOf_35 rfl (lv_at hl 5 rfl) ?_
    refine va_iald hx hb hK hP 12 0 rfl rfl (vp_in_nI (n := k1) (N := 24) (by omega) (by decide)) dX1_shadersOf_36 ?_
    have hb_6 := bHh k1 (by omega)
    refine lv_topi (fun x_7 ex_7 => ?_)
    obtain rfl : x_7 = nI (Hh k1) := ex_7.trans ((congrArg (F 12) (nI_clamp (n := k1) (by omega))).trans (hHh k1 (by omega)))
    refine lv_isub hx hb dX1_shadersOf_37 ?_
    refine lv_topi (fun x_8 ex_8 => ?_)
    obtain rfl : x_8 = nI (10 - (Hh k1)) := ex_8.trans (pk_sub (a := 10) (b := Hh k1) (by omega))
    refine lv_istore (lv' := [(6, .int (nI (10 - (Hh k1)))), (5, .int 0), (4, .int x_5), (3, .int x_4), (0, .ref (h 1)), (1, .int (nI k0)), (2, .int (nI k1))]) hx hb dX1_shadersOf_38 hl (by decide) rfl (fun ls hl => ?_)
    have loop40 : ∀ (fu : Nat) (k : Nat) (x : Int32) (y : Int32) (a : Int32), (k ≤ 10) → (shC F Hh k0 k1 = shl (F 5) (F 10 k1) (F 11 k1) k x y a) → (k) < fu → ∀ (H : Heap) (locs : List Loc) (ls : Array Slot), va_P (dC, dI) vwCl (wC cI cZ h F V) H → va_D A (wC cI cZ h F V) → va_S A s.heap H locs → lv_has ls 7 [(0, .ref (h 1)), (1, .int (nI k0)), (2, .int (nI k1)), (3, .int x), (4, .int y), (5, .int a), (6, .int (nI k))] → W p l e rm_X1_shadersOf s m args below meth c H locs 0 0 Q (F0 m 40 ls []) := by
      intro fu
      induction fu with
      | zero => intro k x y a hk hq hn_; exact absurd hn_ (Nat.not_lt_zero _)
      | succ fu ih40 =>
        intro k x y a hk hq hn_ H locs ls hP hD hS hl
        refine lv_iload hx hb dX1_shadersOf_40 (lv_at hl 6 rfl) ?_
        refine lv_if_le (tgt := 112) hx hb dX1_shadersOf_42 (by decide) (fun c_9 => ?_) (fun c_9 => ?_)
        · have c_9 : k ≤ 0 := (nI_leI (a := k) (b := 0) (by omega) (by omega)).mp c_9
          refine lv_iload hx hb dX1_shadersOf_112 (lv_at hl 5 rfl) ?_
          exact hret a () H locs 114 ls rfl dX1_shadersOf_114 (by rw [hq, show k = 0 by omega]; rfl) (hP) (hD) hS
        · have c_9 : ¬ k ≤ 0 := fun h => c_9 ((nI_leI (a := k) (b := 0) (by omega) (by omega)).mpr h)
          refine lv_iload_n hx hb dX1_shadersOf_45 rfl (lv_at hl 3 rfl) ?_
          refine lv_aload_n hx hb dX1_shadersOf_46 rfl (lv_at hl 0 rfl) ?_
          refine va_get (D := (dC, dI)) (ci := 1) (v := .ref (h 10)) (C := RX1) (T := TX1) (N := 11) hx hb hts hin_X1 hown hK hP 1 rfl rfl 6 (by decide) hw4 (fun _ h9 => h9) rfl dX1_shadersOf_47 ?_
          refine lv_iload_n hx hb dX1_shadersOf_50 rfl (lv_at hl 2 rfl) ?_
          refine va_iald hx hb hK hP 10 0 rfl rfl (vp_in_nI (n := k1) (N := 24) (by omega) (by decide)) dX1_shadersOf_51 ?_
          refine lv_topi (fun x_10 ex_10 => ?_)
          rw [nI_clamp (n := k1) (by omega)] at ex_10
          refine lv_iadd hx hb dX1_shadersOf_52 ?_
          refine lv_istore_n (lv' := [(3, .int (x + x_10)), (0, .ref (h 1)), (1, .int (nI k0)), (2, .int (nI k1)), (4, .int y), (5, .int a), (6, .int (nI k))]) hx hb dX1_shadersOf_53 rfl hl (by decide) rfl (fun ls hl => ?_)
          refine lv_iload hx hb dX1_shadersOf_54 (lv_at hl 4 rfl) ?_
          refine lv_aload_n hx hb dX1_shadersOf_56 rfl (lv_at hl 1 rfl) ?_
          refine va_get (D := (dC, dI)) (ci := 1) (v := .ref (h 11)) (C := RX1) (T := TX1) (N := 11) hx hb hts hin_X1 hown hK hP 1 rfl rfl 7 (by decide) hw5 (fun _ h9 => h9) rfl dX1_shadersOf_57 ?_
          refine lv_iload_n hx hb dX1_shadersOf_60 rfl (lv_at hl 3 rfl) ?_
          refine va_iald hx hb hK hP 11 0 rfl rfl (vp_in_nI (n := k1) (N := 24) (by omega) (by decide)) dX1_shadersOf_61 ?_
          refine lv_topi (fun x_11 ex_11 => ?_)
          rw [nI_clamp (n := k1) (by omega)] at ex_11
          refine lv_iadd hx hb dX1_shadersOf_62 ?_
          refine lv_istore (lv' := [(4, .int (y + x_11)), (3, .int (x + x_10)), (0, .ref (h 1)), (1, .int (nI k0)), (2, .int (nI k1)), (5, .int a), (6, .int (nI k))]) hx hb dX1_shadersOf_63 hl (by decide) rfl (fun ls hl => ?_)
          refine lv_iload_n hx hb dX1_shadersOf_65 rfl (lv_at hl 1 rfl) ?_
          refine lv_if_lt (tgt := 87) hx hb dX1_shadersOf_66 (by decide) (fun c_12 => ?_) (fun c_12 => ?_)
          · have c_12 : ltI (x + x_10) 0 = true := decide_eq_true c_12
            refine lv_iload hx hb dX1_shadersOf_87 (lv_at hl 5 rfl) ?_
            exact hret a () H locs 89 ls rfl dX1_shadersOf_89 (by
                          have q1 := ex_10
                          have q2 := ex_11
                          obtain ⟨k9, rfl⟩ : ∃ z, k = z + 1 := ⟨k - 1, by omega⟩
                          rw [hq, shl, ← q1, ← q2]
                          simp [c_12]) (hP) (hD) hS
          · have c_12 : ltI (x + x_10) 0 = false := decide_eq_false c_12
            refine lv_iload_n hx hb dX1_shadersOf_69 rfl (lv_at hl 1 rfl) ?_
            refine lv_bipush (v := 15) hx hb dX1_shadersOf_70 (by decide) ?_
            refine lv_icmp_ge (tgt := 87) hx hb dX1_shadersOf_72 (by decide) (fun c_13 => ?_) (fun c_13 => ?_)
            · have c_13 : ltI (x + x_10) 15 = false := decide_eq_false (Int32.not_lt.mpr c_13)
              refine lv_iload hx hb dX1_shadersOf_87 (lv_at hl 5 rfl) ?_
              exact hret a () H locs 89 ls rfl dX1_shadersOf_89 (by
                            have q1 := ex_10
                            have q2 := ex_11
                            obtain ⟨k9, rfl⟩ : ∃ z, k = z + 1 := ⟨k - 1, by omega⟩
                            rw [hq, shl, ← q1, ← q2]
                            simp [c_12, c_13]) (hP) (hD) hS
            · have c_13 : ltI (x + x_10) 15 = true := decide_eq_true (Int32.not_le.mp c_13)
              refine lv_iload hx hb dX1_shadersOf_75 (lv_at hl 0 rfl) ?_
              refine lv_if_lt (tgt := 87) hx hb dX1_shadersOf_77 (by decide) (fun c_14 => ?_) (fun c_14 => ?_)
              · have c_14 : ltI (y + x_11) 0 = true := decide_eq_true c_14
                refine lv_iload hx hb dX1_shadersOf_87 (lv_at hl 5 rfl) ?_
                exact hret a () H locs 89 ls rfl dX1_shadersOf_89 (by
                              have q1 := ex_10
                              have q2 := ex_11
                              obtain ⟨k9, rfl⟩ : ∃ z, k = z + 1 := ⟨k - 1, by omega⟩
                              rw [hq, shl, ← q1, ← q2]
                              simp [c_12, c_13, c_14]) (hP) (hD) hS
              · have c_14 : ltI (y + x_11) 0 = false := decide_eq_false c_14
                refine lv_iload hx hb dX1_shadersOf_80 (lv_at hl 0 rfl) ?_
                refine lv_bipush (v := 15) hx hb dX1_shadersOf_82 (by decide) ?_
                refine lv_icmp_lt (tgt := 90) hx hb dX1_shadersOf_84 (by decide) (fun c_15 => ?_) (fun c_15 => ?_)
                · have c_15 : ltI (y + x_11) 15 = true := decide_eq_true c_15
                  refine lv_iload hx hb dX1_shadersOf_90 (lv_at hl 5 rfl) ?_
                  refine lv_aload_n hx hb dX1_shadersOf_92 rfl (lv_at hl 2 rfl) ?_
                  refine va_get (D := (dC, dI)) (ci := 1) (v := .ref (h 5)) (C := RX1) (T := TX1) (N := 11) hx hb hts hin_X1 hown hK hP 1 rfl rfl 0 (by decide) hw6 (fun _ h9 => h9) rfl dX1_shadersOf_93 ?_
                  refine lv_iload hx hb dX1_shadersOf_96 (lv_at hl 0 rfl) ?_
                  refine va_iald hx hb hK hP 5 0 rfl rfl (vp_in_of_bool c_14 c_15) dX1_shadersOf_98 ?_
                  refine lv_topi (fun x_16 ex_16 => ?_)
                  refine lv_iload_n hx hb dX1_shadersOf_99 rfl (lv_at hl 1 rfl) ?_
                  refine lv_ishr hx hb dX1_shadersOf_100 ?_
                  refine lv_iconst (v := 1) hx hb dX1_shadersOf_101 (by decide) ?_
                  refine lv_iand hx hb dX1_shadersOf_102 ?_
                  refine lv_iadd hx hb dX1_shadersOf_103 ?_
                  refine lv_topi (fun x_17 ex_17 => ?_)
                  refine lv_istore (lv' := [(5, .int x_17), (4, .int (y + x_11)), (3, .int (x + x_10)), (0, .ref (h 1)), (1, .int (nI k0)), (2, .int (nI k1)), (6, .int (nI k))]) hx hb dX1_shadersOf_104 hl (by decide) rfl (fun ls hl => ?_)
                  refine lv_iinc (v := nI (k - 1)) (lv' := [(6, .int (nI (k - 1))), (5, .int x_17), (4, .int (y + x_11)), (3, .int (x + x_10)), (0, .ref (h 1)), (1, .int (nI k0)), (2, .int (nI k1))]) hx hb dX1_shadersOf_106 hl (k := 6) rfl (dec_nI (by omega)) (by decide) rfl (fun ls hl => ?_)
                  refine lv_goto (tgt := 40) hx hb dX1_shadersOf_109 (by decide) ?_
                  exact ih40 (k - 1) (x + x_10) (y + x_11) x_17 (by omega) (by
                                have q1 := ex_10
                                have q2 := ex_11
                                obtain ⟨k9, rfl⟩ : ∃ z, k = z + 1 := ⟨k - 1, by omega⟩
                                rw [hq, shl, ← q1, ← q2]
                                simp [c_12, c_13, c_14, c_15, ex_16, ex_17]) (by omega) H locs ls hP hD hS (lv_sub hl [4, 5, 6, 3, 2, 1, 0] rfl)
                · have c_15 : ltI (y + x_11) 15 = false := decide_eq_false c_15
                  refine lv_iload hx hb dX1_shadersOf_87 (lv_at hl 5 rfl) ?_
                  exact hret a () H locs 89 ls rfl dX1_shadersOf_89 (by
                                have q1 := ex_10
                                have q2 := ex_11
                                obtain ⟨k9, rfl⟩ : ∃ z, k = z + 1 := ⟨k - 1, by omega⟩
                                rw [hq, shl, ← q1, ← q2]
                                simp [c_12, c_13, c_14, c_15]) (hP) (hD) hS
    exact loop40 _ (10 - (Hh k1)) x_4 x_5 0 (by omega) (by rw [shC, if_neg hh0, ex_4, ex_5]) (Nat.lt_succ_self _) H locs ls hP hD hS (lv_sub hl [4, 5, 6, 3, 2, 1, 0] rfl)
  · have c_3 : (Hh k1) = 0 := (nI_eq (a := Hh k1) (b := 0) (by omega) (by omega)).mp c_3
    refine lv_iconst (v := 0) hx hb dX1_shadersOf_9 (by decide) ?_
    exact hret 0 () H locs 10 ls rfl dX1_shadersOf_10 (by rw [shC, if_pos (by omega)]) (hP) (hD) hS
def rm_X1_powerOf : Room := { frames := 2, cells := 0, slots := 0, locals := 35 }
set_option maxHeartbeats 4000000 in
set_option maxRecDepth 100000 in
theorem c_X1_powerOf (l : Launch) (dC : Nat → ClassId) (dI : Nat → Nat → Nat) (cI cZ cJ : ClassId) (h : Nat → Nat) (F : Nat → Nat → Int32) (V : Nat → Int32) (d : Nat) (hV2 : V 2 = nI d) (bV2 : d ≤ 20) (So : Nat → Nat) (hSo : ∀ i, i < 40 → F 9 i = nI (So i)) (bSo : ∀ i, i < 40 → So i ≤ 90) (Hh : Nat → Nat) (hHh : ∀ i, i < 24 → F 12 i = nI (Hh i)) (bHh : ∀ i, i < 24 → Hh i ≤ 9) (Wd : Nat → Nat) (hWd : ∀ i, i < 24 → F 13 i = nI (Wd i)) (bWd : ∀ i, i < 24 → Wd i ≤ 99) (k0 k1 k2 : Nat) (hk0 : k0 < 40) (hk1 : k1 < 24) (hk2 : k2 ≤ 23)   : CtI l (dC, dI) vwCl (tys3 cI cZ cJ) yX1_powerOf wsX1_powerOf rm_X1_powerOf [.ref (h 1), .int (nI k0), .int (nI k1), .int (nI k2)] (wC cI cZ h F V) (S := Unit) (fun r _ => r = nI (pwN F Hh So Wd d k0 k1 k2)) (fun _ => wC cI cZ h F V) 0 0 := by
  refine ct_I (cc := cX1_powerOf) (maxL := 6) (ty := .int) (own := RX1) (by decide) rfl rfl (Nat.le_of_ble_eq_true rfl) (lv := [(0, .ref (h 1)), (1, .int (nI k0)), (2, .int (nI k1)), (3, .int (nI k2))]) rfl ?_
  intro p e s m args below meth c A Q ls fx hK hP hD hA hl hret
  obtain ⟨hx, hb, hml, hown, hts⟩ := id fx
  have hS : va_S A s.heap s.heap [] := va_S.rf
  have hw0 := hts (.fieldLink RX1 33 "MirrorTower$Field" "heights" "[I") (by decide +kernel)
  have hin_X1 : ∀ w ∈ u_ws RX1 TX1 11, w ∈ wsX1_powerOf := by decide +kernel
  have hw2 := hts (.methodLink RX1 58 Lib.Math.max.name) (by decide +kernel)
  have hw3 := hts (.static Lib.Math.max.name) (by decide +kernel)
  have hw4 := hts (.initialized "java/lang/Math") (by decide +kernel)
  have hw5 := hts (.code Lib.Math.max.name Lib.Math.max.code 2 (some .int)) (by decide +kernel)
  have hw6 := hts (.fieldLink RX1 21 "MirrorTower$Field" "blockers" "[I") (by decide +kernel)
  obtain ⟨H, hH⟩ : ∃ H, H = s.heap := ⟨_, rfl⟩
  rw [← hH] at hP ⊢
  have hS : va_S A s.heap H [] := by rw [hH]; exact hS
  generalize ([] : List Loc) = locs at hS ⊢
  refine lv_aload_n hx hb dX1_powerOf_0 rfl (lv_at hl 0 rfl) ?_
  refine va_get (D := (dC, dI)) (ci := 1) (v := .ref (h 12)) (C := RX1) (T := TX1) (N := 11) hx hb hts hin_X1 hown hK hP 1 rfl rfl 8 (by decide) hw0 (fun _ h9 => h9) rfl dX1_powerOf_1 ?_
  refine lv_iload_n hx hb dX1_powerOf_4 rfl (lv_at hl 2 rfl) ?_
  refine va_iald hx hb hK hP 12 0 rfl rfl (vp_in_nI (n := k1) (N := 24) (by omega) (by decide)) dX1_powerOf_5 ?_
  have hb_1 := bHh k1 (by omega)
  refine lv_topi (fun x_2 ex_2 => ?_)
  obtain rfl : x_2 = nI (Hh k1) := ex_2.trans ((congrArg (F 12) (nI_clamp (n := k1) (by omega))).trans (hHh k1 (by omega)))
  refine lv_if_eq (tgt := 17) hx hb dX1_powerOf_6 (by decide) (fun c_3 => ?_) (fun c_3 => ?_)
  · have c_3 : (Hh k1) = 0 := (nI_eq (a := Hh k1) (b := 0) (by omega) (by omega)).mp c_3
    refine lv_iconst (v := 0) hx hb dX1_powerOf_17 (by decide) ?_
    exact hret 0 () H locs 18 ls rfl dX1_powerOf_18 (by rw [← (pwN_eq (F := F) (S := So) (W := Wd) (d := d) (m := k0) (mo := k2) (bHh k1 hk1)).1, pwC, if_pos (by omega)]) (hP) (hD) hS
  · have c_3 : ¬ (Hh k1) = 0 := fun h => c_3 ((nI_eq (a := Hh k1) (b := 0) (by omega) (by omega)).mpr h)
    refine lv_aload_n hx hb dX1_powerOf_9 rfl (lv_at hl 0 rfl) ?_
    refine lv_iload_n hx hb dX1_powerOf_10 rfl (lv_at hl 2 rfl) ?_
    refine cw_Vi (As := [.int (nI k1)]) (rest := []) (c_X1_isStowed l dC dI cI cZ cJ h F V Wd hWd bWd k1 (by omega)) fx (cwV 1 hts gX1_powerOf_X1_isStowed rfl rfl rfl (by decide +kernel) ⟨Nat.le_of_ble_eq_true rfl, Nat.le_of_ble_eq_true rfl⟩) hK hP hD hS hA 1 rfl rfl rfl rfl hl.1 rfl (Nat.le_of_ble_eq_true rfl) dX1_powerOf_11 ⟨Nat.le_of_ble_eq_true rfl, Nat.le_of_ble_eq_true rfl⟩ (fun r_4 u_5 H locs hw_6 hP hD hS => ?_)
    have hP : va_P (dC, dI) vwCl (wC cI cZ h F V) H := hP
    have hD : va_D A (wC cI cZ h F V) := hD
    have hw_6 : r_4 = bI (stow Wd k1) := hw_6
    refine lv_if_eq (tgt := 19) hx hb dX1_powerOf_14 (by decide) (fun c_7 => ?_) (fun c_7 => ?_)
    · have c_7 : stow Wd k1 = false := bI_f hw_6 c_7
      refine lv_bipush (v := 10) hx hb dX1_powerOf_19 (by decide) ?_
      refine lv_aload_n hx hb dX1_powerOf_21 rfl (lv_at hl 0 rfl) ?_
      refine va_get (D := (dC, dI)) (ci := 1) (v := .ref (h 12)) (C := RX1) (T := TX1) (N := 11) hx hb hts hin_X1 hown hK hP 1 rfl rfl 8 (by decide) hw0 (fun _ h9 => h9) rfl dX1_powerOf_22 ?_
      refine lv_iload_n hx hb dX1_powerOf_25 rfl (lv_at hl 2 rfl) ?_
      refine va_iald hx hb hK hP 12 0 rfl rfl (vp_in_nI (n := k1) (N := 24) (by omega) (by decide)) dX1_powerOf_26 ?_
      have hb_8 := bHh k1 (by omega)
      refine lv_topi (fun x_9 ex_9 => ?_)
      obtain rfl : x_9 = nI (Hh k1) := ex_9.trans ((congrArg (F 12) (nI_clamp (n := k1) (by omega))).trans (hHh k1 (by omega)))
      refine lv_imul hx hb dX1_powerOf_27 ?_
      refine lv_topi (fun x_10 ex_10 => ?_)
      obtain rfl : x_10 = nI (10 * (Hh k1)) := ex_10.trans (pk_mul 10 (Hh k1))
      refine lv_bipush (v := 10) hx hb dX1_powerOf_28 (by decide) ?_
      refine lv_iadd hx hb dX1_powerOf_30 ?_
      refine lv_topi (fun x_11 ex_11 => ?_)
      obtain rfl : x_11 = nI ((10 * (Hh k1)) + 10) := ex_11.trans (nI_add (10 * (Hh k1)) 10)
      refine lv_istore (lv' := [(4, .int (nI ((10 * (Hh k1)) + 10))), (0, .ref (h 1)), (1, .int (nI k0)), (2, .int (nI k1)), (3, .int (nI k2))]) hx hb dX1_powerOf_31 hl (by decide) rfl (fun ls hl => ?_)
      refine lv_iconst (v := 0) hx hb dX1_powerOf_33 (by decide) ?_
      refine lv_iload hx hb dX1_powerOf_34 (lv_at hl 0 rfl) ?_
      refine lv_aload_n hx hb dX1_powerOf_36 rfl (lv_at hl 1 rfl) ?_
      refine lv_iload_n hx hb dX1_powerOf_37 rfl (lv_at hl 2 rfl) ?_
      refine lv_iload_n hx hb dX1_powerOf_38 rfl (lv_at hl 4 rfl) ?_
      refine cw_Vi (As := [.int (nI k0), .int (nI k2)]) (rest := [.int (nI ((10 * (Hh k1)) + 10)), .int 0]) (c_X1_soilOf l dC dI cI cZ cJ h F V d hV2 (by omega) So hSo bSo k0 k2 (by omega) (by omega)) fx (cwV 2 hts gX1_powerOf_X1_soilOf rfl rfl rfl (by decide +kernel) ⟨Nat.le_of_ble_eq_true rfl, Nat.le_of_ble_eq_true rfl⟩) hK hP hD hS hA 1 rfl rfl rfl rfl hl.1 rfl (Nat.le_of_ble_eq_true rfl) dX1_powerOf_39 ⟨Nat.le_of_ble_eq_true rfl, Nat.le_of_ble_eq_true rfl⟩ (fun r_12 u_13 H locs hw_14 hP hD hS => ?_)
      have hP : va_P (dC, dI) vwCl (wC cI cZ h F V) H := hP
      have hD : va_D A (wC cI cZ h F V) := hD
      obtain rfl : r_12 = nI (min 90 (So k0 + k2 * d)) := hw_14
      refine lv_isub hx hb dX1_powerOf_42 ?_
      refine lv_topi (fun x_15 ex_15 => ?_)
      refine va_mmax hx hb (hml.trans hl.1.symm) hown hw2 hw3 hw4 hw5 (Nat.le_of_ble_eq_true rfl) (Nat.le_of_ble_eq_true rfl) (Nat.le_of_ble_eq_true rfl) (Nat.le_of_ble_eq_true rfl) dX1_powerOf_43 ?_
      refine lv_topi (fun x_16 ex_16 => ?_)
      refine lv_istore (lv' := [(5, .int x_16), (4, .int (nI ((10 * (Hh k1)) + 10))), (0, .ref (h 1)), (1, .int (nI k0)), (2, .int (nI k1)), (3, .int (nI k2))]) hx hb dX1_powerOf_46 hl (by decide) rfl (fun ls hl => ?_)
      refine lv_iload hx hb dX1_powerOf_48 (lv_at hl 0 rfl) ?_
      refine lv_aload_n hx hb dX1_powerOf_50 rfl (lv_at hl 2 rfl) ?_
      refine lv_iload_n hx hb dX1_powerOf_51 rfl (lv_at hl 3 rfl) ?_
      refine lv_iload_n hx hb dX1_powerOf_52 rfl (lv_at hl 4 rfl) ?_
      refine cw_Vi (As := [.int (nI k0), .int (nI k1)]) (rest := [.int x_16]) (c_X1_shadersOf l dC dI cI cZ cJ h F V Hh hHh bHh k0 k1 (by omega) (by omega)) fx (cwV 2 hts gX1_powerOf_X1_shadersOf rfl rfl rfl (by decide +kernel) ⟨Nat.le_of_ble_eq_true rfl, Nat.le_of_ble_eq_true rfl⟩) hK hP hD hS hA 1 rfl rfl rfl rfl hl.1 rfl (Nat.le_of_ble_eq_true rfl) dX1_powerOf_53 ⟨Nat.le_of_ble_eq_true rfl, Nat.le_of_ble_eq_true rfl⟩ (fun r_17 u_18 H locs hw_19 hP hD hS => ?_)
      have hP : va_P (dC, dI) vwCl (wC cI cZ h F V) H := hP
      have hD : va_D A (wC cI cZ h F V) := hD
      have hw_19 : r_17 = shC F Hh k0 k1 := hw_19
      refine lv_aload_n hx hb dX1_powerOf_56 rfl (lv_at hl 2 rfl) ?_
      refine va_get (D := (dC, dI)) (ci := 1) (v := .ref (h 8)) (C := RX1) (T := TX1) (N := 11) hx hb hts hin_X1 hown hK hP 1 rfl rfl 3 (by decide) hw6 (fun _ h9 => h9) rfl dX1_powerOf_57 ?_
      refine lv_iload_n hx hb dX1_powerOf_60 rfl (lv_at hl 3 rfl) ?_
      refine va_iald hx hb hK hP 8 0 rfl rfl (vp_in_nI (n := k0) (N := 40) (by omega) (by decide)) dX1_powerOf_61 ?_
      refine lv_topi (fun x_20 ex_20 => ?_)
      rw [nI_clamp (n := k0) (by omega)] at ex_20
      refine lv_iadd hx hb dX1_powerOf_62 ?_
      refine lv_ishr hx hb dX1_powerOf_63 ?_
      exact hret (x_16 >>> ((r_17 + x_20) &&& 31)) () H locs 64 ls rfl dX1_powerOf_64 (by rw [← (pwN_eq (F := F) (S := So) (W := Wd) (d := d) (m := k0) (mo := k2) (bHh k1 hk1)).1, pwC, if_neg (by omega), if_neg (by rw [c_7]; decide), ← max0 (by omega) (by omega)]; have q1 := ex_16; have q2 := ex_20; rw [q1, ex_15, ← hw_19, ← q2]) (hP) (hD) hS
    · have c_7 : stow Wd k1 = true := bI_t hw_6 c_7
      refine lv_iconst (v := 0) hx hb dX1_powerOf_17 (by decide) ?_
      exact hret 0 () H locs 18 ls rfl dX1_powerOf_18 (by rw [← (pwN_eq (F := F) (S := So) (W := Wd) (d := d) (m := k0) (mo := k2) (bHh k1 hk1)).1, pwC, if_neg (by omega), if_pos c_7]) (hP) (hD) hS
