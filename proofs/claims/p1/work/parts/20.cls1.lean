def rm_X4_isWithin : Room := { frames := 0, cells := 0, slots := 0, locals := 0 }
set_option maxHeartbeats 4000000 in
set_option maxRecDepth 100000 in
theorem c_X4_isWithin (l : Launch) (dC : Nat → ClassId) (dI : Nat → Nat → Nat) (cI cZ cJ : ClassId) (w : va_W) (p0 p1 p2 : Int32)  : CtI l (dC, dI) vwCl (tys3 cI cZ cJ) yX4_isWithin wsX4_isWithin rm_X4_isWithin [.int p0, .int p1, .int p2] (w) (S := Unit) (fun r _ => r = bI (isW p0 p1 p2)) (fun _ => w) 0 0 := by
  refine ct_I (cc := cX4_isWithin) (maxL := 3) (ty := .boolean) (own := RX4) (by decide) rfl rfl (Nat.le_of_ble_eq_true rfl) (lv := [(0, .int p0), (1, .int p1), (2, .int p2)]) rfl ?_
  intro p e s m args below meth c A Q ls fx hK hP hD hA hl hret
  obtain ⟨hx, hb, hml, hown, hts⟩ := id fx
  have hS : va_S A s.heap s.heap [] := va_S.rf
  obtain ⟨H, hH⟩ : ∃ H, H = s.heap := ⟨_, rfl⟩
  rw [← hH] at hP ⊢
  have hS : va_S A s.heap H [] := by rw [hH]; exact hS
  generalize ([] : List Loc) = locs at hS ⊢
  refine lv_iload_n hx hb dX4_isWithin_0 rfl (lv_at hl 0 rfl) ?_
  refine lv_iload_n hx hb dX4_isWithin_1 rfl (lv_at hl 1 rfl) ?_
  refine lv_icmp_lt (tgt := 14) hx hb dX4_isWithin_2 (by decide) (fun c_1 => ?_) (fun c_1 => ?_)
  · have c_1 : ltI p0 p1 = true := decide_eq_true c_1
    refine lv_iconst (v := 0) hx hb dX4_isWithin_14 (by decide) ?_
    exact hret 0 () H locs 15 ls rfl dX4_isWithin_15 (by first | rfl | (simp [isW, bI, c_1]; done) | (exfalso; omega)) (hP) (hD) hS
  · have c_1 : ltI p0 p1 = false := decide_eq_false c_1
    refine lv_iload_n hx hb dX4_isWithin_5 rfl (lv_at hl 0 rfl) ?_
    refine lv_iload_n hx hb dX4_isWithin_6 rfl (lv_at hl 2 rfl) ?_
    refine lv_icmp_gt (tgt := 14) hx hb dX4_isWithin_7 (by decide) (fun c_2 => ?_) (fun c_2 => ?_)
    · have c_2 : ltI p2 p0 = true := decide_eq_true c_2
      refine lv_iconst (v := 0) hx hb dX4_isWithin_14 (by decide) ?_
      exact hret 0 () H locs 15 ls rfl dX4_isWithin_15 (by first | rfl | (simp [isW, bI, c_1, c_2]; done) | (exfalso; omega)) (hP) (hD) hS
    · have c_2 : ltI p2 p0 = false := decide_eq_false c_2
      refine lv_iconst (v := 1) hx hb dX4_isWithin_10 (by decide) ?_
      refine lv_goto (tgt := 15) hx hb dX4_isWithin_11 (by decide) ?_
      exact hret 1 () H locs 15 ls rfl dX4_isWithin_15 (by first | rfl | (simp [isW, bI, c_1, c_2]; done) | (exfalso; omega)) (hP) (hD) hS
def rm_X4_isHour : Room := { frames := 1, cells := 0, slots := 0, locals := 22 }
set_option maxHeartbeats 4000000 in
set_option maxRecDepth 100000 in
theorem c_X4_isHour (l : Launch) (dC : Nat → ClassId) (dI : Nat → Nat → Nat) (cI cZ cJ : ClassId) (w : va_W) (p0 : Int32)  : CtI l (dC, dI) vwCl (tys3 cI cZ cJ) yX4_isHour wsX4_isHour rm_X4_isHour [.int p0] (w) (S := Unit) (fun r _ => r = bI (isW p0 0 23)) (fun _ => w) 0 0 := by
  refine ct_I (cc := cX4_isHour) (maxL := 1) (ty := .boolean) (own := RX4) (by decide) rfl rfl (Nat.le_of_ble_eq_true rfl) (lv := [(0, .int p0)]) rfl ?_
  intro p e s m args below meth c A Q ls fx hK hP hD hA hl hret
  obtain ⟨hx, hb, hml, hown, hts⟩ := id fx
  have hS : va_S A s.heap s.heap [] := va_S.rf
  obtain ⟨H, hH⟩ : ∃ H, H = s.heap := ⟨_, rfl⟩
  rw [← hH] at hP ⊢
  have hS : va_S A s.heap H [] := by rw [hH]; exact hS
  generalize ([] : List Loc) = locs at hS ⊢
  refine lv_iload_n hx hb dX4_isHour_0 rfl (lv_at hl 0 rfl) ?_
  refine lv_iconst (v := 0) hx hb dX4_isHour_1 (by decide) ?_
  refine lv_bipush (v := 23) hx hb dX4_isHour_2 (by decide) ?_
  refine cw_Si (As := [.int p0, .int 0, .int 23]) (rest := []) (c_X4_isWithin l dC dI cI cZ cJ w p0 0 23) fx (va_cwS 3 hts gX4_isHour_X4_isWithin rfl rfl rfl (by decide +kernel) ⟨Nat.le_of_ble_eq_true rfl, Nat.le_of_ble_eq_true rfl⟩) hK hP hD hS hA rfl hl.1 rfl (Nat.le_of_ble_eq_true rfl) dX4_isHour_4 ⟨Nat.le_of_ble_eq_true rfl, Nat.le_of_ble_eq_true rfl⟩ (fun r_1 u_2 H locs hw_3 hP hD hS => ?_)
  have hP : va_P (dC, dI) vwCl (w) H := hP
  have hD : va_D A (w) := hD
  have hw_3 : r_1 = bI (isW p0 0 23) := hw_3
  exact hret r_1 () H locs 7 ls (by rw [hw_3]; exact bI_narrow _) dX4_isHour_7 (hw_3) (hP) (hD) hS
def rm_X4_isCell : Room := { frames := 1, cells := 0, slots := 0, locals := 22 }
set_option maxHeartbeats 4000000 in
set_option maxRecDepth 100000 in
theorem c_X4_isCell (l : Launch) (dC : Nat → ClassId) (dI : Nat → Nat → Nat) (cI cZ cJ : ClassId) (w : va_W) (p0 : Int32)  : CtI l (dC, dI) vwCl (tys3 cI cZ cJ) yX4_isCell wsX4_isCell rm_X4_isCell [.int p0] (w) (S := Unit) (fun r _ => r = bI (isW p0 0 3)) (fun _ => w) 0 0 := by
  refine ct_I (cc := cX4_isCell) (maxL := 1) (ty := .boolean) (own := RX4) (by decide) rfl rfl (Nat.le_of_ble_eq_true rfl) (lv := [(0, .int p0)]) rfl ?_
  intro p e s m args below meth c A Q ls fx hK hP hD hA hl hret
  obtain ⟨hx, hb, hml, hown, hts⟩ := id fx
  have hS : va_S A s.heap s.heap [] := va_S.rf
  obtain ⟨H, hH⟩ : ∃ H, H = s.heap := ⟨_, rfl⟩
  rw [← hH] at hP ⊢
  have hS : va_S A s.heap H [] := by rw [hH]; exact hS
  generalize ([] : List Loc) = locs at hS ⊢
  refine lv_iload_n hx hb dX4_isCell_0 rfl (lv_at hl 0 rfl) ?_
  refine lv_iconst (v := 0) hx hb dX4_isCell_1 (by decide) ?_
  refine lv_iconst (v := 3) hx hb dX4_isCell_2 (by decide) ?_
  refine cw_Si (As := [.int p0, .int 0, .int 3]) (rest := []) (c_X4_isWithin l dC dI cI cZ cJ w p0 0 3) fx (va_cwS 3 hts gX4_isCell_X4_isWithin rfl rfl rfl (by decide +kernel) ⟨Nat.le_of_ble_eq_true rfl, Nat.le_of_ble_eq_true rfl⟩) hK hP hD hS hA rfl hl.1 rfl (Nat.le_of_ble_eq_true rfl) dX4_isCell_3 ⟨Nat.le_of_ble_eq_true rfl, Nat.le_of_ble_eq_true rfl⟩ (fun r_1 u_2 H locs hw_3 hP hD hS => ?_)
  have hP : va_P (dC, dI) vwCl (w) H := hP
  have hD : va_D A (w) := hD
  have hw_3 : r_1 = bI (isW p0 0 3) := hw_3
  exact hret r_1 () H locs 6 ls (by rw [hw_3]; exact bI_narrow _) dX4_isCell_6 (hw_3) (hP) (hD) hS
def rm_X4_refused : Room := { frames := 0, cells := 0, slots := 0, locals := 0 }
set_option maxHeartbeats 4000000 in
set_option maxRecDepth 100000 in
theorem c_X4_refused (l : Launch) (dC : Nat → ClassId) (dI : Nat → Nat → Nat) (cI cZ cJ : ClassId) (h : Nat → Nat) (F : Nat → Nat → Int32) (V : Nat → Int32) (p0 : Int32)  : CtI l (dC, dI) vwCl (tys3 cI cZ cJ) yX4_refused wsX4_refused rm_X4_refused [.ref (h 0), .int p0] (wC cI cZ h F V) (S := Unit) (fun r _ => r = (-1)) (fun _ => wC cI cZ h F (va_up V 0 p0)) 0 0 := by
  refine ct_I (cc := cX4_refused) (maxL := 2) (ty := .int) (own := RX4) (by decide) rfl rfl (Nat.le_of_ble_eq_true rfl) (lv := [(0, .ref (h 0)), (1, .int p0)]) rfl ?_
  intro p e s m args below meth c A Q ls fx hK hP hD hA hl hret
  obtain ⟨hx, hb, hml, hown, hts⟩ := id fx
  have hS : va_S A s.heap s.heap [] := va_S.rf
  have hw0 := hts (.fieldLink RX4 41 "MirrorTower" "trouble" "I") (by decide +kernel)
  have hin_X4 : ∀ w ∈ u_ws RX4 TX4 5, w ∈ wsX4_refused := by decide +kernel
  obtain ⟨H, hH⟩ : ∃ H, H = s.heap := ⟨_, rfl⟩
  rw [← hH] at hP ⊢
  have hS : va_S A s.heap H [] := by rw [hH]; exact hS
  generalize ([] : List Loc) = locs at hS ⊢
  refine lv_aload_n hx hb dX4_refused_0 rfl (lv_at hl 0 rfl) ?_
  refine lv_iload_n hx hb dX4_refused_1 rfl (lv_at hl 1 rfl) ?_
  refine va_put (D := (dC, dI)) (ci := 4) (v := .int p0) (ty := .int) (C := RX4) (T := TX4) (N := 5) hx hb hts hin_X4 tyX4 tyX4_ok nmX4 hown hK hP hD hS 0 rfl rfl 4 (by decide) hw0 (fun _ h9 => h9) rfl (by decide +kernel) rfl rfl (Nat.le_of_ble_eq_true rfl) dX4_refused_2 (fun H locs hP hD hS => ?_)
  have hP : va_P (dC, dI) vwCl (wC cI cZ h F (va_up V 0 p0)) H := hP
  have hD : va_D A (wC cI cZ h F (va_up V 0 p0)) := hD
  refine lv_iconst (v := (-1)) hx hb dX4_refused_5 (by decide) ?_
  exact hret (-1) () H locs 6 ls rfl dX4_refused_6 (by first | rfl | (simp []; done) | (exfalso; omega)) (hP) (hD) hS
def rm_X4_denied : Room := { frames := 0, cells := 0, slots := 0, locals := 0 }
set_option maxHeartbeats 4000000 in
set_option maxRecDepth 100000 in
theorem c_X4_denied (l : Launch) (dC : Nat → ClassId) (dI : Nat → Nat → Nat) (cI cZ cJ : ClassId) (h : Nat → Nat) (F : Nat → Nat → Int32) (V : Nat → Int32) (p0 : Int32)  : CtI l (dC, dI) vwCl (tys3 cI cZ cJ) yX4_denied wsX4_denied rm_X4_denied [.ref (h 0), .int p0] (wC cI cZ h F V) (S := Unit) (fun r _ => r = 0) (fun _ => wC cI cZ h F (va_up V 0 p0)) 0 0 := by
  refine ct_I (cc := cX4_denied) (maxL := 2) (ty := .boolean) (own := RX4) (by decide) rfl rfl (Nat.le_of_ble_eq_true rfl) (lv := [(0, .ref (h 0)), (1, .int p0)]) rfl ?_
  intro p e s m args below meth c A Q ls fx hK hP hD hA hl hret
  obtain ⟨hx, hb, hml, hown, hts⟩ := id fx
  have hS : va_S A s.heap s.heap [] := va_S.rf
  have hw0 := hts (.fieldLink RX4 41 "MirrorTower" "trouble" "I") (by decide +kernel)
  have hin_X4 : ∀ w ∈ u_ws RX4 TX4 5, w ∈ wsX4_denied := by decide +kernel
  obtain ⟨H, hH⟩ : ∃ H, H = s.heap := ⟨_, rfl⟩
  rw [← hH] at hP ⊢
  have hS : va_S A s.heap H [] := by rw [hH]; exact hS
  generalize ([] : List Loc) = locs at hS ⊢
  refine lv_aload_n hx hb dX4_denied_0 rfl (lv_at hl 0 rfl) ?_
  refine lv_iload_n hx hb dX4_denied_1 rfl (lv_at hl 1 rfl) ?_
  refine va_put (D := (dC, dI)) (ci := 4) (v := .int p0) (ty := .int) (C := RX4) (T := TX4) (N := 5) hx hb hts hin_X4 tyX4 tyX4_ok nmX4 hown hK hP hD hS 0 rfl rfl 4 (by decide) hw0 (fun _ h9 => h9) rfl (by decide +kernel) rfl rfl (Nat.le_of_ble_eq_true rfl) dX4_denied_2 (fun H locs hP hD hS => ?_)
  have hP : va_P (dC, dI) vwCl (wC cI cZ h F (va_up V 0 p0)) H := hP
  have hD : va_D A (wC cI cZ h F (va_up V 0 p0)) := hD
  refine lv_iconst (v := 0) hx hb dX4_denied_5 (by decide) ?_
  exact hret 0 () H locs 6 ls rfl dX4_denied_6 (by first | rfl | (simp []; done) | (exfalso; omega)) (hP) (hD) hS
def rm_X4_granted : Room := { frames := 0, cells := 0, slots := 0, locals := 0 }
set_option maxHeartbeats 4000000 in
set_option maxRecDepth 100000 in
theorem c_X4_granted (l : Launch) (dC : Nat → ClassId) (dI : Nat → Nat → Nat) (cI cZ cJ : ClassId) (h : Nat → Nat) (F : Nat → Nat → Int32) (V : Nat → Int32) (p0 : Int32)  : CtI l (dC, dI) vwCl (tys3 cI cZ cJ) yX4_granted wsX4_granted rm_X4_granted [.ref (h 0), .int p0] (wC cI cZ h F V) (S := Unit) (fun r _ => r = p0) (fun _ => wC cI cZ h F (va_up V 0 0)) 0 0 := by
  refine ct_I (cc := cX4_granted) (maxL := 2) (ty := .int) (own := RX4) (by decide) rfl rfl (Nat.le_of_ble_eq_true rfl) (lv := [(0, .ref (h 0)), (1, .int p0)]) rfl ?_
  intro p e s m args below meth c A Q ls fx hK hP hD hA hl hret
  obtain ⟨hx, hb, hml, hown, hts⟩ := id fx
  have hS : va_S A s.heap s.heap [] := va_S.rf
  have hw0 := hts (.fieldLink RX4 41 "MirrorTower" "trouble" "I") (by decide +kernel)
  have hin_X4 : ∀ w ∈ u_ws RX4 TX4 5, w ∈ wsX4_granted := by decide +kernel
  obtain ⟨H, hH⟩ : ∃ H, H = s.heap := ⟨_, rfl⟩
  rw [← hH] at hP ⊢
  have hS : va_S A s.heap H [] := by rw [hH]; exact hS
  generalize ([] : List Loc) = locs at hS ⊢
  refine lv_aload_n hx hb dX4_granted_0 rfl (lv_at hl 0 rfl) ?_
  refine lv_iconst (v := 0) hx hb dX4_granted_1 (by decide) ?_
  refine va_put (D := (dC, dI)) (ci := 4) (v := .int 0) (ty := .int) (C := RX4) (T := TX4) (N := 5) hx hb hts hin_X4 tyX4 tyX4_ok nmX4 hown hK hP hD hS 0 rfl rfl 4 (by decide) hw0 (fun _ h9 => h9) rfl (by decide +kernel) rfl rfl (Nat.le_of_ble_eq_true rfl) dX4_granted_2 (fun H locs hP hD hS => ?_)
  have hP : va_P (dC, dI) vwCl (wC cI cZ h F (va_up V 0 0)) H := hP
  have hD : va_D A (wC cI cZ h F (va_up V 0 0)) := hD
  refine lv_iload_n hx hb dX4_granted_5 rfl (lv_at hl 1 rfl) ?_
  exact hret p0 () H locs 6 ls rfl dX4_granted_6 (by first | rfl | (simp []; done) | (exfalso; omega)) (hP) (hD) hS
def rm_X4_allowed : Room := { frames := 0, cells := 0, slots := 0, locals := 0 }
set_option maxHeartbeats 4000000 in
set_option maxRecDepth 100000 in
theorem c_X4_allowed (l : Launch) (dC : Nat → ClassId) (dI : Nat → Nat → Nat) (cI cZ cJ : ClassId) (h : Nat → Nat) (F : Nat → Nat → Int32) (V : Nat → Int32)   : CtI l (dC, dI) vwCl (tys3 cI cZ cJ) yX4_allowed wsX4_allowed rm_X4_allowed [.ref (h 0)] (wC cI cZ h F V) (S := Unit) (fun r _ => r = 1) (fun _ => wC cI cZ h F (va_up V 0 0)) 0 0 := by
  refine ct_I (cc := cX4_allowed) (maxL := 1) (ty := .boolean) (own := RX4) (by decide) rfl rfl (Nat.le_of_ble_eq_true rfl) (lv := [(0, .ref (h 0))]) rfl ?_
  intro p e s m args below meth c A Q ls fx hK hP hD hA hl hret
  obtain ⟨hx, hb, hml, hown, hts⟩ := id fx
  have hS : va_S A s.heap s.heap [] := va_S.rf
  have hw0 := hts (.fieldLink RX4 41 "MirrorTower" "trouble" "I") (by decide +kernel)
  have hin_X4 : ∀ w ∈ u_ws RX4 TX4 5, w ∈ wsX4_allowed := by decide +kernel
  obtain ⟨H, hH⟩ : ∃ H, H = s.heap := ⟨_, rfl⟩
  rw [← hH] at hP ⊢
  have hS : va_S A s.heap H [] := by rw [hH]; exact hS
  generalize ([] : List Loc) = locs at hS ⊢
  refine lv_aload_n hx hb dX4_allowed_0 rfl (lv_at hl 0 rfl) ?_
  refine lv_iconst (v := 0) hx hb dX4_allowed_1 (by decide) ?_
  refine va_put (D := (dC, dI)) (ci := 4) (v := .int 0) (ty := .int) (C := RX4) (T := TX4) (N := 5) hx hb hts hin_X4 tyX4 tyX4_ok nmX4 hown hK hP hD hS 0 rfl rfl 4 (by decide) hw0 (fun _ h9 => h9) rfl (by decide +kernel) rfl rfl (Nat.le_of_ble_eq_true rfl) dX4_allowed_2 (fun H locs hP hD hS => ?_)
  have hP : va_P (dC, dI) vwCl (wC cI cZ h F (va_up V 0 0)) H := hP
  have hD : va_D A (wC cI cZ h F (va_up V 0 0)) := hD
  refine lv_iconst (v := 1) hx hb dX4_allowed_5 (by decide) ?_
  exact hret 1 () H locs 6 ls rfl dX4_allowed_6 (by first | rfl | (simp []; done) | (exfalso; omega)) (hP) (hD) hS
def rm_X1_size : Room := { frames := 0, cells := 0, slots := 0, locals := 0 }
set_option maxHeartbeats 4000000 in
set_option maxRecDepth 100000 in
theorem c_X1_size (l : Launch) (dC : Nat → ClassId) (dI : Nat → Nat → Nat) (cI cZ cJ : ClassId) (h : Nat → Nat) (F : Nat → Nat → Int32) (V : Nat → Int32)   : CtI l (dC, dI) vwCl (tys3 cI cZ cJ) yX1_size wsX1_size rm_X1_size [.ref (h 1)] (wC cI cZ h F V) (S := Unit) (fun r _ => r = V 1) (fun _ => wC cI cZ h F V) 0 0 := by
  refine ct_I (cc := cX1_size) (maxL := 1) (ty := .int) (own := RX1) (by decide) rfl rfl (Nat.le_of_ble_eq_true rfl) (lv := [(0, .ref (h 1))]) rfl ?_
  intro p e s m args below meth c A Q ls fx hK hP hD hA hl hret
  obtain ⟨hx, hb, hml, hown, hts⟩ := id fx
  have hS : va_S A s.heap s.heap [] := va_S.rf
  have hw0 := hts (.fieldLink RX1 43 "MirrorTower$Field" "size" "I") (by decide +kernel)
  have hin_X1 : ∀ w ∈ u_ws RX1 TX1 11, w ∈ wsX1_size := by decide +kernel
  obtain ⟨H, hH⟩ : ∃ H, H = s.heap := ⟨_, rfl⟩
  rw [← hH] at hP ⊢
  have hS : va_S A s.heap H [] := by rw [hH]; exact hS
  generalize ([] : List Loc) = locs at hS ⊢
  refine lv_aload_n hx hb dX1_size_0 rfl (lv_at hl 0 rfl) ?_
  refine va_get (D := (dC, dI)) (ci := 1) (v := .int (V 1)) (C := RX1) (T := TX1) (N := 11) hx hb hts hin_X1 hown hK hP 1 rfl rfl 5 (by decide) hw0 (fun _ h9 => h9) rfl dX1_size_1 ?_
  exact hret (V 1) () H locs 4 ls rfl dX1_size_4 (by first | rfl | (simp []; done) | (exfalso; omega)) (hP) (hD) hS
def rm_X1_isTaken : Room := { frames := 0, cells := 0, slots := 0, locals := 0 }
set_option maxHeartbeats 4000000 in
set_option maxRecDepth 100000 in
theorem c_X1_isTaken (l : Launch) (dC : Nat → ClassId) (dI : Nat → Nat → Nat) (cI cZ cJ : ClassId) (h : Nat → Nat) (F : Nat → Nat → Int32) (V : Nat → Int32) (p0 : Int32) (k1 : Nat) (hk1 : k1 < 15)  (hF5 : ∀ i, i < 15 → F 5 i = 0) : CtI l (dC, dI) vwCl (tys3 cI cZ cJ) yX1_isTaken wsX1_isTaken rm_X1_isTaken [.ref (h 1), .int p0, .int (nI k1)] (wC cI cZ h F V) (S := Unit) (fun r _ => r = 0) (fun _ => wC cI cZ h F V) 0 0 := by
  refine ct_I (cc := cX1_isTaken) (maxL := 3) (ty := .boolean) (own := RX1) (by decide) rfl rfl (Nat.le_of_ble_eq_true rfl) (lv := [(0, .ref (h 1)), (1, .int p0), (2, .int (nI k1))]) rfl ?_
  intro p e s m args below meth c A Q ls fx hK hP hD hA hl hret
  obtain ⟨hx, hb, hml, hown, hts⟩ := id fx
  have hS : va_S A s.heap s.heap [] := va_S.rf
  have hw0 := hts (.fieldLink RX1 9 "MirrorTower$Field" "taken" "[I") (by decide +kernel)
  have hin_X1 : ∀ w ∈ u_ws RX1 TX1 11, w ∈ wsX1_isTaken := by decide +kernel
  obtain ⟨H, hH⟩ : ∃ H, H = s.heap := ⟨_, rfl⟩
  rw [← hH] at hP ⊢
  have hS : va_S A s.heap H [] := by rw [hH]; exact hS
  generalize ([] : List Loc) = locs at hS ⊢
  refine lv_aload_n hx hb dX1_isTaken_0 rfl (lv_at hl 0 rfl) ?_
  refine va_get (D := (dC, dI)) (ci := 1) (v := .ref (h 5)) (C := RX1) (T := TX1) (N := 11) hx hb hts hin_X1 hown hK hP 1 rfl rfl 0 (by decide) hw0 (fun _ h9 => h9) rfl dX1_isTaken_1 ?_
  refine lv_iload_n hx hb dX1_isTaken_4 rfl (lv_at hl 2 rfl) ?_
  refine va_iald hx hb hK hP 5 0 rfl rfl (vp_in_nI (n := k1) (N := 15) (by omega) (by decide)) dX1_isTaken_5 ?_
  refine lv_topi (fun x_1 ex_1 => ?_)
  obtain rfl : x_1 = 0 := ex_1.trans ((congrArg (F 5) (show (nI k1).toNatClampNeg = k1 from nI_clamp (n := k1) (by omega))).trans (hF5 k1 (by omega)))
  refine lv_iload_n hx hb dX1_isTaken_6 rfl (lv_at hl 1 rfl) ?_
  refine lv_ishr hx hb dX1_isTaken_7 ?_
  refine lv_topi (fun x_2 ex_2 => ?_)
  obtain rfl : x_2 = 0 := ex_2.trans (zshr _)
  refine lv_iconst (v := 1) hx hb dX1_isTaken_8 (by decide) ?_
  refine lv_iand hx hb dX1_isTaken_9 ?_
  refine lv_topi (fun x_3 ex_3 => ?_)
  obtain rfl : x_3 = 0 := ex_3.trans (by decide)
  refine lv_if_eq (tgt := 17) hx hb dX1_isTaken_10 (by decide) (fun c_4 => ?_) (fun c_4 => ?_)
  · refine lv_iconst (v := 0) hx hb dX1_isTaken_17 (by decide) ?_
    exact hret 0 () H locs 18 ls rfl dX1_isTaken_18 (by first | rfl | (simp []; done) | (exfalso; omega)) (hP) (hD) hS
  · exact absurd c_4 (by decide)
def rm_X1_place : Room := { frames := 0, cells := 0, slots := 0, locals := 0 }
set_option maxHeartbeats 4000000 in
set_option maxRecDepth 100000 in
theorem c_X1_place (l : Launch) (dC : Nat → ClassId) (dI : Nat → Nat → Nat) (cI cZ cJ : ClassId) (h : Nat → Nat) (F : Nat → Nat → Int32) (V : Nat → Int32) (k0 k1 : Nat) (hk0 : k0 < 15) (hk1 : k1 < 15) (hV1 : V 1 = 0) : CtI l (dC, dI) vwCl (tys3 cI cZ cJ) yX1_place wsX1_place rm_X1_place [.ref (h 1), .int (nI k0), .int (nI k1)] (wC cI cZ h F V) (S := (Nat → Nat → Int32) × (Nat → Int32)) (fun r _ => r = 0) (fun u => wC cI cZ h u.1 u.2) 0 0 := by
  refine ct_I (cc := cX1_place) (maxL := 5) (ty := .int) (own := RX1) (by decide) rfl rfl (Nat.le_of_ble_eq_true rfl) (lv := [(0, .ref (h 1)), (1, .int (nI k0)), (2, .int (nI k1))]) rfl ?_
  intro p e s m args below meth c A Q ls fx hK hP hD hA hl hret
  obtain ⟨hx, hb, hml, hown, hts⟩ := id fx
  have hS : va_S A s.heap s.heap [] := va_S.rf
  have hw0 := hts (.fieldLink RX1 43 "MirrorTower$Field" "size" "I") (by decide +kernel)
  have hin_X1 : ∀ w ∈ u_ws RX1 TX1 11, w ∈ wsX1_place := by decide +kernel
  have hw2 := hts (.fieldLink RX1 15 "MirrorTower$Field" "xs" "[I") (by decide +kernel)
  have hw3 := hts (.fieldLink RX1 18 "MirrorTower$Field" "ys" "[I") (by decide +kernel)
  have hw4 := hts (.fieldLink RX1 9 "MirrorTower$Field" "taken" "[I") (by decide +kernel)
  obtain ⟨H, hH⟩ : ∃ H, H = s.heap := ⟨_, rfl⟩
  rw [← hH] at hP ⊢
  have hS : va_S A s.heap H [] := by rw [hH]; exact hS
  generalize ([] : List Loc) = locs at hS ⊢
  refine lv_aload_n hx hb dX1_place_0 rfl (lv_at hl 0 rfl) ?_
  refine va_get (D := (dC, dI)) (ci := 1) (v := .int (V 1)) (C := RX1) (T := TX1) (N := 11) hx hb hts hin_X1 hown hK hP 1 rfl rfl 5 (by decide) hw0 (fun _ h9 => h9) rfl dX1_place_1 ?_
  refine lv_topi (fun x_1 ex_1 => ?_)
  obtain rfl : x_1 = 0 := ex_1.trans (hV1)
  refine lv_istore_n (lv' := [(3, .int 0), (0, .ref (h 1)), (1, .int (nI k0)), (2, .int (nI k1))]) hx hb dX1_place_4 rfl hl (by decide) rfl (fun ls hl => ?_)
  refine lv_aload_n hx hb dX1_place_5 rfl (lv_at hl 1 rfl) ?_
  refine va_get (D := (dC, dI)) (ci := 1) (v := .ref (h 6)) (C := RX1) (T := TX1) (N := 11) hx hb hts hin_X1 hown hK hP 1 rfl rfl 1 (by decide) hw2 (fun _ h9 => h9) rfl dX1_place_6 ?_
  refine lv_iload_n hx hb dX1_place_9 rfl (lv_at hl 0 rfl) ?_
  refine lv_iload_n hx hb dX1_place_10 rfl (lv_at hl 2 rfl) ?_
  refine va_iast hx hb hK hP hD hS 6 0 rfl rfl (vp_in_nI (n := 0) (N := 40) (by decide) (by decide)) dX1_place_11 (fun H locs hP hD hS => ?_)
  obtain ⟨F_2, eF_2⟩ : ∃ z : Nat → Nat → Int32, z = va_up F 6 (upd (F 6) (0 : Int32).toNatClampNeg (nI k0)) := ⟨_, rfl⟩
  have hP : va_P (dC, dI) vwCl (wC cI cZ h F_2 V) H := by rw [eF_2]; exact hP
  have hD : va_D A (wC cI cZ h F_2 V) := by rw [eF_2]; exact hD
  refine lv_aload_n hx hb dX1_place_12 rfl (lv_at hl 1 rfl) ?_
  refine va_get (D := (dC, dI)) (ci := 1) (v := .ref (h 7)) (C := RX1) (T := TX1) (N := 11) hx hb hts hin_X1 hown hK hP 1 rfl rfl 2 (by decide) hw3 (fun _ h9 => h9) rfl dX1_place_13 ?_
  refine lv_iload_n hx hb dX1_place_16 rfl (lv_at hl 0 rfl) ?_
  refine lv_iload_n hx hb dX1_place_17 rfl (lv_at hl 3 rfl) ?_
  refine va_iast hx hb hK hP hD hS 7 0 rfl rfl (vp_in_nI (n := 0) (N := 40) (by decide) (by decide)) dX1_place_18 (fun H locs hP hD hS => ?_)
  obtain ⟨F_3, eF_3⟩ : ∃ z : Nat → Nat → Int32, z = va_up F_2 7 (upd (F_2 7) (0 : Int32).toNatClampNeg (nI k1)) := ⟨_, rfl⟩
  have hP : va_P (dC, dI) vwCl (wC cI cZ h F_3 V) H := by rw [eF_3]; exact hP
  have hD : va_D A (wC cI cZ h F_3 V) := by rw [eF_3]; exact hD
  refine lv_aload_n hx hb dX1_place_19 rfl (lv_at hl 1 rfl) ?_
  refine va_get (D := (dC, dI)) (ci := 1) (v := .ref (h 5)) (C := RX1) (T := TX1) (N := 11) hx hb hts hin_X1 hown hK hP 1 rfl rfl 0 (by decide) hw4 (fun _ h9 => h9) rfl dX1_place_20 ?_
  refine lv_iload_n hx hb dX1_place_23 rfl (lv_at hl 3 rfl) ?_
  refine lv_dup2_11 hx hb dX1_place_24 rfl rfl ?_
  refine va_iald hx hb hK hP 5 0 rfl rfl (vp_in_nI (n := k1) (N := 15) (by omega) (by decide)) dX1_place_25 ?_
  refine lv_topi (fun x_4 ex_4 => ?_)
  refine lv_iconst (v := 1) hx hb dX1_place_26 (by decide) ?_
  refine lv_iload_n hx hb dX1_place_27 rfl (lv_at hl 2 rfl) ?_
  refine lv_ishl hx hb dX1_place_28 ?_
  refine lv_ior hx hb dX1_place_29 ?_
  refine va_iast hx hb hK hP hD hS 5 0 rfl rfl (vp_in_nI (n := k1) (N := 15) (by omega) (by decide)) dX1_place_30 (fun H locs hP hD hS => ?_)
  obtain ⟨F_5, eF_5⟩ : ∃ z : Nat → Nat → Int32, z = va_up F_3 5 (upd (F_3 5) (nI k1).toNatClampNeg (x_4 ||| (1 <<< ((nI k0) &&& 31)))) := ⟨_, rfl⟩
  have hP : va_P (dC, dI) vwCl (wC cI cZ h F_5 V) H := by rw [eF_5]; exact hP
  have hD : va_D A (wC cI cZ h F_5 V) := by rw [eF_5]; exact hD
  refine lv_aload_n hx hb dX1_place_31 rfl (lv_at hl 1 rfl) ?_
  refine lv_dup hx hb dX1_place_32 rfl ?_
  refine va_get (D := (dC, dI)) (ci := 1) (v := .int (V 1)) (C := RX1) (T := TX1) (N := 11) hx hb hts hin_X1 hown hK hP 1 rfl rfl 5 (by decide) hw0 (fun _ h9 => h9) rfl dX1_place_33 ?_
  refine lv_topi (fun x_6 ex_6 => ?_)
  obtain rfl : x_6 = 0 := ex_6.trans (hV1)
  refine lv_iconst (v := 1) hx hb dX1_place_36 (by decide) ?_
  refine lv_iadd hx hb dX1_place_37 ?_
  refine lv_topi (fun x_7 ex_7 => ?_)
  obtain rfl : x_7 = 1 := ex_7.trans (by decide)
  refine va_put (D := (dC, dI)) (ci := 1) (v := .int 1) (ty := .int) (C := RX1) (T := TX1) (N := 11) hx hb hts hin_X1 tyX1 tyX1_ok nmX1 hown hK hP hD hS 1 rfl rfl 5 (by decide) hw0 (fun _ h9 => h9) rfl (by decide +kernel) rfl rfl (Nat.le_of_ble_eq_true rfl) dX1_place_38 (fun H locs hP hD hS => ?_)
  have hP : va_P (dC, dI) vwCl (wC cI cZ h F_5 (va_up V 1 1)) H := hP
  have hD : va_D A (wC cI cZ h F_5 (va_up V 1 1)) := hD
  refine lv_iconst (v := 0) hx hb dX1_place_41 (by decide) ?_
  refine lv_istore (lv' := [(4, .int 0), (3, .int 0), (0, .ref (h 1)), (1, .int (nI k0)), (2, .int (nI k1))]) hx hb dX1_place_42 hl (by decide) rfl (fun ls hl => ?_)
  refine lv_iload hx hb dX1_place_44 (lv_at hl 0 rfl) ?_
  refine lv_iload_n hx hb dX1_place_46 rfl (lv_at hl 1 rfl) ?_
  refine lv_icmp_ge (tgt := 97) hx hb dX1_place_47 (by decide) (fun c_8 => ?_) (fun c_8 => ?_)
  · refine lv_iload_n hx hb dX1_place_97 rfl (lv_at hl 1 rfl) ?_
    exact hret 0 (F_5, va_up V 1 1) H locs 98 ls rfl dX1_place_98 (rfl) (hP) (hD) hS
  · exact absurd c_8 (by decide)
def rm_X1_setSun : Room := { frames := 0, cells := 0, slots := 0, locals := 0 }
set_option maxHeartbeats 4000000 in
set_option maxRecDepth 100000 in
theorem c_X1_setSun (l : Launch) (dC : Nat → ClassId) (dI : Nat → Nat → Nat) (cI cZ cJ : ClassId) (h : Nat → Nat) (F : Nat → Nat → Int32) (V : Nat → Int32) (k0 : Nat) (p1 p2 p3 : Int32) (hk0 : k0 < 24)  : CtV l (dC, dI) vwCl (tys3 cI cZ cJ) yX1_setSun wsX1_setSun rm_X1_setSun [.ref (h 1), .int (nI k0), .int p1, .int p2, .int p3] (wC cI cZ h F V) (S := (Nat → Nat → Int32) × (Nat → Int32)) (fun _ => True) (fun u => wC cI cZ h u.1 u.2) 0 0 := by
  refine ct_V (cc := cX1_setSun) (maxL := 5) (own := RX1) (by decide) rfl rfl (Nat.le_of_ble_eq_true rfl) (lv := [(0, .ref (h 1)), (1, .int (nI k0)), (2, .int p1), (3, .int p2), (4, .int p3)]) rfl ?_
  intro p e s m args below meth c A Q ls hnm fx hK hP hD hA hl hret
  obtain ⟨hx, hb, hml, hown, hts⟩ := id fx
  have hS : va_S A s.heap s.heap [] := va_S.rf
  have hw0 := hts (.fieldLink RX1 27 "MirrorTower$Field" "stepsX" "[I") (by decide +kernel)
  have hin_X1 : ∀ w ∈ u_ws RX1 TX1 11, w ∈ wsX1_setSun := by decide +kernel
  have hw2 := hts (.fieldLink RX1 30 "MirrorTower$Field" "stepsY" "[I") (by decide +kernel)
  have hw3 := hts (.fieldLink RX1 33 "MirrorTower$Field" "heights" "[I") (by decide +kernel)
  obtain ⟨H, hH⟩ : ∃ H, H = s.heap := ⟨_, rfl⟩
  rw [← hH] at hP ⊢
  have hS : va_S A s.heap H [] := by rw [hH]; exact hS
  generalize ([] : List Loc) = locs at hS ⊢
  refine lv_aload_n hx hb dX1_setSun_0 rfl (lv_at hl 0 rfl) ?_
  refine va_get (D := (dC, dI)) (ci := 1) (v := .ref (h 10)) (C := RX1) (T := TX1) (N := 11) hx hb hts hin_X1 hown hK hP 1 rfl rfl 6 (by decide) hw0 (fun _ h9 => h9) rfl dX1_setSun_1 ?_
  refine lv_iload_n hx hb dX1_setSun_4 rfl (lv_at hl 1 rfl) ?_
  refine lv_iload_n hx hb dX1_setSun_5 rfl (lv_at hl 2 rfl) ?_
  refine va_iast hx hb hK hP hD hS 10 0 rfl rfl (vp_in_nI (n := k0) (N := 24) (by omega) (by decide)) dX1_setSun_6 (fun H locs hP hD hS => ?_)
  obtain ⟨F_1, eF_1⟩ : ∃ z : Nat → Nat → Int32, z = va_up F 10 (upd (F 10) (nI k0).toNatClampNeg p1) := ⟨_, rfl⟩
  have hP : va_P (dC, dI) vwCl (wC cI cZ h F_1 V) H := by rw [eF_1]; exact hP
  have hD : va_D A (wC cI cZ h F_1 V) := by rw [eF_1]; exact hD
  refine lv_aload_n hx hb dX1_setSun_7 rfl (lv_at hl 0 rfl) ?_
  refine va_get (D := (dC, dI)) (ci := 1) (v := .ref (h 11)) (C := RX1) (T := TX1) (N := 11) hx hb hts hin_X1 hown hK hP 1 rfl rfl 7 (by decide) hw2 (fun _ h9 => h9) rfl dX1_setSun_8 ?_
  refine lv_iload_n hx hb dX1_setSun_11 rfl (lv_at hl 1 rfl) ?_
  refine lv_iload_n hx hb dX1_setSun_12 rfl (lv_at hl 3 rfl) ?_
  refine va_iast hx hb hK hP hD hS 11 0 rfl rfl (vp_in_nI (n := k0) (N := 24) (by omega) (by decide)) dX1_setSun_13 (fun H locs hP hD hS => ?_)
  obtain ⟨F_2, eF_2⟩ : ∃ z : Nat → Nat → Int32, z = va_up F_1 11 (upd (F_1 11) (nI k0).toNatClampNeg p2) := ⟨_, rfl⟩
  have hP : va_P (dC, dI) vwCl (wC cI cZ h F_2 V) H := by rw [eF_2]; exact hP
  have hD : va_D A (wC cI cZ h F_2 V) := by rw [eF_2]; exact hD
  refine lv_aload_n hx hb dX1_setSun_14 rfl (lv_at hl 0 rfl) ?_
  refine va_get (D := (dC, dI)) (ci := 1) (v := .ref (h 12)) (C := RX1) (T := TX1) (N := 11) hx hb hts hin_X1 hown hK hP 1 rfl rfl 8 (by decide) hw3 (fun _ h9 => h9) rfl dX1_setSun_15 ?_
  refine lv_iload_n hx hb dX1_setSun_18 rfl (lv_at hl 1 rfl) ?_
  refine lv_iload hx hb dX1_setSun_19 (lv_at hl 4 rfl) ?_
  refine va_iast hx hb hK hP hD hS 12 0 rfl rfl (vp_in_nI (n := k0) (N := 24) (by omega) (by decide)) dX1_setSun_21 (fun H locs hP hD hS => ?_)
  obtain ⟨F_3, eF_3⟩ : ∃ z : Nat → Nat → Int32, z = va_up F_2 12 (upd (F_2 12) (nI k0).toNatClampNeg p3) := ⟨_, rfl⟩
  have hP : va_P (dC, dI) vwCl (wC cI cZ h F_3 V) H := by rw [eF_3]; exact hP
  have hD : va_D A (wC cI cZ h F_3 V) := by rw [eF_3]; exact hD
  exact hret (F_3, V) H locs 22 ls dX1_setSun_22 (trivial) (hP) (hD) hS
def rm_X1_setWind : Room := { frames := 0, cells := 0, slots := 0, locals := 0 }
set_option maxHeartbeats 4000000 in
set_option maxRecDepth 100000 in
theorem c_X1_setWind (l : Launch) (dC : Nat → ClassId) (dI : Nat → Nat → Nat) (cI cZ cJ : ClassId) (h : Nat → Nat) (F : Nat → Nat → Int32) (V : Nat → Int32) (k0 : Nat) (p1 : Int32) (hk0 : k0 < 24)  : CtV l (dC, dI) vwCl (tys3 cI cZ cJ) yX1_setWind wsX1_setWind rm_X1_setWind [.ref (h 1), .int (nI k0), .int p1] (wC cI cZ h F V) (S := (Nat → Nat → Int32) × (Nat → Int32)) (fun _ => True) (fun u => wC cI cZ h u.1 u.2) 0 0 := by
  refine ct_V (cc := cX1_setWind) (maxL := 3) (own := RX1) (by decide) rfl rfl (Nat.le_of_ble_eq_true rfl) (lv := [(0, .ref (h 1)), (1, .int (nI k0)), (2, .int p1)]) rfl ?_
  intro p e s m args below meth c A Q ls hnm fx hK hP hD hA hl hret
  obtain ⟨hx, hb, hml, hown, hts⟩ := id fx
  have hS : va_S A s.heap s.heap [] := va_S.rf
  have hw0 := hts (.fieldLink RX1 36 "MirrorTower$Field" "winds" "[I") (by decide +kernel)
  have hin_X1 : ∀ w ∈ u_ws RX1 TX1 11, w ∈ wsX1_setWind := by decide +kernel
  obtain ⟨H, hH⟩ : ∃ H, H = s.heap := ⟨_, rfl⟩
  rw [← hH] at hP ⊢
  have hS : va_S A s.heap H [] := by rw [hH]; exact hS
  generalize ([] : List Loc) = locs at hS ⊢
  refine lv_aload_n hx hb dX1_setWind_0 rfl (lv_at hl 0 rfl) ?_
  refine va_get (D := (dC, dI)) (ci := 1) (v := .ref (h 13)) (C := RX1) (T := TX1) (N := 11) hx hb hts hin_X1 hown hK hP 1 rfl rfl 9 (by decide) hw0 (fun _ h9 => h9) rfl dX1_setWind_1 ?_
  refine lv_iload_n hx hb dX1_setWind_4 rfl (lv_at hl 1 rfl) ?_
  refine lv_iload_n hx hb dX1_setWind_5 rfl (lv_at hl 2 rfl) ?_
  refine va_iast hx hb hK hP hD hS 13 0 rfl rfl (vp_in_nI (n := k0) (N := 24) (by omega) (by decide)) dX1_setWind_6 (fun H locs hP hD hS => ?_)
  obtain ⟨F_1, eF_1⟩ : ∃ z : Nat → Nat → Int32, z = va_up F 13 (upd (F 13) (nI k0).toNatClampNeg p1) := ⟨_, rfl⟩
  have hP : va_P (dC, dI) vwCl (wC cI cZ h F_1 V) H := by rw [eF_1]; exact hP
  have hD : va_D A (wC cI cZ h F_1 V) := by rw [eF_1]; exact hD
  exact hret (F_1, V) H locs 7 ls dX1_setWind_7 (trivial) (hP) (hD) hS
def rm_X1_setDust : Room := { frames := 0, cells := 0, slots := 0, locals := 0 }
set_option maxHeartbeats 4000000 in
set_option maxRecDepth 100000 in
theorem c_X1_setDust (l : Launch) (dC : Nat → ClassId) (dI : Nat → Nat → Nat) (cI cZ cJ : ClassId) (h : Nat → Nat) (F : Nat → Nat → Int32) (V : Nat → Int32) (p0 : Int32)  : CtV l (dC, dI) vwCl (tys3 cI cZ cJ) yX1_setDust wsX1_setDust rm_X1_setDust [.ref (h 1), .int p0] (wC cI cZ h F V) (S := (Nat → Nat → Int32) × (Nat → Int32)) (fun _ => True) (fun u => wC cI cZ h u.1 u.2) 0 0 := by
  refine ct_V (cc := cX1_setDust) (maxL := 2) (own := RX1) (by decide) rfl rfl (Nat.le_of_ble_eq_true rfl) (lv := [(0, .ref (h 1)), (1, .int p0)]) rfl ?_
  intro p e s m args below meth c A Q ls hnm fx hK hP hD hA hl hret
  obtain ⟨hx, hb, hml, hown, hts⟩ := id fx
  have hS : va_S A s.heap s.heap [] := va_S.rf
  have hw0 := hts (.fieldLink RX1 39 "MirrorTower$Field" "dustAnHour" "I") (by decide +kernel)
  have hin_X1 : ∀ w ∈ u_ws RX1 TX1 11, w ∈ wsX1_setDust := by decide +kernel
  obtain ⟨H, hH⟩ : ∃ H, H = s.heap := ⟨_, rfl⟩
  rw [← hH] at hP ⊢
  have hS : va_S A s.heap H [] := by rw [hH]; exact hS
  generalize ([] : List Loc) = locs at hS ⊢
  refine lv_aload_n hx hb dX1_setDust_0 rfl (lv_at hl 0 rfl) ?_
  refine lv_iload_n hx hb dX1_setDust_1 rfl (lv_at hl 1 rfl) ?_
  refine va_put (D := (dC, dI)) (ci := 1) (v := .int p0) (ty := .int) (C := RX1) (T := TX1) (N := 11) hx hb hts hin_X1 tyX1 tyX1_ok nmX1 hown hK hP hD hS 1 rfl rfl 10 (by decide) hw0 (fun _ h9 => h9) rfl (by decide +kernel) rfl rfl (Nat.le_of_ble_eq_true rfl) dX1_setDust_2 (fun H locs hP hD hS => ?_)
  have hP : va_P (dC, dI) vwCl (wC cI cZ h F (va_up V 2 p0)) H := hP
  have hD : va_D A (wC cI cZ h F (va_up V 2 p0)) := hD
  exact hret (F, va_up V 2 p0) H locs 5 ls dX1_setDust_5 (trivial) (hP) (hD) hS
def rm_X1_isStowed : Room := { frames := 0, cells := 0, slots := 0, locals := 0 }
set_option maxHeartbeats 4000000 in
set_option maxRecDepth 100000 in
theorem c_X1_isStowed (l : Launch) (dC : Nat → ClassId) (dI : Nat → Nat → Nat) (cI cZ cJ : ClassId) (h : Nat → Nat) (F : Nat → Nat → Int32) (V : Nat → Int32) (k0 : Nat) (hk0 : k0 < 24)  (hF13 : ∀ i, i < 24 → F 13 i = 0) : CtI l (dC, dI) vwCl (tys3 cI cZ cJ) yX1_isStowed wsX1_isStowed rm_X1_isStowed [.ref (h 1), .int (nI k0)] (wC cI cZ h F V) (S := Unit) (fun r _ => r = 0) (fun _ => wC cI cZ h F V) 0 0 := by
  refine ct_I (cc := cX1_isStowed) (maxL := 2) (ty := .boolean) (own := RX1) (by decide) rfl rfl (Nat.le_of_ble_eq_true rfl) (lv := [(0, .ref (h 1)), (1, .int (nI k0))]) rfl ?_
  intro p e s m args below meth c A Q ls fx hK hP hD hA hl hret
  obtain ⟨hx, hb, hml, hown, hts⟩ := id fx
  have hS : va_S A s.heap s.heap [] := va_S.rf
  have hw0 := hts (.fieldLink RX1 36 "MirrorTower$Field" "winds" "[I") (by decide +kernel)
  have hin_X1 : ∀ w ∈ u_ws RX1 TX1 11, w ∈ wsX1_isStowed := by decide +kernel
  obtain ⟨H, hH⟩ : ∃ H, H = s.heap := ⟨_, rfl⟩
  rw [← hH] at hP ⊢
  have hS : va_S A s.heap H [] := by rw [hH]; exact hS
  generalize ([] : List Loc) = locs at hS ⊢
  refine lv_aload_n hx hb dX1_isStowed_0 rfl (lv_at hl 0 rfl) ?_
  refine va_get (D := (dC, dI)) (ci := 1) (v := .ref (h 13)) (C := RX1) (T := TX1) (N := 11) hx hb hts hin_X1 hown hK hP 1 rfl rfl 9 (by decide) hw0 (fun _ h9 => h9) rfl dX1_isStowed_1 ?_
  refine lv_iload_n hx hb dX1_isStowed_4 rfl (lv_at hl 1 rfl) ?_
  refine va_iald hx hb hK hP 13 0 rfl rfl (vp_in_nI (n := k0) (N := 24) (by omega) (by decide)) dX1_isStowed_5 ?_
  refine lv_topi (fun x_1 ex_1 => ?_)
  obtain rfl : x_1 = 0 := ex_1.trans ((congrArg (F 13) (show (nI k0).toNatClampNeg = k0 from nI_clamp (n := k0) (by omega))).trans (hF13 k0 (by omega)))
  refine lv_bipush (v := 50) hx hb dX1_isStowed_6 (by decide) ?_
  refine lv_icmp_gt (tgt := 32) hx hb dX1_isStowed_8 (by decide) (fun c_2 => ?_) (fun c_2 => ?_)
  · exact absurd c_2 (by decide)
  · refine lv_iload_n hx hb dX1_isStowed_11 rfl (lv_at hl 1 rfl) ?_
    refine lv_iconst (v := 1) hx hb dX1_isStowed_12 (by decide) ?_
    refine lv_iadd hx hb dX1_isStowed_13 ?_
    refine lv_topi (fun x_3 ex_3 => ?_)
    obtain rfl : x_3 = nI (k0 + 1) := ex_3.trans (nI_add k0 1)
    refine lv_bipush (v := 24) hx hb dX1_isStowed_14 (by decide) ?_
    refine lv_icmp_ge (tgt := 36) hx hb dX1_isStowed_16 (by decide) (fun c_4 => ?_) (fun c_4 => ?_)
    · have c_4 : 24 ≤ (k0 + 1) := (nI_leI (a := 24) (b := k0 + 1) (by omega) (by omega)).mp c_4
      refine lv_iconst (v := 0) hx hb dX1_isStowed_36 (by decide) ?_
      exact hret 0 () H locs 37 ls rfl dX1_isStowed_37 (by first | rfl | (simp []; done) | (exfalso; omega)) (hP) (hD) hS
    · have c_4 : ¬ 24 ≤ (k0 + 1) := fun h => c_4 ((nI_leI (a := 24) (b := k0 + 1) (by omega) (by omega)).mpr h)
      refine lv_aload_n hx hb dX1_isStowed_19 rfl (lv_at hl 0 rfl) ?_
      refine va_get (D := (dC, dI)) (ci := 1) (v := .ref (h 13)) (C := RX1) (T := TX1) (N := 11) hx hb hts hin_X1 hown hK hP 1 rfl rfl 9 (by decide) hw0 (fun _ h9 => h9) rfl dX1_isStowed_20 ?_
      refine lv_iload_n hx hb dX1_isStowed_23 rfl (lv_at hl 1 rfl) ?_
      refine lv_iconst (v := 1) hx hb dX1_isStowed_24 (by decide) ?_
      refine lv_iadd hx hb dX1_isStowed_25 ?_
      refine lv_topi (fun x_5 ex_5 => ?_)
      obtain rfl : x_5 = nI (k0 + 1) := ex_5.trans (nI_add k0 1)
      refine va_iald hx hb hK hP 13 0 rfl rfl (vp_in_nI (n := k0 + 1) (N := 24) (by omega) (by decide)) dX1_isStowed_26 ?_
      refine lv_topi (fun x_6 ex_6 => ?_)
      obtain rfl : x_6 = 0 := ex_6.trans ((congrArg (F 13) (show (nI (k0 + 1)).toNatClampNeg = (k0 + 1) from nI_clamp (n := k0 + 1) (by omega))).trans (hF13 (k0 + 1) (by omega)))
      refine lv_bipush (v := 50) hx hb dX1_isStowed_27 (by decide) ?_
      refine lv_icmp_le (tgt := 36) hx hb dX1_isStowed_29 (by decide) (fun c_7 => ?_) (fun c_7 => ?_)
      · refine lv_iconst (v := 0) hx hb dX1_isStowed_36 (by decide) ?_
        exact hret 0 () H locs 37 ls rfl dX1_isStowed_37 (by first | rfl | (simp []; done) | (exfalso; omega)) (hP) (hD) hS
      · exact absurd c_7 (by decide)
def rm_X1_soilInAll : Room := { frames := 0, cells := 0, slots := 0, locals := 0 }
set_option maxHeartbeats 4000000 in
set_option maxRecDepth 100000 in
theorem c_X1_soilInAll (l : Launch) (dC : Nat → ClassId) (dI : Nat → Nat → Nat) (cI cZ cJ : ClassId) (h : Nat → Nat) (F : Nat → Nat → Int32) (V : Nat → Int32)  (hV1 : V 1 = 0) : CtI l (dC, dI) vwCl (tys3 cI cZ cJ) yX1_soilInAll wsX1_soilInAll rm_X1_soilInAll [.ref (h 1)] (wC cI cZ h F V) (S := Unit) (fun r _ => r = 0) (fun _ => wC cI cZ h F V) 0 0 := by
  refine ct_I (cc := cX1_soilInAll) (maxL := 3) (ty := .int) (own := RX1) (by decide) rfl rfl (Nat.le_of_ble_eq_true rfl) (lv := [(0, .ref (h 1))]) rfl ?_
  intro p e s m args below meth c A Q ls fx hK hP hD hA hl hret
  obtain ⟨hx, hb, hml, hown, hts⟩ := id fx
  have hS : va_S A s.heap s.heap [] := va_S.rf
  have hw0 := hts (.fieldLink RX1 43 "MirrorTower$Field" "size" "I") (by decide +kernel)
  have hin_X1 : ∀ w ∈ u_ws RX1 TX1 11, w ∈ wsX1_soilInAll := by decide +kernel
  obtain ⟨H, hH⟩ : ∃ H, H = s.heap := ⟨_, rfl⟩
  rw [← hH] at hP ⊢
  have hS : va_S A s.heap H [] := by rw [hH]; exact hS
  generalize ([] : List Loc) = locs at hS ⊢
  refine lv_iconst (v := 0) hx hb dX1_soilInAll_0 (by decide) ?_
  refine lv_istore_n (lv' := [(1, .int 0), (0, .ref (h 1))]) hx hb dX1_soilInAll_1 rfl hl (by decide) rfl (fun ls hl => ?_)
  refine lv_iconst (v := 0) hx hb dX1_soilInAll_2 (by decide) ?_
  refine lv_istore_n (lv' := [(2, .int 0), (1, .int 0), (0, .ref (h 1))]) hx hb dX1_soilInAll_3 rfl hl (by decide) rfl (fun ls hl => ?_)
  refine lv_iload_n hx hb dX1_soilInAll_4 rfl (lv_at hl 0 rfl) ?_
  refine lv_aload_n hx hb dX1_soilInAll_5 rfl (lv_at hl 2 rfl) ?_
  refine va_get (D := (dC, dI)) (ci := 1) (v := .int (V 1)) (C := RX1) (T := TX1) (N := 11) hx hb hts hin_X1 hown hK hP 1 rfl rfl 5 (by decide) hw0 (fun _ h9 => h9) rfl dX1_soilInAll_6 ?_
  refine lv_topi (fun x_1 ex_1 => ?_)
  obtain rfl : x_1 = 0 := ex_1.trans (hV1)
  refine lv_icmp_ge (tgt := 27) hx hb dX1_soilInAll_9 (by decide) (fun c_2 => ?_) (fun c_2 => ?_)
  · refine lv_iload_n hx hb dX1_soilInAll_27 rfl (lv_at hl 1 rfl) ?_
    exact hret 0 () H locs 28 ls rfl dX1_soilInAll_28 (by first | rfl | (simp []; done) | (exfalso; omega)) (hP) (hD) hS
  · exact absurd c_2 (by decide)
def rm_X1_growSoil : Room := { frames := 0, cells := 0, slots := 0, locals := 0 }
set_option maxHeartbeats 4000000 in
set_option maxRecDepth 100000 in
theorem c_X1_growSoil (l : Launch) (dC : Nat → ClassId) (dI : Nat → Nat → Nat) (cI cZ cJ : ClassId) (h : Nat → Nat) (F : Nat → Nat → Int32) (V : Nat → Int32)  (hV1 : V 1 = 0) : CtV l (dC, dI) vwCl (tys3 cI cZ cJ) yX1_growSoil wsX1_growSoil rm_X1_growSoil [.ref (h 1)] (wC cI cZ h F V) (S := Unit) (fun _ => True) (fun _ => wC cI cZ h F V) 0 0 := by
  refine ct_V (cc := cX1_growSoil) (maxL := 2) (own := RX1) (by decide) rfl rfl (Nat.le_of_ble_eq_true rfl) (lv := [(0, .ref (h 1))]) rfl ?_
  intro p e s m args below meth c A Q ls hnm fx hK hP hD hA hl hret
  obtain ⟨hx, hb, hml, hown, hts⟩ := id fx
  have hS : va_S A s.heap s.heap [] := va_S.rf
  have hw0 := hts (.fieldLink RX1 43 "MirrorTower$Field" "size" "I") (by decide +kernel)
  have hin_X1 : ∀ w ∈ u_ws RX1 TX1 11, w ∈ wsX1_growSoil := by decide +kernel
  obtain ⟨H, hH⟩ : ∃ H, H = s.heap := ⟨_, rfl⟩
  rw [← hH] at hP ⊢
  have hS : va_S A s.heap H [] := by rw [hH]; exact hS
  generalize ([] : List Loc) = locs at hS ⊢
  refine lv_iconst (v := 0) hx hb dX1_growSoil_0 (by decide) ?_
  refine lv_istore_n (lv' := [(1, .int 0), (0, .ref (h 1))]) hx hb dX1_growSoil_1 rfl hl (by decide) rfl (fun ls hl => ?_)
  refine lv_iload_n hx hb dX1_growSoil_2 rfl (lv_at hl 0 rfl) ?_
  refine lv_aload_n hx hb dX1_growSoil_3 rfl (lv_at hl 1 rfl) ?_
  refine va_get (D := (dC, dI)) (ci := 1) (v := .int (V 1)) (C := RX1) (T := TX1) (N := 11) hx hb hts hin_X1 hown hK hP 1 rfl rfl 5 (by decide) hw0 (fun _ h9 => h9) rfl dX1_growSoil_4 ?_
  refine lv_topi (fun x_1 ex_1 => ?_)
  obtain rfl : x_1 = 0 := ex_1.trans (hV1)
  refine lv_icmp_ge (tgt := 28) hx hb dX1_growSoil_7 (by decide) (fun c_2 => ?_) (fun c_2 => ?_)
  · exact hret () H locs 28 ls dX1_growSoil_28 (trivial) (hP) (hD) hS
  · exact absurd c_2 (by decide)
def rm_X1_washMost : Room := { frames := 1, cells := 0, slots := 0, locals := 13 }
set_option maxHeartbeats 4000000 in
set_option maxRecDepth 100000 in
theorem c_X1_washMost (l : Launch) (dC : Nat → ClassId) (dI : Nat → Nat → Nat) (cI cZ cJ : ClassId) (h : Nat → Nat) (F : Nat → Nat → Int32) (V : Nat → Int32) (k0 : Nat) (hk0 : k0 ≤ 40) (hV1 : V 1 = 0) : CtI l (dC, dI) vwCl (tys3 cI cZ cJ) yX1_washMost wsX1_washMost rm_X1_washMost [.ref (h 1), .int (nI k0)] (wC cI cZ h F V) (S := Unit) (fun r _ => r = 0) (fun _ => wC cI cZ h F V) 0 0 := by
  refine ct_I (cc := cX1_washMost) (maxL := 5) (ty := .int) (own := RX1) (by decide) rfl rfl (Nat.le_of_ble_eq_true rfl) (lv := [(0, .ref (h 1)), (1, .int (nI k0))]) rfl ?_
  intro p e s m args below meth c A Q ls fx hK hP hD hA hl hret
  obtain ⟨hx, hb, hml, hown, hts⟩ := id fx
  have hS : va_S A s.heap s.heap [] := va_S.rf
  have hw0 := hts (.fieldLink RX1 43 "MirrorTower$Field" "size" "I") (by decide +kernel)
  have hin_X1 : ∀ w ∈ u_ws RX1 TX1 11, w ∈ wsX1_washMost := by decide +kernel
  have hw2 := hts (.methodLink RX1 66 Lib.Math.min.name) (by decide +kernel)
  have hw3 := hts (.static Lib.Math.min.name) (by decide +kernel)
  have hw4 := hts (.initialized "java/lang/Math") (by decide +kernel)
  have hw5 := hts (.code Lib.Math.min.name Lib.Math.min.code 2 (some .int)) (by decide +kernel)
  obtain ⟨H, hH⟩ : ∃ H, H = s.heap := ⟨_, rfl⟩
  rw [← hH] at hP ⊢
  have hS : va_S A s.heap H [] := by rw [hH]; exact hS
  generalize ([] : List Loc) = locs at hS ⊢
  refine lv_iconst (v := 0) hx hb dX1_washMost_0 (by decide) ?_
  refine lv_istore_n (lv' := [(2, .int 0), (0, .ref (h 1)), (1, .int (nI k0))]) hx hb dX1_washMost_1 rfl hl (by decide) rfl (fun ls hl => ?_)
  refine lv_iload_n hx hb dX1_washMost_2 rfl (lv_at hl 2 rfl) ?_
  refine lv_aload_n hx hb dX1_washMost_3 rfl (lv_at hl 1 rfl) ?_
  refine va_get (D := (dC, dI)) (ci := 1) (v := .int (V 1)) (C := RX1) (T := TX1) (N := 11) hx hb hts hin_X1 hown hK hP 1 rfl rfl 5 (by decide) hw0 (fun _ h9 => h9) rfl dX1_washMost_4 ?_
  refine lv_topi (fun x_1 ex_1 => ?_)
  obtain rfl : x_1 = 0 := ex_1.trans (hV1)
  refine va_mmin hx hb (hml.trans hl.1.symm) hown hw2 hw3 hw4 hw5 (Nat.le_of_ble_eq_true rfl) (Nat.le_of_ble_eq_true rfl) (Nat.le_of_ble_eq_true rfl) (Nat.le_of_ble_eq_true rfl) dX1_washMost_7 ?_
  refine lv_topi (fun x_2 ex_2 => ?_)
  obtain rfl : x_2 = nI (min k0 0) := ex_2.trans (mm_min (a := k0) (b := 0) (by omega) (by omega))
  refine lv_istore_n (lv' := [(3, .int (nI (min k0 0))), (2, .int 0), (0, .ref (h 1)), (1, .int (nI k0))]) hx hb dX1_washMost_10 rfl hl (by decide) rfl (fun ls hl => ?_)
  refine lv_iload_n hx hb dX1_washMost_11 rfl (lv_at hl 0 rfl) ?_
  refine lv_if_le (tgt := 45) hx hb dX1_washMost_12 (by decide) (fun c_3 => ?_) (fun c_3 => ?_)
  · have c_3 : (min k0 0) ≤ 0 := (nI_leI (a := min k0 0) (b := 0) (by omega) (by omega)).mp c_3
    refine lv_iload_n hx hb dX1_washMost_45 rfl (lv_at hl 1 rfl) ?_
    exact hret 0 () H locs 46 ls rfl dX1_washMost_46 (by first | rfl | (simp []; done) | (exfalso; omega)) (hP) (hD) hS
  · exact absurd ((nI_leI (a := min k0 0) (b := 0) (by omega) (by omega)).mpr (by omega)) c_3
