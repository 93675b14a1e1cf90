def rm_X5_in : Room := { frames := 0, cells := 0, slots := 0, locals := 0 }
set_option maxHeartbeats 4000000 in
set_option maxRecDepth 100000 in
theorem c_X5_in (l : Launch) (dC : Nat → ClassId) (dI : Nat → Nat → Nat) (cI cZ cJ : ClassId) (w : va_W) (p0 p1 p2 : Int32)  : CtI l (dC, dI) vwCl (tys3 cI cZ cJ) yX5_in wsX5_in rm_X5_in [.int p0, .int p1, .int p2] (w) (S := Unit) (fun r _ => r = bI (isW p0 p1 p2)) (fun _ => w) 0 0 := by
  refine ct_I (cc := cX5_in) (maxL := 3) (ty := .boolean) (own := RX5) (by decide) rfl rfl (Nat.le_of_ble_eq_true rfl) (lv := [(0, .int p0), (1, .int p1), (2, .int p2)]) rfl ?_
  intro p e s m args below meth c A Q ls fx hK hP hD hA hl hret
  obtain ⟨hx, hb, hml, hown, hts⟩ := id fx
  have hS : va_S A s.heap s.heap [] := va_S.rf
  obtain ⟨H, hH⟩ : ∃ H, H = s.heap := ⟨_, rfl⟩
  rw [← hH] at hP ⊢
  have hS : va_S A s.heap H [] := by rw [hH]; exact hS
  generalize ([] : List Loc) = locs at hS ⊢
  refine lv_iload_n hx hb dX5_in_0 rfl (lv_at hl 0 rfl) ?_
  refine lv_iload_n hx hb dX5_in_1 rfl (lv_at hl 1 rfl) ?_
  refine lv_icmp_lt (tgt := 14) hx hb dX5_in_2 (by decide) (fun c_1 => ?_) (fun c_1 => ?_)
  · have c_1 : ltI p0 p1 = true := decide_eq_true c_1
    refine lv_iconst (v := 0) hx hb dX5_in_14 (by decide) ?_
    exact hret 0 () H locs 15 ls rfl dX5_in_15 (by first | rfl | (simp [isW, bI, c_1]; done) | (exfalso; omega)) (hP) (hD) hS
  · have c_1 : ltI p0 p1 = false := decide_eq_false c_1
    refine lv_iload_n hx hb dX5_in_5 rfl (lv_at hl 0 rfl) ?_
    refine lv_iload_n hx hb dX5_in_6 rfl (lv_at hl 2 rfl) ?_
    refine lv_icmp_gt (tgt := 14) hx hb dX5_in_7 (by decide) (fun c_2 => ?_) (fun c_2 => ?_)
    · have c_2 : ltI p2 p0 = true := decide_eq_true c_2
      refine lv_iconst (v := 0) hx hb dX5_in_14 (by decide) ?_
      exact hret 0 () H locs 15 ls rfl dX5_in_15 (by first | rfl | (simp [isW, bI, c_1, c_2]; done) | (exfalso; omega)) (hP) (hD) hS
    · have c_2 : ltI p2 p0 = false := decide_eq_false c_2
      refine lv_iconst (v := 1) hx hb dX5_in_10 (by decide) ?_
      refine lv_goto (tgt := 15) hx hb dX5_in_11 (by decide) ?_
      exact hret 1 () H locs 15 ls rfl dX5_in_15 (by first | rfl | (simp [isW, bI, c_1, c_2]; done) | (exfalso; omega)) (hP) (hD) hS
def rm_X5_isHour : Room := { frames := 0, cells := 0, slots := 0, locals := 0 }
set_option maxHeartbeats 4000000 in
set_option maxRecDepth 100000 in
theorem c_X5_isHour (l : Launch) (dC : Nat → ClassId) (dI : Nat → Nat → Nat) (cI cZ cJ : ClassId) (w : va_W) (p0 : Int32)  : CtI l (dC, dI) vwCl (tys3 cI cZ cJ) yX5_isHour wsX5_isHour rm_X5_isHour [.int p0] (w) (S := Unit) (fun r _ => r = bI (isW p0 0 23)) (fun _ => w) 0 0 := by
  refine ct_I (cc := cX5_isHour) (maxL := 1) (ty := .boolean) (own := RX5) (by decide) rfl rfl (Nat.le_of_ble_eq_true rfl) (lv := [(0, .int p0)]) rfl ?_
  intro p e s m args below meth c A Q ls fx hK hP hD hA hl hret
  obtain ⟨hx, hb, hml, hown, hts⟩ := id fx
  have hS : va_S A s.heap s.heap [] := va_S.rf
  obtain ⟨H, hH⟩ : ∃ H, H = s.heap := ⟨_, rfl⟩
  rw [← hH] at hP ⊢
  have hS : va_S A s.heap H [] := by rw [hH]; exact hS
  generalize ([] : List Loc) = locs at hS ⊢
  refine lv_iload_n hx hb dX5_isHour_0 rfl (lv_at hl 0 rfl) ?_
  refine lv_if_lt (tgt := 14) hx hb dX5_isHour_1 (by decide) (fun c_1 => ?_) (fun c_1 => ?_)
  · have c_1 : ltI p0 0 = true := decide_eq_true c_1
    refine lv_iconst (v := 0) hx hb dX5_isHour_14 (by decide) ?_
    exact hret 0 () H locs 15 ls rfl dX5_isHour_15 (by first | rfl | (simp [isW, bI, ltI_24, c_1]; done) | (exfalso; omega)) (hP) (hD) hS
  · have c_1 : ltI p0 0 = false := decide_eq_false c_1
    refine lv_iload_n hx hb dX5_isHour_4 rfl (lv_at hl 0 rfl) ?_
    refine lv_bipush (v := 24) hx hb dX5_isHour_5 (by decide) ?_
    refine lv_icmp_ge (tgt := 14) hx hb dX5_isHour_7 (by decide) (fun c_2 => ?_) (fun c_2 => ?_)
    · have c_2 : ltI p0 24 = false := decide_eq_false (Int32.not_lt.mpr c_2)
      refine lv_iconst (v := 0) hx hb dX5_isHour_14 (by decide) ?_
      exact hret 0 () H locs 15 ls rfl dX5_isHour_15 (by first | rfl | (simp [isW, bI, ltI_24, c_1, c_2]; done) | (exfalso; omega)) (hP) (hD) hS
    · have c_2 : ltI p0 24 = true := decide_eq_true (Int32.not_le.mp c_2)
      refine lv_iconst (v := 1) hx hb dX5_isHour_10 (by decide) ?_
      refine lv_goto (tgt := 15) hx hb dX5_isHour_11 (by decide) ?_
      exact hret 1 () H locs 15 ls rfl dX5_isHour_15 (by first | rfl | (simp [isW, bI, ltI_24, c_1, c_2]; done) | (exfalso; omega)) (hP) (hD) hS
def rm_X5_refused : Room := { frames := 0, cells := 0, slots := 0, locals := 0 }
set_option maxHeartbeats 4000000 in
set_option maxRecDepth 100000 in
theorem c_X5_refused (l : Launch) (dC : Nat → ClassId) (dI : Nat → Nat → Nat) (cI cZ cJ : ClassId) (h : Nat → Nat) (F : Nat → Nat → Int32) (G : Nat → Int64) (V : Nat → Int32) (p0 : Int32)  : CtI l (dC, dI) vwCl (tys3 cI cZ cJ) yX5_refused wsX5_refused rm_X5_refused [.ref (h 0), .int p0] (wM cI cZ cJ h F G V) (S := Unit) (fun r _ => r = (-1)) (fun _ => wM cI cZ cJ h F G (va_up V 1 p0)) 0 0 := by
  refine ct_I (cc := cX5_refused) (maxL := 2) (ty := .int) (own := RX5) (by decide) rfl rfl (Nat.le_of_ble_eq_true rfl) (lv := [(0, .ref (h 0)), (1, .int p0)]) rfl ?_
  intro p e s m args below meth c A Q ls fx hK hP hD hA hl hret
  obtain ⟨hx, hb, hml, hown, hts⟩ := id fx
  have hS : va_S A s.heap s.heap [] := va_S.rf
  have hw0 := hts (.fieldLink RX5 7 "MirrorTowerModel" "trouble" "I") (by decide +kernel)
  have hin_X5 : ∀ w ∈ u_ws RX5 TX5 33, w ∈ wsX5_refused := by decide +kernel
  obtain ⟨H, hH⟩ : ∃ H, H = s.heap := ⟨_, rfl⟩
  rw [← hH] at hP ⊢
  have hS : va_S A s.heap H [] := by rw [hH]; exact hS
  generalize ([] : List Loc) = locs at hS ⊢
  refine lv_aload_n hx hb dX5_refused_0 rfl (lv_at hl 0 rfl) ?_
  refine lv_iload_n hx hb dX5_refused_1 rfl (lv_at hl 1 rfl) ?_
  refine va_put (D := (dC, dI)) (ci := 5) (v := .int p0) (ty := .int) (C := RX5) (T := TX5) (N := 33) hx hb hts hin_X5 tyX5 tyX5_ok nmX5 hown hK hP hD hS 0 rfl rfl 1 (by decide) hw0 (fun _ h9 => h9) rfl (by decide +kernel) rfl rfl (Nat.le_of_ble_eq_true rfl) dX5_refused_2 (fun H locs hP hD hS => ?_)
  have hP : va_P (dC, dI) vwCl (wM cI cZ cJ h F G (va_up V 1 p0)) H := hP
  have hD : va_D A (wM cI cZ cJ h F G (va_up V 1 p0)) := hD
  refine lv_iconst (v := (-1)) hx hb dX5_refused_5 (by decide) ?_
  exact hret (-1) () H locs 6 ls rfl dX5_refused_6 (by first | rfl | (simp []; done) | (exfalso; omega)) (hP) (hD) hS
def rm_X5_denied : Room := { frames := 0, cells := 0, slots := 0, locals := 0 }
set_option maxHeartbeats 4000000 in
set_option maxRecDepth 100000 in
theorem c_X5_denied (l : Launch) (dC : Nat → ClassId) (dI : Nat → Nat → Nat) (cI cZ cJ : ClassId) (h : Nat → Nat) (F : Nat → Nat → Int32) (G : Nat → Int64) (V : Nat → Int32) (p0 : Int32)  : CtI l (dC, dI) vwCl (tys3 cI cZ cJ) yX5_denied wsX5_denied rm_X5_denied [.ref (h 0), .int p0] (wM cI cZ cJ h F G V) (S := Unit) (fun r _ => r = 0) (fun _ => wM cI cZ cJ h F G (va_up V 1 p0)) 0 0 := by
  refine ct_I (cc := cX5_denied) (maxL := 2) (ty := .boolean) (own := RX5) (by decide) rfl rfl (Nat.le_of_ble_eq_true rfl) (lv := [(0, .ref (h 0)), (1, .int p0)]) rfl ?_
  intro p e s m args below meth c A Q ls fx hK hP hD hA hl hret
  obtain ⟨hx, hb, hml, hown, hts⟩ := id fx
  have hS : va_S A s.heap s.heap [] := va_S.rf
  have hw0 := hts (.fieldLink RX5 7 "MirrorTowerModel" "trouble" "I") (by decide +kernel)
  have hin_X5 : ∀ w ∈ u_ws RX5 TX5 33, w ∈ wsX5_denied := by decide +kernel
  obtain ⟨H, hH⟩ : ∃ H, H = s.heap := ⟨_, rfl⟩
  rw [← hH] at hP ⊢
  have hS : va_S A s.heap H [] := by rw [hH]; exact hS
  generalize ([] : List Loc) = locs at hS ⊢
  refine lv_aload_n hx hb dX5_denied_0 rfl (lv_at hl 0 rfl) ?_
  refine lv_iload_n hx hb dX5_denied_1 rfl (lv_at hl 1 rfl) ?_
  refine va_put (D := (dC, dI)) (ci := 5) (v := .int p0) (ty := .int) (C := RX5) (T := TX5) (N := 33) hx hb hts hin_X5 tyX5 tyX5_ok nmX5 hown hK hP hD hS 0 rfl rfl 1 (by decide) hw0 (fun _ h9 => h9) rfl (by decide +kernel) rfl rfl (Nat.le_of_ble_eq_true rfl) dX5_denied_2 (fun H locs hP hD hS => ?_)
  have hP : va_P (dC, dI) vwCl (wM cI cZ cJ h F G (va_up V 1 p0)) H := hP
  have hD : va_D A (wM cI cZ cJ h F G (va_up V 1 p0)) := hD
  refine lv_iconst (v := 0) hx hb dX5_denied_5 (by decide) ?_
  exact hret 0 () H locs 6 ls rfl dX5_denied_6 (by first | rfl | (simp []; done) | (exfalso; omega)) (hP) (hD) hS
def rm_X5_done : Room := { frames := 0, cells := 0, slots := 0, locals := 0 }
set_option maxHeartbeats 4000000 in
set_option maxRecDepth 100000 in
theorem c_X5_done (l : Launch) (dC : Nat → ClassId) (dI : Nat → Nat → Nat) (cI cZ cJ : ClassId) (h : Nat → Nat) (F : Nat → Nat → Int32) (G : Nat → Int64) (V : Nat → Int32) (p0 : Int32)  : CtI l (dC, dI) vwCl (tys3 cI cZ cJ) yX5_done wsX5_done rm_X5_done [.ref (h 0), .int p0] (wM cI cZ cJ h F G V) (S := Unit) (fun r _ => r = p0) (fun _ => wM cI cZ cJ h F G (va_up V 1 0)) 0 0 := by
  refine ct_I (cc := cX5_done) (maxL := 2) (ty := .int) (own := RX5) (by decide) rfl rfl (Nat.le_of_ble_eq_true rfl) (lv := [(0, .ref (h 0)), (1, .int p0)]) rfl ?_
  intro p e s m args below meth c A Q ls fx hK hP hD hA hl hret
  obtain ⟨hx, hb, hml, hown, hts⟩ := id fx
  have hS : va_S A s.heap s.heap [] := va_S.rf
  have hw0 := hts (.fieldLink RX5 7 "MirrorTowerModel" "trouble" "I") (by decide +kernel)
  have hin_X5 : ∀ w ∈ u_ws RX5 TX5 33, w ∈ wsX5_done := by decide +kernel
  obtain ⟨H, hH⟩ : ∃ H, H = s.heap := ⟨_, rfl⟩
  rw [← hH] at hP ⊢
  have hS : va_S A s.heap H [] := by rw [hH]; exact hS
  generalize ([] : List Loc) = locs at hS ⊢
  refine lv_aload_n hx hb dX5_done_0 rfl (lv_at hl 0 rfl) ?_
  refine lv_iconst (v := 0) hx hb dX5_done_1 (by decide) ?_
  refine va_put (D := (dC, dI)) (ci := 5) (v := .int 0) (ty := .int) (C := RX5) (T := TX5) (N := 33) hx hb hts hin_X5 tyX5 tyX5_ok nmX5 hown hK hP hD hS 0 rfl rfl 1 (by decide) hw0 (fun _ h9 => h9) rfl (by decide +kernel) rfl rfl (Nat.le_of_ble_eq_true rfl) dX5_done_2 (fun H locs hP hD hS => ?_)
  have hP : va_P (dC, dI) vwCl (wM cI cZ cJ h F G (va_up V 1 0)) H := hP
  have hD : va_D A (wM cI cZ cJ h F G (va_up V 1 0)) := hD
  refine lv_iload_n hx hb dX5_done_5 rfl (lv_at hl 1 rfl) ?_
  exact hret p0 () H locs 6 ls rfl dX5_done_6 (by first | rfl | (simp []; done) | (exfalso; omega)) (hP) (hD) hS
def rm_X5_granted : Room := { frames := 0, cells := 0, slots := 0, locals := 0 }
set_option maxHeartbeats 4000000 in
set_option maxRecDepth 100000 in
theorem c_X5_granted (l : Launch) (dC : Nat → ClassId) (dI : Nat → Nat → Nat) (cI cZ cJ : ClassId) (h : Nat → Nat) (F : Nat → Nat → Int32) (G : Nat → Int64) (V : Nat → Int32)   : CtI l (dC, dI) vwCl (tys3 cI cZ cJ) yX5_granted wsX5_granted rm_X5_granted [.ref (h 0)] (wM cI cZ cJ h F G V) (S := Unit) (fun r _ => r = 1) (fun _ => wM cI cZ cJ h F G (va_up V 1 0)) 0 0 := by
  refine ct_I (cc := cX5_granted) (maxL := 1) (ty := .boolean) (own := RX5) (by decide) rfl rfl (Nat.le_of_ble_eq_true rfl) (lv := [(0, .ref (h 0))]) rfl ?_
  intro p e s m args below meth c A Q ls fx hK hP hD hA hl hret
  obtain ⟨hx, hb, hml, hown, hts⟩ := id fx
  have hS : va_S A s.heap s.heap [] := va_S.rf
  have hw0 := hts (.fieldLink RX5 7 "MirrorTowerModel" "trouble" "I") (by decide +kernel)
  have hin_X5 : ∀ w ∈ u_ws RX5 TX5 33, w ∈ wsX5_granted := by decide +kernel
  obtain ⟨H, hH⟩ : ∃ H, H = s.heap := ⟨_, rfl⟩
  rw [← hH] at hP ⊢
  have hS : va_S A s.heap H [] := by rw [hH]; exact hS
  generalize ([] : List Loc) = locs at hS ⊢
  refine lv_aload_n hx hb dX5_granted_0 rfl (lv_at hl 0 rfl) ?_
  refine lv_iconst (v := 0) hx hb dX5_granted_1 (by decide) ?_
  refine va_put (D := (dC, dI)) (ci := 5) (v := .int 0) (ty := .int) (C := RX5) (T := TX5) (N := 33) hx hb hts hin_X5 tyX5 tyX5_ok nmX5 hown hK hP hD hS 0 rfl rfl 1 (by decide) hw0 (fun _ h9 => h9) rfl (by decide +kernel) rfl rfl (Nat.le_of_ble_eq_true rfl) dX5_granted_2 (fun H locs hP hD hS => ?_)
  have hP : va_P (dC, dI) vwCl (wM cI cZ cJ h F G (va_up V 1 0)) H := hP
  have hD : va_D A (wM cI cZ cJ h F G (va_up V 1 0)) := hD
  refine lv_iconst (v := 1) hx hb dX5_granted_5 (by decide) ?_
  exact hret 1 () H locs 6 ls rfl dX5_granted_6 (by first | rfl | (simp []; done) | (exfalso; omega)) (hP) (hD) hS
def rm_X5_isMirror : Room := { frames := 0, cells := 0, slots := 0, locals := 0 }
set_option maxHeartbeats 4000000 in
set_option maxRecDepth 100000 in
theorem c_X5_isMirror (l : Launch) (dC : Nat → ClassId) (dI : Nat → Nat → Nat) (cI cZ cJ : ClassId) (h : Nat → Nat) (F : Nat → Nat → Int32) (G : Nat → Int64) (V : Nat → Int32) (p0 : Int32) (hV2 : V 2 = 0) : CtI l (dC, dI) vwCl (tys3 cI cZ cJ) yX5_isMirror wsX5_isMirror rm_X5_isMirror [.ref (h 0), .int p0] (wM cI cZ cJ h F G V) (S := Unit) (fun r _ => r = 0) (fun _ => wM cI cZ cJ h F G V) 0 0 := by
  refine ct_I (cc := cX5_isMirror) (maxL := 2) (ty := .boolean) (own := RX5) (by decide) rfl rfl (Nat.le_of_ble_eq_true rfl) (lv := [(0, .ref (h 0)), (1, .int p0)]) rfl ?_
  intro p e s m args below meth c A Q ls fx hK hP hD hA hl hret
  obtain ⟨hx, hb, hml, hown, hts⟩ := id fx
  have hS : va_S A s.heap s.heap [] := va_S.rf
  have hw0 := hts (.fieldLink RX5 91 "MirrorTowerModel" "mirrors" "I") (by decide +kernel)
  have hin_X5 : ∀ w ∈ u_ws RX5 TX5 33, w ∈ wsX5_isMirror := by decide +kernel
  obtain ⟨H, hH⟩ : ∃ H, H = s.heap := ⟨_, rfl⟩
  rw [← hH] at hP ⊢
  have hS : va_S A s.heap H [] := by rw [hH]; exact hS
  generalize ([] : List Loc) = locs at hS ⊢
  refine lv_iload_n hx hb dX5_isMirror_0 rfl (lv_at hl 1 rfl) ?_
  refine lv_if_lt (tgt := 16) hx hb dX5_isMirror_1 (by decide) (fun c_1 => ?_) (fun c_1 => ?_)
  · have c_1 : ltI p0 0 = true := decide_eq_true c_1
    refine lv_iconst (v := 0) hx hb dX5_isMirror_16 (by decide) ?_
    exact hret 0 () H locs 17 ls rfl dX5_isMirror_17 (by first | rfl | (simp [c_1]; done) | (exfalso; omega)) (hP) (hD) hS
  · have c_1 : ltI p0 0 = false := decide_eq_false c_1
    refine lv_iload_n hx hb dX5_isMirror_4 rfl (lv_at hl 1 rfl) ?_
    refine lv_aload_n hx hb dX5_isMirror_5 rfl (lv_at hl 0 rfl) ?_
    refine va_get (D := (dC, dI)) (ci := 5) (v := .int (V 2)) (C := RX5) (T := TX5) (N := 33) hx hb hts hin_X5 hown hK hP 0 rfl rfl 2 (by decide) hw0 (fun _ h9 => h9) rfl dX5_isMirror_6 ?_
    refine lv_topi (fun x_2 ex_2 => ?_)
    obtain rfl : x_2 = 0 := ex_2.trans (hV2)
    refine lv_icmp_ge (tgt := 16) hx hb dX5_isMirror_9 (by decide) (fun c_3 => ?_) (fun c_3 => ?_)
    · have c_3 : ltI p0 0 = false := decide_eq_false (Int32.not_lt.mpr c_3)
      refine lv_iconst (v := 0) hx hb dX5_isMirror_16 (by decide) ?_
      exact hret 0 () H locs 17 ls rfl dX5_isMirror_17 (by first | rfl | (simp [c_1, c_3]; done) | (exfalso; omega)) (hP) (hD) hS
    · exact absurd (Int32.not_le.mp c_3) (of_decide_eq_false c_1)
def rm_X5_isStowed : Room := { frames := 0, cells := 0, slots := 0, locals := 0 }
set_option maxHeartbeats 4000000 in
set_option maxRecDepth 100000 in
theorem c_X5_isStowed (l : Launch) (dC : Nat → ClassId) (dI : Nat → Nat → Nat) (cI cZ cJ : ClassId) (h : Nat → Nat) (F : Nat → Nat → Int32) (G : Nat → Int64) (V : Nat → Int32) (k0 : Nat) (hk0 : k0 < 24)  (hF8 : ∀ i, i < 24 → F 8 i = 0) : CtI l (dC, dI) vwCl (tys3 cI cZ cJ) yX5_isStowed wsX5_isStowed rm_X5_isStowed [.ref (h 0), .int (nI k0)] (wM cI cZ cJ h F G V) (S := Unit) (fun r _ => r = 0) (fun _ => wM cI cZ cJ h F G V) 0 0 := by
  refine ct_I (cc := cX5_isStowed) (maxL := 2) (ty := .boolean) (own := RX5) (by decide) rfl rfl (Nat.le_of_ble_eq_true rfl) (lv := [(0, .ref (h 0)), (1, .int (nI k0))]) rfl ?_
  intro p e s m args below meth c A Q ls fx hK hP hD hA hl hret
  obtain ⟨hx, hb, hml, hown, hts⟩ := id fx
  have hS : va_S A s.heap s.heap [] := va_S.rf
  have hw0 := hts (.fieldLink RX5 41 "MirrorTowerModel" "wind" "[I") (by decide +kernel)
  have hin_X5 : ∀ w ∈ u_ws RX5 TX5 33, w ∈ wsX5_isStowed := by decide +kernel
  obtain ⟨H, hH⟩ : ∃ H, H = s.heap := ⟨_, rfl⟩
  rw [← hH] at hP ⊢
  have hS : va_S A s.heap H [] := by rw [hH]; exact hS
  generalize ([] : List Loc) = locs at hS ⊢
  refine lv_aload_n hx hb dX5_isStowed_0 rfl (lv_at hl 0 rfl) ?_
  refine va_get (D := (dC, dI)) (ci := 5) (v := .ref (h 8)) (C := RX5) (T := TX5) (N := 33) hx hb hts hin_X5 hown hK hP 0 rfl rfl 15 (by decide) hw0 (fun _ h9 => h9) rfl dX5_isStowed_1 ?_
  refine lv_iload_n hx hb dX5_isStowed_4 rfl (lv_at hl 1 rfl) ?_
  refine va_iald hx hb hK hP 8 0 rfl rfl (vp_in_nI (n := k0) (N := 24) (by omega) (by decide)) dX5_isStowed_5 ?_
  refine lv_topi (fun x_1 ex_1 => ?_)
  obtain rfl : x_1 = 0 := ex_1.trans ((congrArg (F 8) (show (nI k0).toNatClampNeg = k0 from nI_clamp (n := k0) (by omega))).trans (hF8 k0 (by omega)))
  refine lv_bipush (v := 50) hx hb dX5_isStowed_6 (by decide) ?_
  refine lv_icmp_gt (tgt := 32) hx hb dX5_isStowed_8 (by decide) (fun c_2 => ?_) (fun c_2 => ?_)
  · exact absurd c_2 (by decide)
  · refine lv_iload_n hx hb dX5_isStowed_11 rfl (lv_at hl 1 rfl) ?_
    refine lv_iconst (v := 1) hx hb dX5_isStowed_12 (by decide) ?_
    refine lv_iadd hx hb dX5_isStowed_13 ?_
    refine lv_topi (fun x_3 ex_3 => ?_)
    obtain rfl : x_3 = nI (k0 + 1) := ex_3.trans (nI_add k0 1)
    refine lv_bipush (v := 24) hx hb dX5_isStowed_14 (by decide) ?_
    refine lv_icmp_ge (tgt := 36) hx hb dX5_isStowed_16 (by decide) (fun c_4 => ?_) (fun c_4 => ?_)
    · have c_4 : 24 ≤ (k0 + 1) := (nI_leI (a := 24) (b := k0 + 1) (by omega) (by omega)).mp c_4
      refine lv_iconst (v := 0) hx hb dX5_isStowed_36 (by decide) ?_
      exact hret 0 () H locs 37 ls rfl dX5_isStowed_37 (by first | rfl | (simp []; done) | (exfalso; omega)) (hP) (hD) hS
    · have c_4 : ¬ 24 ≤ (k0 + 1) := fun h => c_4 ((nI_leI (a := 24) (b := k0 + 1) (by omega) (by omega)).mpr h)
      refine lv_aload_n hx hb dX5_isStowed_19 rfl (lv_at hl 0 rfl) ?_
      refine va_get (D := (dC, dI)) (ci := 5) (v := .ref (h 8)) (C := RX5) (T := TX5) (N := 33) hx hb hts hin_X5 hown hK hP 0 rfl rfl 15 (by decide) hw0 (fun _ h9 => h9) rfl dX5_isStowed_20 ?_
      refine lv_iload_n hx hb dX5_isStowed_23 rfl (lv_at hl 1 rfl) ?_
      refine lv_iconst (v := 1) hx hb dX5_isStowed_24 (by decide) ?_
      refine lv_iadd hx hb dX5_isStowed_25 ?_
      refine lv_topi (fun x_5 ex_5 => ?_)
      obtain rfl : x_5 = nI (k0 + 1) := ex_5.trans (nI_add k0 1)
      refine va_iald hx hb hK hP 8 0 rfl rfl (vp_in_nI (n := k0 + 1) (N := 24) (by omega) (by decide)) dX5_isStowed_26 ?_
      refine lv_topi (fun x_6 ex_6 => ?_)
      obtain rfl : x_6 = 0 := ex_6.trans ((congrArg (F 8) (show (nI (k0 + 1)).toNatClampNeg = (k0 + 1) from nI_clamp (n := k0 + 1) (by omega))).trans (hF8 (k0 + 1) (by omega)))
      refine lv_bipush (v := 50) hx hb dX5_isStowed_27 (by decide) ?_
      refine lv_icmp_le (tgt := 36) hx hb dX5_isStowed_29 (by decide) (fun c_7 => ?_) (fun c_7 => ?_)
      · refine lv_iconst (v := 0) hx hb dX5_isStowed_36 (by decide) ?_
        exact hret 0 () H locs 37 ls rfl dX5_isStowed_37 (by first | rfl | (simp []; done) | (exfalso; omega)) (hP) (hD) hS
      · exact absurd c_7 (by decide)
def rm_X5_orders : Room := { frames := 0, cells := 0, slots := 0, locals := 0 }
set_option maxHeartbeats 4000000 in
set_option maxRecDepth 100000 in
theorem c_X5_orders (l : Launch) (dC : Nat → ClassId) (dI : Nat → Nat → Nat) (cI cZ cJ : ClassId) (h : Nat → Nat) (F : Nat → Nat → Int32) (G : Nat → Int64) (V : Nat → Int32) (p0 p1 : Int32) (hV2 : V 2 = 0) : CtV l (dC, dI) vwCl (tys3 cI cZ cJ) yX5_orders wsX5_orders rm_X5_orders [.ref (h 0), .int p0, .int p1] (wM cI cZ cJ h F G V) (S := Unit) (fun _ => True) (fun _ => wM cI cZ cJ h F G V) 0 0 := by
  refine ct_V (cc := cX5_orders) (maxL := 5) (own := RX5) (by decide) rfl rfl (Nat.le_of_ble_eq_true rfl) (lv := [(0, .ref (h 0)), (1, .int p0), (2, .int p1)]) rfl ?_
  intro p e s m args below meth c A Q ls hnm fx hK hP hD hA hl hret
  obtain ⟨hx, hb, hml, hown, hts⟩ := id fx
  have hS : va_S A s.heap s.heap [] := va_S.rf
  have hw0 := hts (.fieldLink RX5 91 "MirrorTowerModel" "mirrors" "I") (by decide +kernel)
  have hin_X5 : ∀ w ∈ u_ws RX5 TX5 33, w ∈ wsX5_orders := by decide +kernel
  obtain ⟨H, hH⟩ : ∃ H, H = s.heap := ⟨_, rfl⟩
  rw [← hH] at hP ⊢
  have hS : va_S A s.heap H [] := by rw [hH]; exact hS
  generalize ([] : List Loc) = locs at hS ⊢
  refine lv_iconst (v := 0) hx hb dX5_orders_0 (by decide) ?_
  refine lv_istore_n (lv' := [(3, .int 0), (0, .ref (h 0)), (1, .int p0), (2, .int p1)]) hx hb dX5_orders_1 rfl hl (by decide) rfl (fun ls hl => ?_)
  refine lv_iload_n hx hb dX5_orders_2 rfl (lv_at hl 0 rfl) ?_
  refine lv_aload_n hx hb dX5_orders_3 rfl (lv_at hl 1 rfl) ?_
  refine va_get (D := (dC, dI)) (ci := 5) (v := .int (V 2)) (C := RX5) (T := TX5) (N := 33) hx hb hts hin_X5 hown hK hP 0 rfl rfl 2 (by decide) hw0 (fun _ h9 => h9) rfl dX5_orders_4 ?_
  refine lv_topi (fun x_1 ex_1 => ?_)
  obtain rfl : x_1 = 0 := ex_1.trans (hV2)
  refine lv_icmp_ge (tgt := 90) hx hb dX5_orders_7 (by decide) (fun c_2 => ?_) (fun c_2 => ?_)
  · exact hret () H locs 90 ls dX5_orders_90 (trivial) (hP) (hD) hS
  · exact absurd c_2 (by decide)
def rm_X5_aims : Room := { frames := 1, cells := 0, slots := 0, locals := 24 }
set_option maxHeartbeats 4000000 in
set_option maxRecDepth 100000 in
theorem c_X5_aims (l : Launch) (dC : Nat → ClassId) (dI : Nat → Nat → Nat) (cI cZ cJ : ClassId) (h : Nat → Nat) (F : Nat → Nat → Int32) (G : Nat → Int64) (V : Nat → Int32) (p0 p1 : Int32) (hV2 : V 2 = 0) : CtI l (dC, dI) vwCl (tys3 cI cZ cJ) yX5_aims wsX5_aims rm_X5_aims [.ref (h 0), .int p0, .int p1] (wM cI cZ cJ h F G V) (S := Nat → Nat → Int32) (fun r u => r = 0 ∧ ∀ j, j ≠ 12 → u j = F j) (fun u => wM cI cZ cJ h u G V) 0 0 := by
  refine ct_I (cc := cX5_aims) (maxL := 8) (ty := .int) (own := RX5) (by decide) rfl rfl (Nat.le_of_ble_eq_true rfl) (lv := [(0, .ref (h 0)), (1, .int p0), (2, .int p1)]) rfl ?_
  intro p e s m args below meth c A Q ls fx hK hP hD hA hl hret
  obtain ⟨hx, hb, hml, hown, hts⟩ := id fx
  have hS : va_S A s.heap s.heap [] := va_S.rf
  have hw0 := hts (.fieldLink RX5 53 "MirrorTowerModel" "left" "[I") (by decide +kernel)
  have hin_X5 : ∀ w ∈ u_ws RX5 TX5 33, w ∈ wsX5_aims := by decide +kernel
  have hw2 := hts (.fieldLink RX5 29 "MirrorTowerModel" "limit" "[I") (by decide +kernel)
  have hw3 := hts (.fieldLink RX5 91 "MirrorTowerModel" "mirrors" "I") (by decide +kernel)
  obtain ⟨H, hH⟩ : ∃ H, H = s.heap := ⟨_, rfl⟩
  rw [← hH] at hP ⊢
  have hS : va_S A s.heap H [] := by rw [hH]; exact hS
  generalize ([] : List Loc) = locs at hS ⊢
  refine lv_aload_n hx hb dX5_aims_0 rfl (lv_at hl 0 rfl) ?_
  refine lv_iload_n hx hb dX5_aims_1 rfl (lv_at hl 1 rfl) ?_
  refine lv_iload_n hx hb dX5_aims_2 rfl (lv_at hl 2 rfl) ?_
  refine cw_Vv (As := [.int p0, .int p1]) (rest := []) (c_X5_orders l dC dI cI cZ cJ h F G V p0 p1 hV2) fx (cwV 2 hts gX5_aims_X5_orders rfl rfl rfl (by decide +kernel) ⟨Nat.le_of_ble_eq_true rfl, Nat.le_of_ble_eq_true rfl⟩) hK hP hD hS hA 0 rfl rfl rfl rfl hl.1 rfl (Nat.le_of_ble_eq_true rfl) dX5_aims_3 ⟨Nat.le_of_ble_eq_true rfl, Nat.le_of_ble_eq_true rfl⟩ (fun u_2 H locs hw_3 hP hD hS => ?_)
  have hP : va_P (dC, dI) vwCl (wM cI cZ cJ h F G V) H := hP
  have hD : va_D A (wM cI cZ cJ h F G V) := hD
  refine lv_iconst (v := 0) hx hb dX5_aims_6 (by decide) ?_
  refine lv_istore_n (lv' := [(3, .int 0), (0, .ref (h 0)), (1, .int p0), (2, .int p1)]) hx hb dX5_aims_7 rfl hl (by decide) rfl (fun ls hl => ?_)
  refine lv_iload_n hx hb dX5_aims_8 rfl (lv_at hl 0 rfl) ?_
  refine lv_iconst (v := 4) hx hb dX5_aims_9 (by decide) ?_
  refine lv_icmp_ge (tgt := 31) hx hb dX5_aims_10 (by decide) (fun c_4 => ?_) (fun c_4 => ?_)
  · exact absurd c_4 (by decide)
  · refine lv_aload_n hx hb dX5_aims_13 rfl (lv_at hl 1 rfl) ?_
    refine va_get (D := (dC, dI)) (ci := 5) (v := .ref (h 12)) (C := RX5) (T := TX5) (N := 33) hx hb hts hin_X5 hown hK hP 0 rfl rfl 19 (by decide) hw0 (fun _ h9 => h9) rfl dX5_aims_14 ?_
    refine lv_iload_n hx hb dX5_aims_17 rfl (lv_at hl 0 rfl) ?_
    refine lv_aload_n hx hb dX5_aims_18 rfl (lv_at hl 1 rfl) ?_
    refine va_get (D := (dC, dI)) (ci := 5) (v := .ref (h 4)) (C := RX5) (T := TX5) (N := 33) hx hb hts hin_X5 hown hK hP 0 rfl rfl 11 (by decide) hw2 (fun _ h9 => h9) rfl dX5_aims_19 ?_
    refine lv_iload_n hx hb dX5_aims_22 rfl (lv_at hl 0 rfl) ?_
    refine va_iald hx hb hK hP 4 0 rfl rfl (vp_in_nI (n := 0) (N := 4) (by decide) (by decide)) dX5_aims_23 ?_
    refine lv_topi (fun x_5 ex_5 => ?_)
    refine va_iast hx hb hK hP hD hS 12 0 rfl rfl (vp_in_nI (n := 0) (N := 4) (by decide) (by decide)) dX5_aims_24 (fun H locs hP hD hS => ?_)
    obtain ⟨F_6, eF_6⟩ : ∃ z : Nat → Nat → Int32, z = va_up F 12 (upd (F 12) (0 : Int32).toNatClampNeg x_5) := ⟨_, rfl⟩
    have hP : va_P (dC, dI) vwCl (wM cI cZ cJ h F_6 G V) H := by rw [eF_6]; exact hP
    have hD : va_D A (wM cI cZ cJ h F_6 G V) := by rw [eF_6]; exact hD
    refine lv_iinc (v := 1) (lv' := [(3, .int 1), (0, .ref (h 0)), (1, .int p0), (2, .int p1)]) hx hb dX5_aims_25 hl (k := 0) rfl (by decide) (by decide) rfl (fun ls hl => ?_)
    refine lv_goto (tgt := 8) hx hb dX5_aims_28 (by decide) ?_
    refine lv_iload_n hx hb dX5_aims_8 rfl (lv_at hl 0 rfl) ?_
    refine lv_iconst (v := 4) hx hb dX5_aims_9 (by decide) ?_
    refine lv_icmp_ge (tgt := 31) hx hb dX5_aims_10 (by decide) (fun c_7 => ?_) (fun c_7 => ?_)
    · exact absurd c_7 (by decide)
    · refine lv_aload_n hx hb dX5_aims_13 rfl (lv_at hl 1 rfl) ?_
      refine va_get (D := (dC, dI)) (ci := 5) (v := .ref (h 12)) (C := RX5) (T := TX5) (N := 33) hx hb hts hin_X5 hown hK hP 0 rfl rfl 19 (by decide) hw0 (fun _ h9 => h9) rfl dX5_aims_14 ?_
      refine lv_iload_n hx hb dX5_aims_17 rfl (lv_at hl 0 rfl) ?_
      refine lv_aload_n hx hb dX5_aims_18 rfl (lv_at hl 1 rfl) ?_
      refine va_get (D := (dC, dI)) (ci := 5) (v := .ref (h 4)) (C := RX5) (T := TX5) (N := 33) hx hb hts hin_X5 hown hK hP 0 rfl rfl 11 (by decide) hw2 (fun _ h9 => h9) rfl dX5_aims_19 ?_
      refine lv_iload_n hx hb dX5_aims_22 rfl (lv_at hl 0 rfl) ?_
      refine va_iald hx hb hK hP 4 0 rfl rfl (vp_in_nI (n := 1) (N := 4) (by decide) (by decide)) dX5_aims_23 ?_
      refine lv_topi (fun x_8 ex_8 => ?_)
      refine va_iast hx hb hK hP hD hS 12 0 rfl rfl (vp_in_nI (n := 1) (N := 4) (by decide) (by decide)) dX5_aims_24 (fun H locs hP hD hS => ?_)
      obtain ⟨F_9, eF_9⟩ : ∃ z : Nat → Nat → Int32, z = va_up F_6 12 (upd (F_6 12) (1 : Int32).toNatClampNeg x_8) := ⟨_, rfl⟩
      have hP : va_P (dC, dI) vwCl (wM cI cZ cJ h F_9 G V) H := by rw [eF_9]; exact hP
      have hD : va_D A (wM cI cZ cJ h F_9 G V) := by rw [eF_9]; exact hD
      refine lv_iinc (v := 2) (lv' := [(3, .int 2), (0, .ref (h 0)), (1, .int p0), (2, .int p1)]) hx hb dX5_aims_25 hl (k := 0) rfl (by decide) (by decide) rfl (fun ls hl => ?_)
      refine lv_goto (tgt := 8) hx hb dX5_aims_28 (by decide) ?_
      refine lv_iload_n hx hb dX5_aims_8 rfl (lv_at hl 0 rfl) ?_
      refine lv_iconst (v := 4) hx hb dX5_aims_9 (by decide) ?_
      refine lv_icmp_ge (tgt := 31) hx hb dX5_aims_10 (by decide) (fun c_10 => ?_) (fun c_10 => ?_)
      · exact absurd c_10 (by decide)
      · refine lv_aload_n hx hb dX5_aims_13 rfl (lv_at hl 1 rfl) ?_
        refine va_get (D := (dC, dI)) (ci := 5) (v := .ref (h 12)) (C := RX5) (T := TX5) (N := 33) hx hb hts hin_X5 hown hK hP 0 rfl rfl 19 (by decide) hw0 (fun _ h9 => h9) rfl dX5_aims_14 ?_
        refine lv_iload_n hx hb dX5_aims_17 rfl (lv_at hl 0 rfl) ?_
        refine lv_aload_n hx hb dX5_aims_18 rfl (lv_at hl 1 rfl) ?_
        refine va_get (D := (dC, dI)) (ci := 5) (v := .ref (h 4)) (C := RX5) (T := TX5) (N := 33) hx hb hts hin_X5 hown hK hP 0 rfl rfl 11 (by decide) hw2 (fun _ h9 => h9) rfl dX5_aims_19 ?_
        refine lv_iload_n hx hb dX5_aims_22 rfl (lv_at hl 0 rfl) ?_
        refine va_iald hx hb hK hP 4 0 rfl rfl (vp_in_nI (n := 2) (N := 4) (by decide) (by decide)) dX5_aims_23 ?_
        refine lv_topi (fun x_11 ex_11 => ?_)
        refine va_iast hx hb hK hP hD hS 12 0 rfl rfl (vp_in_nI (n := 2) (N := 4) (by decide) (by decide)) dX5_aims_24 (fun H locs hP hD hS => ?_)
        obtain ⟨F_12, eF_12⟩ : ∃ z : Nat → Nat → Int32, z = va_up F_9 12 (upd (F_9 12) (2 : Int32).toNatClampNeg x_11) := ⟨_, rfl⟩
        have hP : va_P (dC, dI) vwCl (wM cI cZ cJ h F_12 G V) H := by rw [eF_12]; exact hP
        have hD : va_D A (wM cI cZ cJ h F_12 G V) := by rw [eF_12]; exact hD
        refine lv_iinc (v := 3) (lv' := [(3, .int 3), (0, .ref (h 0)), (1, .int p0), (2, .int p1)]) hx hb dX5_aims_25 hl (k := 0) rfl (by decide) (by decide) rfl (fun ls hl => ?_)
        refine lv_goto (tgt := 8) hx hb dX5_aims_28 (by decide) ?_
        refine lv_iload_n hx hb dX5_aims_8 rfl (lv_at hl 0 rfl) ?_
        refine lv_iconst (v := 4) hx hb dX5_aims_9 (by decide) ?_
        refine lv_icmp_ge (tgt := 31) hx hb dX5_aims_10 (by decide) (fun c_13 => ?_) (fun c_13 => ?_)
        · exact absurd c_13 (by decide)
        · refine lv_aload_n hx hb dX5_aims_13 rfl (lv_at hl 1 rfl) ?_
          refine va_get (D := (dC, dI)) (ci := 5) (v := .ref (h 12)) (C := RX5) (T := TX5) (N := 33) hx hb hts hin_X5 hown hK hP 0 rfl rfl 19 (by decide) hw0 (fun _ h9 => h9) rfl dX5_aims_14 ?_
          refine lv_iload_n hx hb dX5_aims_17 rfl (lv_at hl 0 rfl) ?_
          refine lv_aload_n hx hb dX5_aims_18 rfl (lv_at hl 1 rfl) ?_
          refine va_get (D := (dC, dI)) (ci := 5) (v := .ref (h 4)) (C := RX5) (T := TX5) (N := 33) hx hb hts hin_X5 hown hK hP 0 rfl rfl 11 (by decide) hw2 (fun _ h9 => h9) rfl dX5_aims_19 ?_
          refine lv_iload_n hx hb dX5_aims_22 rfl (lv_at hl 0 rfl) ?_
          refine va_iald hx hb hK hP 4 0 rfl rfl (vp_in_nI (n := 3) (N := 4) (by decide) (by decide)) dX5_aims_23 ?_
          refine lv_topi (fun x_14 ex_14 => ?_)
          refine va_iast hx hb hK hP hD hS 12 0 rfl rfl (vp_in_nI (n := 3) (N := 4) (by decide) (by decide)) dX5_aims_24 (fun H locs hP hD hS => ?_)
          obtain ⟨F_15, eF_15⟩ : ∃ z : Nat → Nat → Int32, z = va_up F_12 12 (upd (F_12 12) (3 : Int32).toNatClampNeg x_14) := ⟨_, rfl⟩
          have hP : va_P (dC, dI) vwCl (wM cI cZ cJ h F_15 G V) H := by rw [eF_15]; exact hP
          have hD : va_D A (wM cI cZ cJ h F_15 G V) := by rw [eF_15]; exact hD
          refine lv_iinc (v := 4) (lv' := [(3, .int 4), (0, .ref (h 0)), (1, .int p0), (2, .int p1)]) hx hb dX5_aims_25 hl (k := 0) rfl (by decide) (by decide) rfl (fun ls hl => ?_)
          refine lv_goto (tgt := 8) hx hb dX5_aims_28 (by decide) ?_
          refine lv_iload_n hx hb dX5_aims_8 rfl (lv_at hl 0 rfl) ?_
          refine lv_iconst (v := 4) hx hb dX5_aims_9 (by decide) ?_
          refine lv_icmp_ge (tgt := 31) hx hb dX5_aims_10 (by decide) (fun c_16 => ?_) (fun c_16 => ?_)
          · refine lv_iconst (v := 0) hx hb dX5_aims_31 (by decide) ?_
            refine lv_istore_n (lv' := [(3, .int 0), (0, .ref (h 0)), (1, .int p0), (2, .int p1)]) hx hb dX5_aims_32 rfl hl (by decide) rfl (fun ls hl => ?_)
            refine lv_iconst (v := 0) hx hb dX5_aims_33 (by decide) ?_
            refine lv_istore (lv' := [(4, .int 0), (3, .int 0), (0, .ref (h 0)), (1, .int p0), (2, .int p1)]) hx hb dX5_aims_34 hl (by decide) rfl (fun ls hl => ?_)
            refine lv_iload hx hb dX5_aims_36 (lv_at hl 0 rfl) ?_
            refine lv_aload_n hx hb dX5_aims_38 rfl (lv_at hl 2 rfl) ?_
            refine va_get (D := (dC, dI)) (ci := 5) (v := .int (V 2)) (C := RX5) (T := TX5) (N := 33) hx hb hts hin_X5 hown hK hP 0 rfl rfl 2 (by decide) hw3 (fun _ h9 => h9) rfl dX5_aims_39 ?_
            refine lv_topi (fun x_17 ex_17 => ?_)
            obtain rfl : x_17 = 0 := ex_17.trans (hV2)
            refine lv_icmp_ge (tgt := 172) hx hb dX5_aims_42 (by decide) (fun c_18 => ?_) (fun c_18 => ?_)
            · refine lv_iload_n hx hb dX5_aims_172 rfl (lv_at hl 1 rfl) ?_
              exact hret 0 F_15 H locs 173 ls rfl dX5_aims_173 (⟨rfl, fun j hj => by rw [eF_15, eF_12, eF_9, eF_6]; simp [va_up, hj]⟩) (hP) (hD) hS
            · exact absurd c_18 (by decide)
          · exact absurd c_16 (by decide)
def rm_X5_tries : Room := { frames := 1, cells := 0, slots := 0, locals := 14 }
set_option maxHeartbeats 4000000 in
set_option maxRecDepth 100000 in
theorem c_X5_tries (l : Launch) (dC : Nat → ClassId) (dI : Nat → Nat → Nat) (cI cZ cJ : ClassId) (h : Nat → Nat) (F : Nat → Nat → Int32) (G : Nat → Int64) (V : Nat → Int32)  (hV2 : V 2 = 0) (hV9 : V 9 = 0) : CtV l (dC, dI) vwCl (tys3 cI cZ cJ) yX5_tries wsX5_tries rm_X5_tries [.ref (h 0), .int 0, .int 0] (wM cI cZ cJ h F G V) (S := Unit) (fun _ => True) (fun _ => wM cI cZ cJ h F G (va_up V 9 0)) 0 0 := by
  refine ct_V (cc := cX5_tries) (maxL := 5) (own := RX5) (by decide) rfl rfl (Nat.le_of_ble_eq_true rfl) (lv := [(0, .ref (h 0)), (1, .int 0), (2, .int 0)]) rfl ?_
  intro p e s m args below meth c A Q ls hnm fx hK hP hD hA hl hret
  obtain ⟨hx, hb, hml, hown, hts⟩ := id fx
  have hS : va_S A s.heap s.heap [] := va_S.rf
  have hw0 := hts (.fieldLink RX5 91 "MirrorTowerModel" "mirrors" "I") (by decide +kernel)
  have hin_X5 : ∀ w ∈ u_ws RX5 TX5 33, w ∈ wsX5_tries := by decide +kernel
  have hw2 := hts (.fieldLink RX5 148 "MirrorTowerModel" "most" "I") (by decide +kernel)
  have hw3 := hts (.methodLink RX5 134 Lib.Math.max.name) (by decide +kernel)
  have hw4 := hts (.static Lib.Math.max.name) (by decide +kernel)
  have hw5 := hts (.initialized "java/lang/Math") (by decide +kernel)
  have hw6 := hts (.code Lib.Math.max.name Lib.Math.max.code 2 (some .int)) (by decide +kernel)
  obtain ⟨H, hH⟩ : ∃ H, H = s.heap := ⟨_, rfl⟩
  rw [← hH] at hP ⊢
  have hS : va_S A s.heap H [] := by rw [hH]; exact hS
  generalize ([] : List Loc) = locs at hS ⊢
  refine lv_iload_n hx hb dX5_tries_0 rfl (lv_at hl 1 rfl) ?_
  refine lv_bipush (v := 7) hx hb dX5_tries_1 (by decide) ?_
  refine lv_icmp_eq (tgt := 14) hx hb dX5_tries_3 (by decide) (fun c_1 => ?_) (fun c_1 => ?_)
  · exact absurd c_1 (by decide)
  · refine lv_iload_n hx hb dX5_tries_6 rfl (lv_at hl 1 rfl) ?_
    refine lv_aload_n hx hb dX5_tries_7 rfl (lv_at hl 0 rfl) ?_
    refine va_get (D := (dC, dI)) (ci := 5) (v := .int (V 2)) (C := RX5) (T := TX5) (N := 33) hx hb hts hin_X5 hown hK hP 0 rfl rfl 2 (by decide) hw0 (fun _ h9 => h9) rfl dX5_tries_8 ?_
    refine lv_topi (fun x_2 ex_2 => ?_)
    obtain rfl : x_2 = 0 := ex_2.trans (hV2)
    refine lv_icmp_ne (tgt := 27) hx hb dX5_tries_11 (by decide) (fun c_3 => ?_) (fun c_3 => ?_)
    · exact absurd c_3 (by decide)
    · refine lv_aload_n hx hb dX5_tries_14 rfl (lv_at hl 0 rfl) ?_
      refine lv_aload_n hx hb dX5_tries_15 rfl (lv_at hl 0 rfl) ?_
      refine va_get (D := (dC, dI)) (ci := 5) (v := .int (V 9)) (C := RX5) (T := TX5) (N := 33) hx hb hts hin_X5 hown hK hP 0 rfl rfl 24 (by decide) hw2 (fun _ h9 => h9) rfl dX5_tries_16 ?_
      refine lv_topi (fun x_4 ex_4 => ?_)
      obtain rfl : x_4 = 0 := ex_4.trans (hV9)
      refine lv_iload_n hx hb dX5_tries_19 rfl (lv_at hl 2 rfl) ?_
      refine va_mmax hx hb (hml.trans hl.1.symm) hown hw3 hw4 hw5 hw6 (Nat.le_of_ble_eq_true rfl) (Nat.le_of_ble_eq_true rfl) (Nat.le_of_ble_eq_true rfl) (Nat.le_of_ble_eq_true rfl) dX5_tries_20 ?_
      refine lv_topi (fun x_5 ex_5 => ?_)
      obtain rfl : x_5 = 0 := ex_5.trans (by decide)
      refine va_put (D := (dC, dI)) (ci := 5) (v := .int 0) (ty := .int) (C := RX5) (T := TX5) (N := 33) hx hb hts hin_X5 tyX5 tyX5_ok nmX5 hown hK hP hD hS 0 rfl rfl 24 (by decide) hw2 (fun _ h9 => h9) rfl (by decide +kernel) rfl rfl (Nat.le_of_ble_eq_true rfl) dX5_tries_23 (fun H locs hP hD hS => ?_)
      have hP : va_P (dC, dI) vwCl (wM cI cZ cJ h F G (va_up V 9 0)) H := hP
      have hD : va_D A (wM cI cZ cJ h F G (va_up V 9 0)) := hD
      exact hret () H locs 26 ls dX5_tries_26 (trivial) (hP) (hD) hS
def rm_X5_state0 : Room := { frames := 0, cells := 0, slots := 0, locals := 0 }
set_option maxHeartbeats 4000000 in
set_option maxRecDepth 100000 in
theorem c_X5_state0 (l : Launch) (dC : Nat → ClassId) (dI : Nat → Nat → Nat) (cI cZ cJ : ClassId) (w : va_W) (a0 a1 : Nat)  : CtI l (dC, dI) vwCl (tys3 cI cZ cJ) yX5_state wsX5_state rm_X5_state0 [.int (nI a0), .int (nI a1), .int 0] (w) (S := Unit) (fun r _ => r = nI ((201 * a0 + a1) * 2 + 0)) (fun _ => w) 0 0 := by
  refine ct_I (cc := cX5_state) (maxL := 3) (ty := .int) (own := RX5) (by decide) rfl rfl (Nat.le_of_ble_eq_true rfl) (lv := [(0, .int (nI a0)), (1, .int (nI a1)), (2, .int 0)]) rfl ?_
  intro p e s m args below meth c A Q ls fx hK hP hD hA hl hret
  obtain ⟨hx, hb, hml, hown, hts⟩ := id fx
  have hS : va_S A s.heap s.heap [] := va_S.rf
  obtain ⟨H, hH⟩ : ∃ H, H = s.heap := ⟨_, rfl⟩
  rw [← hH] at hP ⊢
  have hS : va_S A s.heap H [] := by rw [hH]; exact hS
  generalize ([] : List Loc) = locs at hS ⊢
  refine lv_sipush (v := 201) hx hb dX5_state_0 (by decide) ?_
  refine lv_iload_n hx hb dX5_state_3 rfl (lv_at hl 0 rfl) ?_
  refine lv_imul hx hb dX5_state_4 ?_
  refine lv_topi (fun x_1 ex_1 => ?_)
  obtain rfl : x_1 = nI (201 * a0) := ex_1.trans (pk_mul 201 a0)
  refine lv_iload_n hx hb dX5_state_5 rfl (lv_at hl 1 rfl) ?_
  refine lv_iadd hx hb dX5_state_6 ?_
  refine lv_topi (fun x_2 ex_2 => ?_)
  obtain rfl : x_2 = nI ((201 * a0) + a1) := ex_2.trans (nI_add (201 * a0) a1)
  refine lv_iconst (v := 2) hx hb dX5_state_7 (by decide) ?_
  refine lv_imul hx hb dX5_state_8 ?_
  refine lv_topi (fun x_3 ex_3 => ?_)
  obtain rfl : x_3 = nI (((201 * a0) + a1) * 2) := ex_3.trans (pk_mul ((201 * a0) + a1) 2)
  refine lv_iload_n hx hb dX5_state_9 rfl (lv_at hl 2 rfl) ?_
  refine lv_if_eq (tgt := 17) hx hb dX5_state_10 (by decide) (fun c_4 => ?_) (fun c_4 => ?_)
  · refine lv_iconst (v := 0) hx hb dX5_state_17 (by decide) ?_
    refine lv_iadd hx hb dX5_state_18 ?_
    refine lv_topi (fun x_5 ex_5 => ?_)
    obtain rfl : x_5 = nI ((((201 * a0) + a1) * 2) + 0) := ex_5.trans (nI_add (((201 * a0) + a1) * 2) 0)
    exact hret (nI ((((201 * a0) + a1) * 2) + 0)) () H locs 19 ls rfl dX5_state_19 (by first | rfl | (simp []; done) | (exfalso; omega)) (hP) (hD) hS
  · exact absurd c_4 (by decide)
def rm_X5_state1 : Room := { frames := 0, cells := 0, slots := 0, locals := 0 }
set_option maxHeartbeats 4000000 in
set_option maxRecDepth 100000 in
theorem c_X5_state1 (l : Launch) (dC : Nat → ClassId) (dI : Nat → Nat → Nat) (cI cZ cJ : ClassId) (w : va_W) (a0 a1 : Nat)  : CtI l (dC, dI) vwCl (tys3 cI cZ cJ) yX5_state wsX5_state rm_X5_state1 [.int (nI a0), .int (nI a1), .int 1] (w) (S := Unit) (fun r _ => r = nI ((201 * a0 + a1) * 2 + 1)) (fun _ => w) 0 0 := by
  refine ct_I (cc := cX5_state) (maxL := 3) (ty := .int) (own := RX5) (by decide) rfl rfl (Nat.le_of_ble_eq_true rfl) (lv := [(0, .int (nI a0)), (1, .int (nI a1)), (2, .int 1)]) rfl ?_
  intro p e s m args below meth c A Q ls fx hK hP hD hA hl hret
  obtain ⟨hx, hb, hml, hown, hts⟩ := id fx
  have hS : va_S A s.heap s.heap [] := va_S.rf
  obtain ⟨H, hH⟩ : ∃ H, H = s.heap := ⟨_, rfl⟩
  rw [← hH] at hP ⊢
  have hS : va_S A s.heap H [] := by rw [hH]; exact hS
  generalize ([] : List Loc) = locs at hS ⊢
  refine lv_sipush (v := 201) hx hb dX5_state_0 (by decide) ?_
  refine lv_iload_n hx hb dX5_state_3 rfl (lv_at hl 0 rfl) ?_
  refine lv_imul hx hb dX5_state_4 ?_
  refine lv_topi (fun x_1 ex_1 => ?_)
  obtain rfl : x_1 = nI (201 * a0) := ex_1.trans (pk_mul 201 a0)
  refine lv_iload_n hx hb dX5_state_5 rfl (lv_at hl 1 rfl) ?_
  refine lv_iadd hx hb dX5_state_6 ?_
  refine lv_topi (fun x_2 ex_2 => ?_)
  obtain rfl : x_2 = nI ((201 * a0) + a1) := ex_2.trans (nI_add (201 * a0) a1)
  refine lv_iconst (v := 2) hx hb dX5_state_7 (by decide) ?_
  refine lv_imul hx hb dX5_state_8 ?_
  refine lv_topi (fun x_3 ex_3 => ?_)
  obtain rfl : x_3 = nI (((201 * a0) + a1) * 2) := ex_3.trans (pk_mul ((201 * a0) + a1) 2)
  refine lv_iload_n hx hb dX5_state_9 rfl (lv_at hl 2 rfl) ?_
  refine lv_if_eq (tgt := 17) hx hb dX5_state_10 (by decide) (fun c_4 => ?_) (fun c_4 => ?_)
  · exact absurd c_4 (by decide)
  · refine lv_iconst (v := 1) hx hb dX5_state_13 (by decide) ?_
    refine lv_goto (tgt := 18) hx hb dX5_state_14 (by decide) ?_
    refine lv_iadd hx hb dX5_state_18 ?_
    refine lv_topi (fun x_5 ex_5 => ?_)
    obtain rfl : x_5 = nI ((((201 * a0) + a1) * 2) + 1) := ex_5.trans (nI_add (((201 * a0) + a1) * 2) 1)
    exact hret (nI ((((201 * a0) + a1) * 2) + 1)) () H locs 19 ls rfl dX5_state_19 (by first | rfl | (simp []; done) | (exfalso; omega)) (hP) (hD) hS
def rm_X5_takes : Room := { frames := 0, cells := 0, slots := 0, locals := 0 }
set_option maxHeartbeats 4000000 in
set_option maxRecDepth 100000 in
theorem c_X5_takes (l : Launch) (dC : Nat → ClassId) (dI : Nat → Nat → Nat) (cI cZ cJ : ClassId) (w : va_W) (p0 : Int32)  : CtI l (dC, dI) vwCl (tys3 cI cZ cJ) yX5_takes wsX5_takes rm_X5_takes [.int p0] (w) (S := Unit) (fun r _ => r = if eqI p0 0 then 7 else 5) (fun _ => w) 0 0 := by
  refine ct_I (cc := cX5_takes) (maxL := 1) (ty := .int) (own := RX5) (by decide) rfl rfl (Nat.le_of_ble_eq_true rfl) (lv := [(0, .int p0)]) rfl ?_
  intro p e s m args below meth c A Q ls fx hK hP hD hA hl hret
  obtain ⟨hx, hb, hml, hown, hts⟩ := id fx
  have hS : va_S A s.heap s.heap [] := va_S.rf
  obtain ⟨H, hH⟩ : ∃ H, H = s.heap := ⟨_, rfl⟩
  rw [← hH] at hP ⊢
  have hS : va_S A s.heap H [] := by rw [hH]; exact hS
  generalize ([] : List Loc) = locs at hS ⊢
  refine lv_iload_n hx hb dX5_takes_0 rfl (lv_at hl 0 rfl) ?_
  refine lv_if_eq (tgt := 8) hx hb dX5_takes_1 (by decide) (fun c_1 => ?_) (fun c_1 => ?_)
  · have c_1 : eqI p0 0 = true := decide_eq_true c_1
    refine lv_bipush (v := 7) hx hb dX5_takes_8 (by decide) ?_
    exact hret 7 () H locs 10 ls rfl dX5_takes_10 (by first | rfl | (simp [c_1]; done) | (exfalso; omega)) (hP) (hD) hS
  · have c_1 : eqI p0 0 = false := decide_eq_false c_1
    refine lv_iconst (v := 5) hx hb dX5_takes_4 (by decide) ?_
    refine lv_goto (tgt := 10) hx hb dX5_takes_5 (by decide) ?_
    exact hret 5 () H locs 10 ls rfl dX5_takes_10 (by first | rfl | (simp [c_1]; done) | (exfalso; omega)) (hP) (hD) hS
def rm_X5_filled : Room := { frames := 1, cells := 0, slots := 0, locals := 13 }
set_option maxHeartbeats 4000000 in
set_option maxRecDepth 100000 in
theorem c_X5_filled (l : Launch) (dC : Nat → ClassId) (dI : Nat → Nat → Nat) (cI cZ cJ : ClassId) (w : va_W) (a0 a1 : Nat) (ha : a0 + a1 < 1000000)  : CtI l (dC, dI) vwCl (tys3 cI cZ cJ) yX5_filled wsX5_filled rm_X5_filled [.int (nI a0), .int (nI a1)] (w) (S := Unit) (fun r _ => r = nI (min 200 (a0 + a1))) (fun _ => w) 0 0 := by
  refine ct_I (cc := cX5_filled) (maxL := 2) (ty := .int) (own := RX5) (by decide) rfl rfl (Nat.le_of_ble_eq_true rfl) (lv := [(0, .int (nI a0)), (1, .int (nI a1))]) rfl ?_
  intro p e s m args below meth c A Q ls fx hK hP hD hA hl hret
  obtain ⟨hx, hb, hml, hown, hts⟩ := id fx
  have hS : va_S A s.heap s.heap [] := va_S.rf
  have hw0 := hts (.methodLink RX5 129 Lib.Math.min.name) (by decide +kernel)
  have hw1 := hts (.static Lib.Math.min.name) (by decide +kernel)
  have hw2 := hts (.initialized "java/lang/Math") (by decide +kernel)
  have hw3 := hts (.code Lib.Math.min.name Lib.Math.min.code 2 (some .int)) (by decide +kernel)
  obtain ⟨H, hH⟩ : ∃ H, H = s.heap := ⟨_, rfl⟩
  rw [← hH] at hP ⊢
  have hS : va_S A s.heap H [] := by rw [hH]; exact hS
  generalize ([] : List Loc) = locs at hS ⊢
  refine lv_sipush (v := 200) hx hb dX5_filled_0 (by decide) ?_
  refine lv_iload_n hx hb dX5_filled_3 rfl (lv_at hl 0 rfl) ?_
  refine lv_iload_n hx hb dX5_filled_4 rfl (lv_at hl 1 rfl) ?_
  refine lv_iadd hx hb dX5_filled_5 ?_
  refine lv_topi (fun x_1 ex_1 => ?_)
  obtain rfl : x_1 = nI (a0 + a1) := ex_1.trans (nI_add a0 a1)
  refine va_mmin hx hb (hml.trans hl.1.symm) hown hw0 hw1 hw2 hw3 (Nat.le_of_ble_eq_true rfl) (Nat.le_of_ble_eq_true rfl) (Nat.le_of_ble_eq_true rfl) (Nat.le_of_ble_eq_true rfl) dX5_filled_6 ?_
  refine lv_topi (fun x_2 ex_2 => ?_)
  obtain rfl : x_2 = nI (min 200 (a0 + a1)) := ex_2.trans (mm_min (a := 200) (b := a0 + a1) (by omega) (by omega))
  exact hret (nI (min 200 (a0 + a1))) () H locs 9 ls rfl dX5_filled_9 (by first | rfl | (simp []; done) | (exfalso; omega)) (hP) (hD) hS
theorem bits_less {x : Int64} (h : x ≠ 0) : (x &&& (x - 1)).toBitVec.toNat < x.toBitVec.toNat := by
  have h0 : x.toBitVec ≠ 0#64 := fun q => h (Int64.toBitVec_inj.mp q)
  have h1 : x.toBitVec.toNat ≠ 0 := fun q => h0 (BitVec.eq_of_toNat_eq q)
  have h2 : (x - 1).toBitVec.toNat = x.toBitVec.toNat - 1 := by
    rw [Int64.toBitVec_sub]
    have h3 := x.toBitVec.isLt
    rw [BitVec.toNat_sub]
    have h4 : (1 : Int64).toBitVec.toNat = 1 := by decide
    rw [h4]
    omega
  rw [Int64.toBitVec_and, BitVec.toNat_and]
  have h5 : x.toBitVec.toNat &&& (x - 1).toBitVec.toNat ≤ (x - 1).toBitVec.toNat := Nat.and_le_right
  omega
def rm_X5_bits : Room := { frames := 0, cells := 0, slots := 0, locals := 0 }
set_option maxHeartbeats 4000000 in
set_option maxRecDepth 100000 in
theorem c_X5_bits (l : Launch) (dC : Nat → ClassId) (dI : Nat → Nat → Nat) (cI cZ cJ : ClassId) (w : va_W) (q0 : Int64)  : CtI l (dC, dI) vwCl (tys3 cI cZ cJ) yX5_bits wsX5_bits rm_X5_bits [.long q0] (w) (S := Unit) (fun _ _ => True) (fun _ => w) 0 0 := by
  refine ct_I (cc := cX5_bits) (maxL := 5) (ty := .int) (own := RX5) (by decide) rfl rfl (Nat.le_of_ble_eq_true rfl) (lv := [(0, .long q0)]) rfl ?_
  intro p e s m args below meth c A Q ls fx hK hP hD hA hl hret
  obtain ⟨hx, hb, hml, hown, hts⟩ := id fx
  have hS : va_S A s.heap s.heap [] := va_S.rf
  obtain ⟨H, hH⟩ : ∃ H, H = s.heap := ⟨_, rfl⟩
  rw [← hH] at hP ⊢
  have hS : va_S A s.heap H [] := by rw [hH]; exact hS
  generalize ([] : List Loc) = locs at hS ⊢
  refine lv_iconst (v := 0) hx hb dX5_bits_0 (by decide) ?_
  refine lv_istore_n (lv' := [(2, .int 0), (0, .long q0)]) hx hb dX5_bits_1 rfl hl (by decide) rfl (fun ls hl => ?_)
  refine lv_lload_n hx hb dX5_bits_2 rfl (lv_at hl 1 rfl) ?_
  refine lv_lstore_n (lv' := [(3, .long q0), (2, .int 0), (0, .long q0)]) hx hb dX5_bits_3 rfl hl (by decide) rfl (fun ls hl => ?_)
  have loop4 : ∀ (n : Nat) (n_ : Int32) (x_ : Int64), (x_.toBitVec.toNat) < n → ∀ (H : Heap) (locs : List Loc) (ls : Array Slot), va_P (dC, dI) vwCl (w) H → va_D A (w) → va_S A s.heap H locs → lv_has ls 5 [(0, .long q0), (2, .int n_), (3, .long x_)] → W p l e rm_X5_bits s m args below meth c H locs 0 0 Q (F0 m 4 ls []) := by
    intro n
    induction n with
    | zero => intro n_ x_  hn_; exact absurd hn_ (Nat.not_lt_zero _)
    | succ n ih4 =>
      intro n_ x_  hn_ H locs ls hP hD hS hl
      refine lv_lload_n hx hb dX5_bits_4 rfl (lv_at hl 2 rfl) ?_
      refine lv_lconst (v := 0) hx hb dX5_bits_5 (by decide) ?_
      refine W.lcmp hx hb dX5_bits_6 ?_
      refine lv_if_eq (tgt := 22) hx hb dX5_bits_7 (by decide) (fun c_1 => ?_) (fun c_1 => ?_)
      · have c_1 : eqI (lg_cmp x_ 0) 0 = true := decide_eq_true c_1
        refine lv_iload_n hx hb dX5_bits_22 rfl (lv_at hl 1 rfl) ?_
        exact hret n_ () H locs 23 ls rfl dX5_bits_23 (trivial) (hP) (hD) hS
      · have c_1 : eqI (lg_cmp x_ 0) 0 = false := decide_eq_false c_1
        obtain ⟨x_2, ex_2⟩ : ∃ z : Int32, z = n_ + 1 := ⟨_, rfl⟩
        refine lv_iinc (v := x_2) (lv' := [(2, .int x_2), (0, .long q0), (3, .long x_)]) hx hb dX5_bits_10 hl (k := 1) rfl (by rw [ex_2]; rfl) (by decide) rfl (fun ls hl => ?_)
        refine lv_lload_n hx hb dX5_bits_13 rfl (lv_at hl 2 rfl) ?_
        refine lv_lload_n hx hb dX5_bits_14 rfl (lv_at hl 2 rfl) ?_
        refine lv_lconst (v := 1) hx hb dX5_bits_15 (by decide) ?_
        refine lv_lsub hx hb dX5_bits_16 ?_
        refine lv_topl (fun z_3 ez_3 => ?_)
        refine lv_land hx hb dX5_bits_17 ?_
        refine lv_topl (fun z_4 ez_4 => ?_)
        refine lv_lstore_n (lv' := [(3, .long z_4), (2, .int x_2), (0, .long q0)]) hx hb dX5_bits_18 rfl hl (by decide) rfl (fun ls hl => ?_)
        refine lv_goto (tgt := 4) hx hb dX5_bits_19 (by decide) ?_
        exact ih4 x_2 z_4  (Nat.lt_of_lt_of_le (by rw [ez_4, ez_3]; exact bits_less (fun q => (of_decide_eq_false c_1) (by rw [q]; exact lg_self 0))) (Nat.le_of_lt_succ hn_)) H locs ls hP hD hS (lv_sub hl [2, 1, 0] rfl)
  exact loop4 _ 0 q0  (Nat.lt_succ_self _) H locs ls hP hD hS (lv_sub hl [2, 1, 0] rfl)
def rm_X5_agrees : Room := { frames := 0, cells := 0, slots := 0, locals := 0 }
set_option maxHeartbeats 4000000 in
set_option maxRecDepth 100000 in
theorem c_X5_agrees (l : Launch) (dC : Nat → ClassId) (dI : Nat → Nat → Nat) (cI cZ cJ : ClassId) (h : Nat → Nat) (F : Nat → Nat → Int32) (G : Nat → Int64) (V : Nat → Int32)  (hV11 : V 11 = 0) : CtI l (dC, dI) vwCl (tys3 cI cZ cJ) yX5_agrees wsX5_agrees rm_X5_agrees [.ref (h 0), .long 0] (wM cI cZ cJ h F G V) (S := Unit) (fun r _ => r = 1) (fun _ => wM cI cZ cJ h F G V) 0 0 := by
  refine ct_I (cc := cX5_agrees) (maxL := 5) (ty := .boolean) (own := RX5) (by decide) rfl rfl (Nat.le_of_ble_eq_true rfl) (lv := [(0, .ref (h 0)), (1, .long 0)]) rfl ?_
  intro p e s m args below meth c A Q ls fx hK hP hD hA hl hret
  obtain ⟨hx, hb, hml, hown, hts⟩ := id fx
  have hS : va_S A s.heap s.heap [] := va_S.rf
  have hw0 := hts (.fieldLink RX5 186 "MirrorTowerModel" "shots" "I") (by decide +kernel)
  have hin_X5 : ∀ w ∈ u_ws RX5 TX5 33, w ∈ wsX5_agrees := by decide +kernel
  obtain ⟨H, hH⟩ : ∃ H, H = s.heap := ⟨_, rfl⟩
  rw [← hH] at hP ⊢
  have hS : va_S A s.heap H [] := by rw [hH]; exact hS
  generalize ([] : List Loc) = locs at hS ⊢
  refine lv_iconst (v := 1) hx hb dX5_agrees_0 (by decide) ?_
  refine lv_istore_n (lv' := [(3, .int 1), (0, .ref (h 0)), (1, .long 0)]) hx hb dX5_agrees_1 rfl hl (by decide) rfl (fun ls hl => ?_)
  refine lv_iconst (v := 0) hx hb dX5_agrees_2 (by decide) ?_
  refine lv_istore (lv' := [(4, .int 0), (3, .int 1), (0, .ref (h 0)), (1, .long 0)]) hx hb dX5_agrees_3 hl (by decide) rfl (fun ls hl => ?_)
  refine lv_iload hx hb dX5_agrees_5 (lv_at hl 0 rfl) ?_
  refine lv_aload_n hx hb dX5_agrees_7 rfl (lv_at hl 2 rfl) ?_
  refine va_get (D := (dC, dI)) (ci := 5) (v := .int (V 11)) (C := RX5) (T := TX5) (N := 33) hx hb hts hin_X5 hown hK hP 0 rfl rfl 31 (by decide) hw0 (fun _ h9 => h9) rfl dX5_agrees_8 ?_
  refine lv_topi (fun x_1 ex_1 => ?_)
  obtain rfl : x_1 = 0 := ex_1.trans (hV11)
  refine lv_icmp_ge (tgt := 56) hx hb dX5_agrees_11 (by decide) (fun c_2 => ?_) (fun c_2 => ?_)
  · refine lv_iload_n hx hb dX5_agrees_56 rfl (lv_at hl 1 rfl) ?_
    exact hret 1 () H locs 57 ls rfl dX5_agrees_57 (by first | rfl | (simp []; done) | (exfalso; omega)) (hP) (hD) hS
  · exact absurd c_2 (by decide)
def rm_X5_agreeing : Room := { frames := 1, cells := 0, slots := 0, locals := 24 }
set_option maxHeartbeats 4000000 in
set_option maxRecDepth 100000 in
theorem c_X5_agreeing (l : Launch) (dC : Nat → ClassId) (dI : Nat → Nat → Nat) (cI cZ cJ : ClassId) (h : Nat → Nat) (F : Nat → Nat → Int32) (G : Nat → Int64) (V : Nat → Int32)  (hV2 : V 2 = 0) (hV11 : V 11 = 0) : CtI l (dC, dI) vwCl (tys3 cI cZ cJ) yX5_agreeing wsX5_agreeing rm_X5_agreeing [.ref (h 0)] (wM cI cZ cJ h F G V) (S := Nat → Nat → Int32) (fun r _ => r = 1) (fun u => wM cI cZ cJ h u G V) 0 0 := by
  refine ct_I (cc := cX5_agreeing) (maxL := 4) (ty := .int) (own := RX5) (by decide) rfl rfl (Nat.le_of_ble_eq_true rfl) (lv := [(0, .ref (h 0))]) rfl ?_
  intro p e s m args below meth c A Q ls fx hK hP hD hA hl hret
  obtain ⟨hx, hb, hml, hown, hts⟩ := id fx
  have hS : va_S A s.heap s.heap [] := va_S.rf
  have hw0 := hts (.fieldLink RX5 91 "MirrorTowerModel" "mirrors" "I") (by decide +kernel)
  have hin_X5 : ∀ w ∈ u_ws RX5 TX5 33, w ∈ wsX5_agreeing := by decide +kernel
  have hw2 := hts (.fieldLink RX5 88 "MirrorTowerModel" "inSets" "[I") (by decide +kernel)
  obtain ⟨H, hH⟩ : ∃ H, H = s.heap := ⟨_, rfl⟩
  rw [← hH] at hP ⊢
  have hS : va_S A s.heap H [] := by rw [hH]; exact hS
  generalize ([] : List Loc) = locs at hS ⊢
  refine lv_iconst (v := 0) hx hb dX5_agreeing_0 (by decide) ?_
  refine lv_istore_n (lv' := [(1, .int 0), (0, .ref (h 0))]) hx hb dX5_agreeing_1 rfl hl (by decide) rfl (fun ls hl => ?_)
  have loop2 : ∀ (n : Nat) (k : Nat) (F1 : Nat → Nat → Int32), (k ≤ 40) → (40 - k) < n → ∀ (H : Heap) (locs : List Loc) (ls : Array Slot), va_P (dC, dI) vwCl (wM cI cZ cJ h F1 G V) H → va_D A (wM cI cZ cJ h F1 G V) → va_S A s.heap H locs → lv_has ls 4 [(0, .ref (h 0)), (1, .int (nI k))] → W p l e rm_X5_agreeing s m args below meth c H locs 0 0 Q (F0 m 2 ls []) := by
    intro n
    induction n with
    | zero => intro k F1 hk hn_; exact absurd hn_ (Nat.not_lt_zero _)
    | succ n ih2 =>
      intro k F1 hk hn_ H locs ls hP hD hS hl
      refine lv_iload_n hx hb dX5_agreeing_2 rfl (lv_at hl 1 rfl) ?_
      refine lv_bipush (v := 40) hx hb dX5_agreeing_3 (by decide) ?_
      refine lv_icmp_ge (tgt := 21) hx hb dX5_agreeing_5 (by decide) (fun c_1 => ?_) (fun c_1 => ?_)
      · have c_1 : 40 ≤ k := (nI_leI (a := 40) (b := k) (by omega) (by omega)).mp c_1
        refine lv_aload_n hx hb dX5_agreeing_21 rfl (lv_at hl 0 rfl) ?_
        refine lv_lconst (v := 0) hx hb dX5_agreeing_22 (by decide) ?_
        refine cw_Vi (As := [.long 0]) (rest := []) (c_X5_agrees l dC dI cI cZ cJ h F1 G V hV11) fx (cwV 1 hts gX5_agreeing_X5_agrees rfl rfl rfl (by decide +kernel) ⟨Nat.le_of_ble_eq_true rfl, Nat.le_of_ble_eq_true rfl⟩) hK hP hD hS hA 0 rfl rfl rfl rfl hl.1 rfl (Nat.le_of_ble_eq_true rfl) dX5_agreeing_23 ⟨Nat.le_of_ble_eq_true rfl, Nat.le_of_ble_eq_true rfl⟩ (fun r_2 u_3 H locs hw_4 hP hD hS => ?_)
        have hP : va_P (dC, dI) vwCl (wM cI cZ cJ h F1 G V) H := hP
        have hD : va_D A (wM cI cZ cJ h F1 G V) := hD
        obtain rfl : r_2 = 1 := hw_4
        refine lv_if_eq (tgt := 33) hx hb dX5_agreeing_26 (by decide) (fun c_5 => ?_) (fun c_5 => ?_)
        · exact absurd c_5 (by decide)
        · refine lv_iconst (v := 1) hx hb dX5_agreeing_29 (by decide) ?_
          refine lv_goto (tgt := 34) hx hb dX5_agreeing_30 (by decide) ?_
          refine lv_istore_n (lv' := [(1, .int 1), (0, .ref (h 0))]) hx hb dX5_agreeing_34 rfl hl (by decide) rfl (fun ls hl => ?_)
          refine lv_iconst (v := 0) hx hb dX5_agreeing_35 (by decide) ?_
          refine lv_istore_n (lv' := [(2, .int 0), (1, .int 1), (0, .ref (h 0))]) hx hb dX5_agreeing_36 rfl hl (by decide) rfl (fun ls hl => ?_)
          refine lv_iload_n hx hb dX5_agreeing_37 rfl (lv_at hl 0 rfl) ?_
          refine lv_aload_n hx hb dX5_agreeing_38 rfl (lv_at hl 2 rfl) ?_
          refine va_get (D := (dC, dI)) (ci := 5) (v := .int (V 2)) (C := RX5) (T := TX5) (N := 33) hx hb hts hin_X5 hown hK hP 0 rfl rfl 2 (by decide) hw0 (fun _ h9 => h9) rfl dX5_agreeing_39 ?_
          refine lv_topi (fun x_6 ex_6 => ?_)
          obtain rfl : x_6 = 0 := ex_6.trans (hV2)
          refine lv_icmp_ge (tgt := 112) hx hb dX5_agreeing_42 (by decide) (fun c_7 => ?_) (fun c_7 => ?_)
          · refine lv_iload_n hx hb dX5_agreeing_112 rfl (lv_at hl 1 rfl) ?_
            exact hret 1 F1 H locs 113 ls rfl dX5_agreeing_113 (rfl) (hP) (hD) hS
          · exact absurd c_7 (by decide)
      · have c_1 : ¬ 40 ≤ k := fun h => c_1 ((nI_leI (a := 40) (b := k) (by omega) (by omega)).mpr h)
        refine lv_aload_n hx hb dX5_agreeing_8 rfl (lv_at hl 0 rfl) ?_
        refine va_get (D := (dC, dI)) (ci := 5) (v := .ref (h 21)) (C := RX5) (T := TX5) (N := 33) hx hb hts hin_X5 hown hK hP 0 rfl rfl 32 (by decide) hw2 (fun _ h9 => h9) rfl dX5_agreeing_9 ?_
        refine lv_iload_n hx hb dX5_agreeing_12 rfl (lv_at hl 1 rfl) ?_
        refine lv_iconst (v := 0) hx hb dX5_agreeing_13 (by decide) ?_
        refine va_iast hx hb hK hP hD hS 21 0 rfl rfl (vp_in_nI (n := k) (N := 40) (by omega) (by decide)) dX5_agreeing_14 (fun H locs hP hD hS => ?_)
        obtain ⟨F_8, eF_8⟩ : ∃ z : Nat → Nat → Int32, z = va_up F1 21 (upd (F1 21) (nI k).toNatClampNeg 0) := ⟨_, rfl⟩
        have hP : va_P (dC, dI) vwCl (wM cI cZ cJ h F_8 G V) H := by rw [eF_8]; exact hP
        have hD : va_D A (wM cI cZ cJ h F_8 G V) := by rw [eF_8]; exact hD
        have hE_9 : F_8 21 k = 0 := by rw [eF_8]; show upd _ (nI k).toNatClampNeg _ _ = _; rw [nI_clamp (by omega)]; exact pk_us
        refine lv_iinc (v := nI (k + 1)) (lv' := [(1, .int (nI (k + 1))), (0, .ref (h 0))]) hx hb dX5_agreeing_15 hl (k := 1) rfl (nI_1 _) (by decide) rfl (fun ls hl => ?_)
        refine lv_goto (tgt := 2) hx hb dX5_agreeing_18 (by decide) ?_
        exact ih2 (k + 1) F_8 (by omega) (by omega) H locs ls hP hD hS (lv_sub hl [1, 0] rfl)
  exact loop2 _ 0 F (by omega) (Nat.lt_succ_self _) H locs ls hP hD hS (lv_sub hl [1, 0] rfl)
