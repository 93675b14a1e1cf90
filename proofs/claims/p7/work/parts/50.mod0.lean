def rm_X5_in : Room := { frames := 0, cells := 0, slots := 0, locals := 0 }
set_option maxHeartbeats 4000000 in
set_option maxRecDepth 100000 in
theorem c_X5_in (l : Launch) (dC : Nat → ClassId) (dI : Nat → Nat → Nat) (cI cZ cJ : ClassId) (w : va_W)  (p0 p1 p2 : Int32)   : CtI l (dC, dI) vwCl (tys3 cI cZ cJ) yX5_in wsX5_in rm_X5_in [.int p0, .int p1, .int p2] (w) (S := Unit) (fun r _ => r = bI (isW p0 p1 p2)) (fun _ => w) 0 0 := by
  refine ct_I (cc := cX5_in) (maxL := 3) (ty := .boolean) (own := RX5) (by decide) rfl rfl (Nat.le_of_ble_eq_true rfl) (lv := [(0, .int p0), (1, .int p1), (2, .int p2)]) rfl ?_
  intro p e s m args below meth c A Q ls fx hK hP hD hA hl hret
  obtain ⟨hx, hb, hml, hown, hts⟩ := id fx
  have hS : va_S A s.heap s.heap [] := va_S.rf
  obtain ⟨H, hH⟩ : ∃ H, H = s.heap := ⟨_, rfl⟩
  rw [← hH] at hP ⊢
  have hS : va_S A s.heap H [] := by rw [hH]; exact hS
  generalize ([] : List Loc) = locs at hS ⊢
  refine lv_iload_n hx hb dX5_in_0 rfl (lv_at hl 0 rfl) ?_
  refine lv_iload_n hx hb dX5_in_1 rfl (lv_at hl 1 rfl) ?_
  refine lv_icmp_lt (tgt := 14) hx hb dX5_in_2 (by decide) (fun c_1 => ?_) (fun c_1 => ?_)
  · have c_1 : ltI p0 p1 = true := decide_eq_true c_1
    refine lv_iconst (v := 0) hx hb dX5_in_14 (by decide) ?_
    exact hret 0 () H locs 15 ls rfl dX5_in_15 (by first | rfl | (simp [isW, bI, c_1]; done) | (exfalso; omega)) (hP) (hD) hS
  · have c_1 : ltI p0 p1 = false := decide_eq_false c_1
    refine lv_iload_n hx hb dX5_in_5 rfl (lv_at hl 0 rfl) ?_
    refine lv_iload_n hx hb dX5_in_6 rfl (lv_at hl 2 rfl) ?_
    refine lv_icmp_gt (tgt := 14) hx hb dX5_in_7 (by decide) (fun c_2 => ?_) (fun c_2 => ?_)
    · have c_2 : ltI p2 p0 = true := decide_eq_true c_2
      refine lv_iconst (v := 0) hx hb dX5_in_14 (by decide) ?_
      exact hret 0 () H locs 15 ls rfl dX5_in_15 (by first | rfl | (simp [isW, bI, c_1, c_2]; done) | (exfalso; omega)) (hP) (hD) hS
    · have c_2 : ltI p2 p0 = false := decide_eq_false c_2
      refine lv_iconst (v := 1) hx hb dX5_in_10 (by decide) ?_
      refine lv_goto (tgt := 15) hx hb dX5_in_11 (by decide) ?_
      exact hret 1 () H locs 15 ls rfl dX5_in_15 (by first | rfl | (simp [isW, bI, c_1, c_2]; done) | (exfalso; omega)) (hP) (hD) hS
def rm_X5_isHour : Room := { frames := 0, cells := 0, slots := 0, locals := 0 }
set_option maxHeartbeats 4000000 in
set_option maxRecDepth 100000 in
theorem c_X5_isHour (l : Launch) (dC : Nat → ClassId) (dI : Nat → Nat → Nat) (cI cZ cJ : ClassId) (w : va_W)  (p0 : Int32)   : CtI l (dC, dI) vwCl (tys3 cI cZ cJ) yX5_isHour wsX5_isHour rm_X5_isHour [.int p0] (w) (S := Unit) (fun r _ => r = bI (isW p0 0 23)) (fun _ => w) 0 0 := by
  refine ct_I (cc := cX5_isHour) (maxL := 1) (ty := .boolean) (own := RX5) (by decide) rfl rfl (Nat.le_of_ble_eq_true rfl) (lv := [(0, .int p0)]) rfl ?_
  intro p e s m args below meth c A Q ls fx hK hP hD hA hl hret
  obtain ⟨hx, hb, hml, hown, hts⟩ := id fx
  have hS : va_S A s.heap s.heap [] := va_S.rf
  obtain ⟨H, hH⟩ : ∃ H, H = s.heap := ⟨_, rfl⟩
  rw [← hH] at hP ⊢
  have hS : va_S A s.heap H [] := by rw [hH]; exact hS
  generalize ([] : List Loc) = locs at hS ⊢
  refine lv_iload_n hx hb dX5_isHour_0 rfl (lv_at hl 0 rfl) ?_
  refine lv_if_lt (tgt := 14) hx hb dX5_isHour_1 (by decide) (fun c_1 => ?_) (fun c_1 => ?_)
  · have c_1 : ltI p0 0 = true := decide_eq_true c_1
    refine lv_iconst (v := 0) hx hb dX5_isHour_14 (by decide) ?_
    exact hret 0 () H locs 15 ls rfl dX5_isHour_15 (by first | rfl | (simp [isW, bI, ltI_24, c_1]; done) | (exfalso; omega)) (hP) (hD) hS
  · have c_1 : ltI p0 0 = false := decide_eq_false c_1
    refine lv_iload_n hx hb dX5_isHour_4 rfl (lv_at hl 0 rfl) ?_
    refine lv_bipush (v := 24) hx hb dX5_isHour_5 (by decide) ?_
    refine lv_icmp_ge (tgt := 14) hx hb dX5_isHour_7 (by decide) (fun c_2 => ?_) (fun c_2 => ?_)
    · have c_2 : ltI p0 24 = false := decide_eq_false (Int32.not_lt.mpr c_2)
      refine lv_iconst (v := 0) hx hb dX5_isHour_14 (by decide) ?_
      exact hret 0 () H locs 15 ls rfl dX5_isHour_15 (by first | rfl | (simp [isW, bI, ltI_24, c_1, c_2]; done) | (exfalso; omega)) (hP) (hD) hS
    · have c_2 : ltI p0 24 = true := decide_eq_true (Int32.not_le.mp c_2)
      refine lv_iconst (v := 1) hx hb dX5_isHour_10 (by decide) ?_
      refine lv_goto (tgt := 15) hx hb dX5_isHour_11 (by decide) ?_
      exact hret 1 () H locs 15 ls rfl dX5_isHour_15 (by first | rfl | (simp [isW, bI, ltI_24, c_1, c_2]; done) | (exfalso; omega)) (hP) (hD) hS
def rm_X5_refused : Room := { frames := 0, cells := 0, slots := 0, locals := 0 }
set_option maxHeartbeats 4000000 in
set_option maxRecDepth 100000 in
theorem c_X5_refused (l : Launch) (dC : Nat → ClassId) (dI : Nat → Nat → Nat) (cI cZ cJ : ClassId) (h : Nat → Nat) (F : Nat → Nat → Int32) (G : Nat → Int64) (V : Nat → Int32)  (p0 : Int32)   : CtI l (dC, dI) vwCl (tys3 cI cZ cJ) yX5_refused wsX5_refused rm_X5_refused [.ref (h 0), .int p0] (wM cI cZ cJ h F G V) (S := Unit) (fun r _ => r = (-1)) (fun _ => wM cI cZ cJ h F G (va_up V 1 p0)) 0 0 := by
  refine ct_I (cc := cX5_refused) (maxL := 2) (ty := .int) (own := RX5) (by decide) rfl rfl (Nat.le_of_ble_eq_true rfl) (lv := [(0, .ref (h 0)), (1, .int p0)]) rfl ?_
  intro p e s m args below meth c A Q ls fx hK hP hD hA hl hret
  obtain ⟨hx, hb, hml, hown, hts⟩ := id fx
  have hS : va_S A s.heap s.heap [] := va_S.rf
  have hw0 := hts (.fieldLink RX5 7 "MirrorTowerModel" "trouble" "I") (by decide +kernel)
  have hin_X5 : ∀ w ∈ u_ws RX5 TX5 33, w ∈ wsX5_refused := by decide +kernel
  obtain ⟨H, hH⟩ : ∃ H, H = s.heap := ⟨_, rfl⟩
  rw [← hH] at hP ⊢
  have hS : va_S A s.heap H [] := by rw [hH]; exact hS
  generalize ([] : List Loc) = locs at hS ⊢
  refine lv_aload_n hx hb dX5_refused_0 rfl (lv_at hl 0 rfl) ?_
  refine lv_iload_n hx hb dX5_refused_1 rfl (lv_at hl 1 rfl) ?_
  refine va_put (D := (dC, dI)) (ci := 5) (v := .int p0) (ty := .int) (C := RX5) (T := TX5) (N := 33) hx hb hts hin_X5 tyX5 tyX5_ok nmX5 hown hK hP hD hS 0 rfl rfl 1 (by decide) hw0 (fun _ h9 => h9) rfl (by decide +kernel) rfl rfl (Nat.le_of_ble_eq_true rfl) dX5_refused_2 (fun H locs hP hD hS => ?_)
  have hP : va_P (dC, dI) vwCl (wM cI cZ cJ h F G (va_up V 1 p0)) H := hP
  have hD : va_D A (wM cI cZ cJ h F G (va_up V 1 p0)) := hD
  refine lv_iconst (v := (-1)) hx hb dX5_refused_5 (by decide) ?_
  exact hret (-1) () H locs 6 ls rfl dX5_refused_6 (by first | rfl | (simp []; done) | (exfalso; omega)) (hP) (hD) hS
def rm_X5_denied : Room := { frames := 0, cells := 0, slots := 0, locals := 0 }
set_option maxHeartbeats 4000000 in
set_option maxRecDepth 100000 in
theorem c_X5_denied (l : Launch) (dC : Nat → ClassId) (dI : Nat → Nat → Nat) (cI cZ cJ : ClassId) (h : Nat → Nat) (F : Nat → Nat → Int32) (G : Nat → Int64) (V : Nat → Int32)  (p0 : Int32)   : CtI l (dC, dI) vwCl (tys3 cI cZ cJ) yX5_denied wsX5_denied rm_X5_denied [.ref (h 0), .int p0] (wM cI cZ cJ h F G V) (S := Unit) (fun r _ => r = 0) (fun _ => wM cI cZ cJ h F G (va_up V 1 p0)) 0 0 := by
  refine ct_I (cc := cX5_denied) (maxL := 2) (ty := .boolean) (own := RX5) (by decide) rfl rfl (Nat.le_of_ble_eq_true rfl) (lv := [(0, .ref (h 0)), (1, .int p0)]) rfl ?_
  intro p e s m args below meth c A Q ls fx hK hP hD hA hl hret
  obtain ⟨hx, hb, hml, hown, hts⟩ := id fx
  have hS : va_S A s.heap s.heap [] := va_S.rf
  have hw0 := hts (.fieldLink RX5 7 "MirrorTowerModel" "trouble" "I") (by decide +kernel)
  have hin_X5 : ∀ w ∈ u_ws RX5 TX5 33, w ∈ wsX5_denied := by decide +kernel
  obtain ⟨H, hH⟩ : ∃ H, H = s.heap := ⟨_, rfl⟩
  rw [← hH] at hP ⊢
  have hS : va_S A s.heap H [] := by rw [hH]; exact hS
  generalize ([] : List Loc) = locs at hS ⊢
  refine lv_aload_n hx hb dX5_denied_0 rfl (lv_at hl 0 rfl) ?_
  refine lv_iload_n hx hb dX5_denied_1 rfl (lv_at hl 1 rfl) ?_
  refine va_put (D := (dC, dI)) (ci := 5) (v := .int p0) (ty := .int) (C := RX5) (T := TX5) (N := 33) hx hb hts hin_X5 tyX5 tyX5_ok nmX5 hown hK hP hD hS 0 rfl rfl 1 (by decide) hw0 (fun _ h9 => h9) rfl (by decide +kernel) rfl rfl (Nat.le_of_ble_eq_true rfl) dX5_denied_2 (fun H locs hP hD hS => ?_)
  have hP : va_P (dC, dI) vwCl (wM cI cZ cJ h F G (va_up V 1 p0)) H := hP
  have hD : va_D A (wM cI cZ cJ h F G (va_up V 1 p0)) := hD
  refine lv_iconst (v := 0) hx hb dX5_denied_5 (by decide) ?_
  exact hret 0 () H locs 6 ls rfl dX5_denied_6 (by first | rfl | (simp []; done) | (exfalso; omega)) (hP) (hD) hS
def rm_X5_done : Room := { frames := 0, cells := 0, slots := 0, locals := 0 }
set_option maxHeartbeats 4000000 in
set_option maxRecDepth 100000 in
theorem c_X5_done (l : Launch) (dC : Nat → ClassId) (dI : Nat → Nat → Nat) (cI cZ cJ : ClassId) (h : Nat → Nat) (F : Nat → Nat → Int32) (G : Nat → Int64) (V : Nat → Int32)  (p0 : Int32)   : CtI l (dC, dI) vwCl (tys3 cI cZ cJ) yX5_done wsX5_done rm_X5_done [.ref (h 0), .int p0] (wM cI cZ cJ h F G V) (S := Unit) (fun r _ => r = p0) (fun _ => wM cI cZ cJ h F G (va_up V 1 0)) 0 0 := by
  refine ct_I (cc := cX5_done) (maxL := 2) (ty := .int) (own := RX5) (by decide) rfl rfl (Nat.le_of_ble_eq_true rfl) (lv := [(0, .ref (h 0)), (1, .int p0)]) rfl ?_
  intro p e s m args below meth c A Q ls fx hK hP hD hA hl hret
  obtain ⟨hx, hb, hml, hown, hts⟩ := id fx
  have hS : va_S A s.heap s.heap [] := va_S.rf
  have hw0 := hts (.fieldLink RX5 7 "MirrorTowerModel" "trouble" "I") (by decide +kernel)
  have hin_X5 : ∀ w ∈ u_ws RX5 TX5 33, w ∈ wsX5_done := by decide +kernel
  obtain ⟨H, hH⟩ : ∃ H, H = s.heap := ⟨_, rfl⟩
  rw [← hH] at hP ⊢
  have hS : va_S A s.heap H [] := by rw [hH]; exact hS
  generalize ([] : List Loc) = locs at hS ⊢
  refine lv_aload_n hx hb dX5_done_0 rfl (lv_at hl 0 rfl) ?_
  refine lv_iconst (v := 0) hx hb dX5_done_1 (by decide) ?_
  refine va_put (D := (dC, dI)) (ci := 5) (v := .int 0) (ty := .int) (C := RX5) (T := TX5) (N := 33) hx hb hts hin_X5 tyX5 tyX5_ok nmX5 hown hK hP hD hS 0 rfl rfl 1 (by decide) hw0 (fun _ h9 => h9) rfl (by decide +kernel) rfl rfl (Nat.le_of_ble_eq_true rfl) dX5_done_2 (fun H locs hP hD hS => ?_)
  have hP : va_P (dC, dI) vwCl (wM cI cZ cJ h F G (va_up V 1 0)) H := hP
  have hD : va_D A (wM cI cZ cJ h F G (va_up V 1 0)) := hD
  refine lv_iload_n hx hb dX5_done_5 rfl (lv_at hl 1 rfl) ?_
  exact hret p0 () H locs 6 ls rfl dX5_done_6 (by first | rfl | (simp []; done) | (exfalso; omega)) (hP) (hD) hS
def rm_X5_granted : Room := { frames := 0, cells := 0, slots := 0, locals := 0 }
set_option maxHeartbeats 4000000 in
set_option maxRecDepth 100000 in
theorem c_X5_granted (l : Launch) (dC : Nat → ClassId) (dI : Nat → Nat → Nat) (cI cZ cJ : ClassId) (h : Nat → Nat) (F : Nat → Nat → Int32) (G : Nat → Int64) (V : Nat → Int32)     : CtI l (dC, dI) vwCl (tys3 cI cZ cJ) yX5_granted wsX5_granted rm_X5_granted [.ref (h 0)] (wM cI cZ cJ h F G V) (S := Unit) (fun r _ => r = 1) (fun _ => wM cI cZ cJ h F G (va_up V 1 0)) 0 0 := by
  refine ct_I (cc := cX5_granted) (maxL := 1) (ty := .boolean) (own := RX5) (by decide) rfl rfl (Nat.le_of_ble_eq_true rfl) (lv := [(0, .ref (h 0))]) rfl ?_
  intro p e s m args below meth c A Q ls fx hK hP hD hA hl hret
  obtain ⟨hx, hb, hml, hown, hts⟩ := id fx
  have hS : va_S A s.heap s.heap [] := va_S.rf
  have hw0 := hts (.fieldLink RX5 7 "MirrorTowerModel" "trouble" "I") (by decide +kernel)
  have hin_X5 : ∀ w ∈ u_ws RX5 TX5 33, w ∈ wsX5_granted := by decide +kernel
  obtain ⟨H, hH⟩ : ∃ H, H = s.heap := ⟨_, rfl⟩
  rw [← hH] at hP ⊢
  have hS : va_S A s.heap H [] := by rw [hH]; exact hS
  generalize ([] : List Loc) = locs at hS ⊢
  refine lv_aload_n hx hb dX5_granted_0 rfl (lv_at hl 0 rfl) ?_
  refine lv_iconst (v := 0) hx hb dX5_granted_1 (by decide) ?_
  refine va_put (D := (dC, dI)) (ci := 5) (v := .int 0) (ty := .int) (C := RX5) (T := TX5) (N := 33) hx hb hts hin_X5 tyX5 tyX5_ok nmX5 hown hK hP hD hS 0 rfl rfl 1 (by decide) hw0 (fun _ h9 => h9) rfl (by decide +kernel) rfl rfl (Nat.le_of_ble_eq_true rfl) dX5_granted_2 (fun H locs hP hD hS => ?_)
  have hP : va_P (dC, dI) vwCl (wM cI cZ cJ h F G (va_up V 1 0)) H := hP
  have hD : va_D A (wM cI cZ cJ h F G (va_up V 1 0)) := hD
  refine lv_iconst (v := 1) hx hb dX5_granted_5 (by decide) ?_
  exact hret 1 () H locs 6 ls rfl dX5_granted_6 (by first | rfl | (simp []; done) | (exfalso; omega)) (hP) (hD) hS
theorem mir_nat {v : Int32} {n : Nat} (hn : n ≤ 40) (h : (!ltI v 0 && ltI v (nI n)) = true) : ∃ k : Nat, k < n ∧ v = nI k := by
  simp only [ltI, Bool.and_eq_true, Bool.not_eq_true', decide_eq_false_iff_not, decide_eq_true_eq] at h
  obtain ⟨j, hj, e⟩ := nI_of h.1
  refine ⟨j, ?_, e⟩
  have q := h.2
  rw [e] at q
  exact (nI_ltI hj (by omega)).mp q
theorem dec_clamp {x : Int32} (h : ltI 0 x = true) : (x + Int32.ofInt (-1)).toNatClampNeg < x.toNatClampNeg := by
  have h1 := of_decide_eq_true h
  obtain ⟨j, hj, e⟩ := nI_of (x := x) (fun q => absurd (Int32.lt_trans q h1) (Int32.lt_irrefl))
  rw [e] at h1 ⊢
  have h2 : 0 < j := (nI_ltI (a := 0) (b := j) (by omega) hj).mp h1
  rw [dec_nI (by omega), nI_clamp (by omega), nI_clamp hj]
  omega
def rm_X5_isMirror : Room := { frames := 0, cells := 0, slots := 0, locals := 0 }
set_option maxHeartbeats 4000000 in
set_option maxRecDepth 100000 in
theorem c_X5_isMirror (l : Launch) (dC : Nat → ClassId) (dI : Nat → Nat → Nat) (cI cZ cJ : ClassId) (h : Nat → Nat) (F : Nat → Nat → Int32) (G : Nat → Int64) (V : Nat → Int32) (n : Nat) (hV2 : V 2 = nI n) (bV2 : n ≤ 40) (p0 : Int32)   : CtI l (dC, dI) vwCl (tys3 cI cZ cJ) yX5_isMirror wsX5_isMirror rm_X5_isMirror [.ref (h 0), .int p0] (wM cI cZ cJ h F G V) (S := Unit) (fun r _ => r = bI (!ltI p0 0 && ltI p0 (nI n))) (fun _ => wM cI cZ cJ h F G V) 0 0 := by
  refine ct_I (cc := cX5_isMirror) (maxL := 2) (ty := .boolean) (own := RX5) (by decide) rfl rfl (Nat.le_of_ble_eq_true rfl) (lv := [(0, .ref (h 0)), (1, .int p0)]) rfl ?_
  intro p e s m args below meth c A Q ls fx hK hP hD hA hl hret
  obtain ⟨hx, hb, hml, hown, hts⟩ := id fx
  have hS : va_S A s.heap s.heap [] := va_S.rf
  have hw0 := hts (.fieldLink RX5 91 "MirrorTowerModel" "mirrors" "I") (by decide +kernel)
  have hin_X5 : ∀ w ∈ u_ws RX5 TX5 33, w ∈ wsX5_isMirror := by decide +kernel
  obtain ⟨H, hH⟩ : ∃ H, H = s.heap := ⟨_, rfl⟩
  rw [← hH] at hP ⊢
  have hS : va_S A s.heap H [] := by rw [hH]; exact hS
  generalize ([] : List Loc) = locs at hS ⊢
  refine lv_iload_n hx hb dX5_isMirror_0 rfl (lv_at hl 1 rfl) ?_
  refine lv_if_lt (tgt := 16) hx hb dX5_isMirror_1 (by decide) (fun c_1 => ?_) (fun c_1 => ?_)
  · have c_1 : ltI p0 0 = true := decide_eq_true c_1
    refine lv_iconst (v := 0) hx hb dX5_isMirror_16 (by decide) ?_
    exact hret 0 () H locs 17 ls rfl dX5_isMirror_17 (by first | rfl | (simp [bI, c_1]; done) | (exfalso; omega)) (hP) (hD) hS
  · have c_1 : ltI p0 0 = false := decide_eq_false c_1
    refine lv_iload_n hx hb dX5_isMirror_4 rfl (lv_at hl 1 rfl) ?_
    refine lv_aload_n hx hb dX5_isMirror_5 rfl (lv_at hl 0 rfl) ?_
    refine va_get (D := (dC, dI)) (ci := 5) (v := .int (V 2)) (C := RX5) (T := TX5) (N := 33) hx hb hts hin_X5 hown hK hP 0 rfl rfl 2 (by decide) hw0 (fun _ h9 => h9) rfl dX5_isMirror_6 ?_
    refine lv_topi (fun x_2 ex_2 => ?_)
    obtain rfl : x_2 = nI n := ex_2.trans (hV2)
    refine lv_icmp_ge (tgt := 16) hx hb dX5_isMirror_9 (by decide) (fun c_3 => ?_) (fun c_3 => ?_)
    · have c_3 : ltI p0 (nI n) = false := decide_eq_false (Int32.not_lt.mpr c_3)
      refine lv_iconst (v := 0) hx hb dX5_isMirror_16 (by decide) ?_
      exact hret 0 () H locs 17 ls rfl dX5_isMirror_17 (by first | rfl | (simp [bI, c_1, c_3]; done) | (exfalso; omega)) (hP) (hD) hS
    · have c_3 : ltI p0 (nI n) = true := decide_eq_true (Int32.not_le.mp c_3)
      refine lv_iconst (v := 1) hx hb dX5_isMirror_12 (by decide) ?_
      refine lv_goto (tgt := 17) hx hb dX5_isMirror_13 (by decide) ?_
      exact hret 1 () H locs 17 ls rfl dX5_isMirror_17 (by first | rfl | (simp [bI, c_1, c_3]; done) | (exfalso; omega)) (hP) (hD) hS
def rm_X5_isStowed : Room := { frames := 0, cells := 0, slots := 0, locals := 0 }
set_option maxHeartbeats 4000000 in
set_option maxRecDepth 100000 in
theorem c_X5_isStowed (l : Launch) (dC : Nat → ClassId) (dI : Nat → Nat → Nat) (cI cZ cJ : ClassId) (h : Nat → Nat) (F : Nat → Nat → Int32) (G : Nat → Int64) (V : Nat → Int32)  (Wd : Nat → Nat) (hWd : ∀ i, i < 24 → F 8 i = nI (Wd i)) (bWd : ∀ i, i < 24 → Wd i ≤ 99) (k0 : Nat) (hk0 : k0 < 24)   : CtI l (dC, dI) vwCl (tys3 cI cZ cJ) yX5_isStowed wsX5_isStowed rm_X5_isStowed [.ref (h 0), .int (nI k0)] (wM cI cZ cJ h F G V) (S := Unit) (fun r _ => r = bI (stow Wd k0)) (fun _ => wM cI cZ cJ h F G V) 0 0 := by
  refine ct_I (cc := cX5_isStowed) (maxL := 2) (ty := .boolean) (own := RX5) (by decide) rfl rfl (Nat.le_of_ble_eq_true rfl) (lv := [(0, .ref (h 0)), (1, .int (nI k0))]) rfl ?_
  intro p e s m args below meth c A Q ls fx hK hP hD hA hl hret
  obtain ⟨hx, hb, hml, hown, hts⟩ := id fx
  have hS : va_S A s.heap s.heap [] := va_S.rf
  have hw0 := hts (.fieldLink RX5 41 "MirrorTowerModel" "wind" "[I") (by decide +kernel)
  have hin_X5 : ∀ w ∈ u_ws RX5 TX5 33, w ∈ wsX5_isStowed := by decide +kernel
  obtain ⟨H, hH⟩ : ∃ H, H = s.heap := ⟨_, rfl⟩
  rw [← hH] at hP ⊢
  have hS : va_S A s.heap H [] := by rw [hH]; exact hS
  generalize ([] : List Loc) = locs at hS ⊢
  refine lv_aload_n hx hb dX5_isStowed_0 rfl (lv_at hl 0 rfl) ?_
  refine va_get (D := (dC, dI)) (ci := 5) (v := .ref (h 8)) (C := RX5) (T := TX5) (N := 33) hx hb hts hin_X5 hown hK hP 0 rfl rfl 15 (by decide) hw0 (fun _ h9 => h9) rfl dX5_isStowed_1 ?_
  refine lv_iload_n hx hb dX5_isStowed_4 rfl (lv_at hl 1 rfl) ?_
  refine va_iald hx hb hK hP 8 0 rfl rfl (vp_in_nI (n := k0) (N := 24) (by omega) (by decide)) dX5_isStowed_5 ?_
  have hb_1 := bWd k0 (by omega)
  refine lv_topi (fun x_2 ex_2 => ?_)
  obtain rfl : x_2 = nI (Wd k0) := ex_2.trans ((congrArg (F 8) (nI_clamp (n := k0) (by omega))).trans (hWd k0 (by omega)))
  refine lv_bipush (v := 50) hx hb dX5_isStowed_6 (by decide) ?_
  refine lv_icmp_gt (tgt := 32) hx hb dX5_isStowed_8 (by decide) (fun c_3 => ?_) (fun c_3 => ?_)
  · have c_3 : 50 < (Wd k0) := (nI_ltI (a := 50) (b := Wd k0) (by omega) (by omega)).mp c_3
    refine lv_iconst (v := 1) hx hb dX5_isStowed_32 (by decide) ?_
    refine lv_goto (tgt := 37) hx hb dX5_isStowed_33 (by decide) ?_
    exact hret 1 () H locs 37 ls rfl dX5_isStowed_37 (by rw [show stow Wd k0 = true from by simp [stow]; omega]; rfl) (hP) (hD) hS
  · have c_3 : ¬ 50 < (Wd k0) := fun h => c_3 ((nI_ltI (a := 50) (b := Wd k0) (by omega) (by omega)).mpr h)
    refine lv_iload_n hx hb dX5_isStowed_11 rfl (lv_at hl 1 rfl) ?_
    refine lv_iconst (v := 1) hx hb dX5_isStowed_12 (by decide) ?_
    refine lv_iadd hx hb dX5_isStowed_13 ?_
    refine lv_topi (fun x_4 ex_4 => ?_)
    obtain rfl : x_4 = nI (k0 + 1) := ex_4.trans (nI_add k0 1)
    refine lv_bipush (v := 24) hx hb dX5_isStowed_14 (by decide) ?_
    refine lv_icmp_ge (tgt := 36) hx hb dX5_isStowed_16 (by decide) (fun c_5 => ?_) (fun c_5 => ?_)
    · have c_5 : 24 ≤ (k0 + 1) := (nI_leI (a := 24) (b := k0 + 1) (by omega) (by omega)).mp c_5
      refine lv_iconst (v := 0) hx hb dX5_isStowed_36 (by decide) ?_
      exact hret 0 () H locs 37 ls rfl dX5_isStowed_37 (by rw [show stow Wd k0 = false from by simp [stow]; omega]; rfl) (hP) (hD) hS
    · have c_5 : ¬ 24 ≤ (k0 + 1) := fun h => c_5 ((nI_leI (a := 24) (b := k0 + 1) (by omega) (by omega)).mpr h)
      refine lv_aload_n hx hb dX5_isStowed_19 rfl (lv_at hl 0 rfl) ?_
      refine va_get (D := (dC, dI)) (ci := 5) (v := .ref (h 8)) (C := RX5) (T := TX5) (N := 33) hx hb hts hin_X5 hown hK hP 0 rfl rfl 15 (by decide) hw0 (fun _ h9 => h9) rfl dX5_isStowed_20 ?_
      refine lv_iload_n hx hb dX5_isStowed_23 rfl (lv_at hl 1 rfl) ?_
      refine lv_iconst (v := 1) hx hb dX5_isStowed_24 (by decide) ?_
      refine lv_iadd hx hb dX5_isStowed_25 ?_
      refine lv_topi (fun x_6 ex_6 => ?_)
      obtain rfl : x_6 = nI (k0 + 1) := ex_6.trans (nI_add k0 1)
      refine va_iald hx hb hK hP 8 0 rfl rfl (vp_in_nI (n := k0 + 1) (N := 24) (by omega) (by decide)) dX5_isStowed_26 ?_
      have hb_7 := bWd (k0 + 1) (by omega)
      refine lv_topi (fun x_8 ex_8 => ?_)
      obtain rfl : x_8 = nI (Wd (k0 + 1)) := ex_8.trans ((congrArg (F 8) (nI_clamp (n := k0 + 1) (by omega))).trans (hWd (k0 + 1) (by omega)))
      refine lv_bipush (v := 50) hx hb dX5_isStowed_27 (by decide) ?_
      refine lv_icmp_le (tgt := 36) hx hb dX5_isStowed_29 (by decide) (fun c_9 => ?_) (fun c_9 => ?_)
      · have c_9 : (Wd (k0 + 1)) ≤ 50 := (nI_leI (a := Wd (k0 + 1)) (b := 50) (by omega) (by omega)).mp c_9
        refine lv_iconst (v := 0) hx hb dX5_isStowed_36 (by decide) ?_
        exact hret 0 () H locs 37 ls rfl dX5_isStowed_37 (by rw [show stow Wd k0 = false from by simp [stow]; omega]; rfl) (hP) (hD) hS
      · have c_9 : ¬ (Wd (k0 + 1)) ≤ 50 := fun h => c_9 ((nI_leI (a := Wd (k0 + 1)) (b := 50) (by omega) (by omega)).mpr h)
        refine lv_iconst (v := 1) hx hb dX5_isStowed_32 (by decide) ?_
        refine lv_goto (tgt := 37) hx hb dX5_isStowed_33 (by decide) ?_
        exact hret 1 () H locs 37 ls rfl dX5_isStowed_37 (by rw [show stow Wd k0 = true from by simp [stow]; omega]; rfl) (hP) (hD) hS
def rm_X5_shades : Room := { frames := 0, cells := 0, slots := 0, locals := 0 }
set_option maxHeartbeats 4000000 in
set_option maxRecDepth 100000 in
theorem c_X5_shades (l : Launch) (dC : Nat → ClassId) (dI : Nat → Nat → Nat) (cI cZ cJ : ClassId) (h : Nat → Nat) (F : Nat → Nat → Int32) (G : Nat → Int64) (V : Nat → Int32) (n : Nat) (hV2 : V 2 = nI n) (bV2 : n ≤ 40) (Hh : Nat → Nat) (hHh : ∀ i, i < 24 → F 7 i = nI (Hh i)) (bHh : ∀ i, i < 24 → Hh i ≤ 9) (X : Nat → Nat) (hX : ∀ i, i < n → F 1 i = nI (X i)) (bX : ∀ i, i < n → X i ≤ 14) (Y : Nat → Nat) (hY : ∀ i, i < n → F 2 i = nI (Y i)) (bY : ∀ i, i < n → Y i ≤ 14) (k0 k1 : Nat) (hk0 : k0 < n) (hk1 : k1 < 24)  (SX SY : Nat → Int32) (hSX : ∀ i, i < 24 → F 5 i = SX i) (hSY : ∀ i, i < 24 → F 6 i = SY i) : CtI l (dC, dI) vwCl (tys3 cI cZ cJ) yX5_shades wsX5_shades rm_X5_shades [.ref (h 0), .int (nI k0), .int (nI k1)] (wM cI cZ cJ h F G V) (S := Unit) (fun r _ => r = nI (shA X Y n SX SY Hh k0 k1)) (fun _ => wM cI cZ cJ h F G V) 0 0 := by
  refine ct_I (cc := cX5_shades) (maxL := 6) (ty := .int) (own := RX5) (by decide) rfl rfl (Nat.le_of_ble_eq_true rfl) (lv := [(0, .ref (h 0)), (1, .int (nI k0)), (2, .int (nI k1))]) rfl ?_
  intro p e s m args below meth c A Q ls fx hK hP hD hA hl hret
  obtain ⟨hx, hb, hml, hown, hts⟩ := id fx
  have hS : va_S A s.heap s.heap [] := va_S.rf
  have hw0 := hts (.fieldLink RX5 38 "MirrorTowerModel" "height" "[I") (by decide +kernel)
  have hin_X5 : ∀ w ∈ u_ws RX5 TX5 33, w ∈ wsX5_shades := by decide +kernel
  have hw2 := hts (.fieldLink RX5 91 "MirrorTowerModel" "mirrors" "I") (by decide +kernel)
  have hw3 := hts (.fieldLink RX5 19 "MirrorTowerModel" "x" "[I") (by decide +kernel)
  have hw4 := hts (.fieldLink RX5 32 "MirrorTowerModel" "sunX" "[I") (by decide +kernel)
  have hw5 := hts (.fieldLink RX5 23 "MirrorTowerModel" "y" "[I") (by decide +kernel)
  have hw6 := hts (.fieldLink RX5 35 "MirrorTowerModel" "sunY" "[I") (by decide +kernel)
  have hH9_ := bHh k1 hk1
  obtain ⟨H, hH⟩ : ∃ H, H = s.heap := ⟨_, rfl⟩
  rw [← hH] at hP ⊢
  have hS : va_S A s.heap H [] := by rw [hH]; exact hS
  generalize ([] : List Loc) = locs at hS ⊢
  refine lv_iconst (v := 0) hx hb dX5_shades_0 (by decide) ?_
  refine lv_istore_n (lv' := [(3, .int 0), (0, .ref (h 0)), (1, .int (nI k0)), (2, .int (nI k1))]) hx hb dX5_shades_1 rfl hl (by decide) rfl (fun ls hl => ?_)
  refine lv_iconst (v := 1) hx hb dX5_shades_2 (by decide) ?_
  refine lv_istore (lv' := [(4, .int 1), (3, .int 0), (0, .ref (h 0)), (1, .int (nI k0)), (2, .int (nI k1))]) hx hb dX5_shades_3 hl (by decide) rfl (fun ls hl => ?_)
  have loop5 : ∀ (fu : Nat) (k : Nat), (k ≤ 11 - Hh k1) → (1 ≤ k) → (Hh k1 = 0 → k = 1) → (11 - k) < fu → ∀ (H : Heap) (locs : List Loc) (ls : Array Slot), va_P (dC, dI) vwCl (wM cI cZ cJ h F G V) H → va_D A (wM cI cZ cJ h F G V) → va_S A s.heap H locs → lv_has ls 6 [(0, .ref (h 0)), (1, .int (nI k0)), (2, .int (nI k1)), (3, .int (nI (shS X Y n (SX k1) (SY k1) (nI (X k0)) (nI (Y k0)) (k - 1)))), (4, .int (nI k))] → W p l e rm_X5_shades s m args below meth c H locs 0 0 Q (F0 m 5 ls []) := by
    intro fu
    induction fu with
    | zero => intro k hk hk1_ hz_ hn_; exact absurd hn_ (Nat.not_lt_zero _)
    | succ fu ih5 =>
      intro k hk hk1_ hz_ hn_ H locs ls hP hD hS hl
      refine lv_iload hx hb dX5_shades_5 (lv_at hl 4 rfl) ?_
      refine lv_bipush (v := 10) hx hb dX5_shades_7 (by decide) ?_
      refine lv_aload_n hx hb dX5_shades_9 rfl (lv_at hl 0 rfl) ?_
      refine va_get (D := (dC, dI)) (ci := 5) (v := .ref (h 7)) (C := RX5) (T := TX5) (N := 33) hx hb hts hin_X5 hown hK hP 0 rfl rfl 14 (by decide) hw0 (fun _ h9 => h9) rfl dX5_shades_10 ?_
      refine lv_iload_n hx hb dX5_shades_13 rfl (lv_at hl 2 rfl) ?_
      refine va_iald hx hb hK hP 7 0 rfl rfl (vp_in_nI (n := k1) (N := 24) (by omega) (by decide)) dX5_shades_14 ?_
      have hb_1 := bHh k1 (by omega)
      refine lv_topi (fun x_2 ex_2 => ?_)
      obtain rfl : x_2 = nI (Hh k1) := ex_2.trans ((congrArg (F 7) (nI_clamp (n := k1) (by omega))).trans (hHh k1 (by omega)))
      refine lv_isub hx hb dX5_shades_15 ?_
      refine lv_topi (fun x_3 ex_3 => ?_)
      obtain rfl : x_3 = nI (10 - (Hh k1)) := ex_3.trans (pk_sub (a := 10) (b := Hh k1) (by omega))
      refine lv_icmp_gt (tgt := 112) hx hb dX5_shades_16 (by decide) (fun c_4 => ?_) (fun c_4 => ?_)
      · have c_4 : (10 - (Hh k1)) < k := (nI_ltI (a := 10 - (Hh k1)) (b := k) (by omega) (by omega)).mp c_4
        refine lv_iload_n hx hb dX5_shades_112 rfl (lv_at hl 3 rfl) ?_
        exact hret (nI (shS X Y n (SX k1) (SY k1) (nI (X k0)) (nI (Y k0)) (k - 1))) () H locs 113 ls rfl dX5_shades_113 (by
                    by_cases q_ : Hh k1 = 0
                    · rw [shA, if_pos q_, show k = 1 from hz_ q_]; rfl
                    · rw [shA, if_neg q_, show k - 1 = 10 - Hh k1 by omega]) (hP) (hD) hS
      · have c_4 : ¬ (10 - (Hh k1)) < k := fun h => c_4 ((nI_ltI (a := 10 - (Hh k1)) (b := k) (by omega) (by omega)).mpr h)
        refine lv_aload_n hx hb dX5_shades_19 rfl (lv_at hl 0 rfl) ?_
        refine va_get (D := (dC, dI)) (ci := 5) (v := .ref (h 7)) (C := RX5) (T := TX5) (N := 33) hx hb hts hin_X5 hown hK hP 0 rfl rfl 14 (by decide) hw0 (fun _ h9 => h9) rfl dX5_shades_20 ?_
        refine lv_iload_n hx hb dX5_shades_23 rfl (lv_at hl 2 rfl) ?_
        refine va_iald hx hb hK hP 7 0 rfl rfl (vp_in_nI (n := k1) (N := 24) (by omega) (by decide)) dX5_shades_24 ?_
        have hb_5 := bHh k1 (by omega)
        refine lv_topi (fun x_6 ex_6 => ?_)
        obtain rfl : x_6 = nI (Hh k1) := ex_6.trans ((congrArg (F 7) (nI_clamp (n := k1) (by omega))).trans (hHh k1 (by omega)))
        refine lv_if_le (tgt := 112) hx hb dX5_shades_25 (by decide) (fun c_7 => ?_) (fun c_7 => ?_)
        · have c_7 : (Hh k1) ≤ 0 := (nI_leI (a := Hh k1) (b := 0) (by omega) (by omega)).mp c_7
          refine lv_iload_n hx hb dX5_shades_112 rfl (lv_at hl 3 rfl) ?_
          exact hret (nI (shS X Y n (SX k1) (SY k1) (nI (X k0)) (nI (Y k0)) (k - 1))) () H locs 113 ls rfl dX5_shades_113 (by
                      by_cases q_ : Hh k1 = 0
                      · rw [shA, if_pos q_, show k = 1 from hz_ q_]; rfl
                      · rw [shA, if_neg q_, show k - 1 = 10 - Hh k1 by omega]) (hP) (hD) hS
        · have c_7 : ¬ (Hh k1) ≤ 0 := fun h => c_7 ((nI_leI (a := Hh k1) (b := 0) (by omega) (by omega)).mpr h)
          refine lv_iconst (v := 0) hx hb dX5_shades_28 (by decide) ?_
          refine lv_istore (lv' := [(5, .int 0), (0, .ref (h 0)), (1, .int (nI k0)), (2, .int (nI k1)), (3, .int (nI (shS X Y n (SX k1) (SY k1) (nI (X k0)) (nI (Y k0)) (k - 1)))), (4, .int (nI k))]) hx hb dX5_shades_29 hl (by decide) rfl (fun ls hl => ?_)
          have loop31 : ∀ (fu : Nat) (o : Nat), (o ≤ n) → (n - o) < fu → ∀ (H : Heap) (locs : List Loc) (ls : Array Slot), va_P (dC, dI) vwCl (wM cI cZ cJ h F G V) H → va_D A (wM cI cZ cJ h F G V) → va_S A s.heap H locs → lv_has ls 6 [(0, .ref (h 0)), (1, .int (nI k0)), (2, .int (nI k1)), (3, .int (nI (shS X Y n (SX k1) (SY k1) (nI (X k0)) (nI (Y k0)) (k - 1) + cnt X Y o (nI (X k0) + nI k * SX k1) (nI (Y k0) + nI k * SY k1)))), (4, .int (nI k)), (5, .int (nI o))] → W p l e rm_X5_shades s m args below meth c H locs 0 0 Q (F0 m 31 ls []) := by
            intro fu
            induction fu with
            | zero => intro o ho hn_; exact absurd hn_ (Nat.not_lt_zero _)
            | succ fu ih31 =>
              intro o ho hn_ H locs ls hP hD hS hl
              refine lv_iload hx hb dX5_shades_31 (lv_at hl 5 rfl) ?_
              refine lv_aload_n hx hb dX5_shades_33 rfl (lv_at hl 0 rfl) ?_
              refine va_get (D := (dC, dI)) (ci := 5) (v := .int (V 2)) (C := RX5) (T := TX5) (N := 33) hx hb hts hin_X5 hown hK hP 0 rfl rfl 2 (by decide) hw2 (fun _ h9 => h9) rfl dX5_shades_34 ?_
              refine lv_topi (fun x_8 ex_8 => ?_)
              obtain rfl : x_8 = nI n := ex_8.trans (hV2)
              refine lv_icmp_ge (tgt := 106) hx hb dX5_shades_37 (by decide) (fun c_9 => ?_) (fun c_9 => ?_)
              · have c_9 : n ≤ o := (nI_leI (a := n) (b := o) (by omega) (by omega)).mp c_9
                refine lv_iinc (v := nI (k + 1)) (lv' := [(4, .int (nI (k + 1))), (0, .ref (h 0)), (1, .int (nI k0)), (2, .int (nI k1)), (3, .int (nI (shS X Y n (SX k1) (SY k1) (nI (X k0)) (nI (Y k0)) (k - 1) + cnt X Y o (nI (X k0) + nI k * SX k1) (nI (Y k0) + nI k * SY k1)))), (5, .int (nI o))]) hx hb dX5_shades_106 hl (k := 4) rfl (nI_1 _) (by decide) rfl (fun ls hl => ?_)
                refine lv_goto (tgt := 5) hx hb dX5_shades_109 (by decide) ?_
                have hq_ : shS X Y n (SX k1) (SY k1) (nI (X k0)) (nI (Y k0)) (k + 1 - 1) = shS X Y n (SX k1) (SY k1) (nI (X k0)) (nI (Y k0)) (k - 1) + cnt X Y o (nI (X k0) + nI k * SX k1) (nI (Y k0) + nI k * SY k1) := by rw [show o = n by omega, show k + 1 - 1 = (k - 1) + 1 by omega, shS, show k - 1 + 1 = k by omega]
                have hl : lv_has ls 6 [(4, .int (nI (k + 1))), (0, .ref (h 0)), (1, .int (nI k0)), (2, .int (nI k1)), (3, .int (nI (shS X Y n (SX k1) (SY k1) (nI (X k0)) (nI (Y k0)) (k + 1 - 1)))), (5, .int (nI o))] := by rw [hq_]; exact hl
                exact ih5 (k + 1) (by omega) (by omega) (fun q => by omega) (by omega) H locs ls hP hD hS (lv_sub hl [1, 2, 3, 4, 0] rfl)
              · have c_9 : ¬ n ≤ o := fun h => c_9 ((nI_leI (a := n) (b := o) (by omega) (by omega)).mpr h)
                refine lv_iload_n hx hb dX5_shades_40 rfl (lv_at hl 3 rfl) ?_
                refine lv_aload_n hx hb dX5_shades_41 rfl (lv_at hl 0 rfl) ?_
                refine va_get (D := (dC, dI)) (ci := 5) (v := .ref (h 1)) (C := RX5) (T := TX5) (N := 33) hx hb hts hin_X5 hown hK hP 0 rfl rfl 8 (by decide) hw3 (fun _ h9 => h9) rfl dX5_shades_42 ?_
                refine lv_iload hx hb dX5_shades_45 (lv_at hl 5 rfl) ?_
                refine va_iald hx hb hK hP 1 0 rfl rfl (vp_in_nI (n := o) (N := 40) (by omega) (by decide)) dX5_shades_47 ?_
                have hb_10 := bX o (by omega)
                refine lv_topi (fun x_11 ex_11 => ?_)
                obtain rfl : x_11 = nI (X o) := ex_11.trans ((congrArg (F 1) (nI_clamp (n := o) (by omega))).trans (hX o (by omega)))
                refine lv_aload_n hx hb dX5_shades_48 rfl (lv_at hl 0 rfl) ?_
                refine va_get (D := (dC, dI)) (ci := 5) (v := .ref (h 1)) (C := RX5) (T := TX5) (N := 33) hx hb hts hin_X5 hown hK hP 0 rfl rfl 8 (by decide) hw3 (fun _ h9 => h9) rfl dX5_shades_49 ?_
                refine lv_iload_n hx hb dX5_shades_52 rfl (lv_at hl 1 rfl) ?_
                refine va_iald hx hb hK hP 1 0 rfl rfl (vp_in_nI (n := k0) (N := 40) (by omega) (by decide)) dX5_shades_53 ?_
                have hb_12 := bX k0 (by omega)
                refine lv_topi (fun x_13 ex_13 => ?_)
                obtain rfl : x_13 = nI (X k0) := ex_13.trans ((congrArg (F 1) (nI_clamp (n := k0) (by omega))).trans (hX k0 (by omega)))
                refine lv_iload hx hb dX5_shades_54 (lv_at hl 4 rfl) ?_
                refine lv_aload_n hx hb dX5_shades_56 rfl (lv_at hl 0 rfl) ?_
                refine va_get (D := (dC, dI)) (ci := 5) (v := .ref (h 5)) (C := RX5) (T := TX5) (N := 33) hx hb hts hin_X5 hown hK hP 0 rfl rfl 12 (by decide) hw4 (fun _ h9 => h9) rfl dX5_shades_57 ?_
                refine lv_iload_n hx hb dX5_shades_60 rfl (lv_at hl 2 rfl) ?_
                refine va_iald hx hb hK hP 5 0 rfl rfl (vp_in_nI (n := k1) (N := 24) (by omega) (by decide)) dX5_shades_61 ?_
                refine lv_topi (fun x_14 ex_14 => ?_)
                rw [nI_clamp (n := k1) (by omega)] at ex_14
                obtain rfl : x_14 = SX k1 := ex_14.trans (hSX k1 hk1)
                refine lv_imul hx hb dX5_shades_62 ?_
                refine lv_iadd hx hb dX5_shades_63 ?_
                refine lv_icmp_ne (tgt := 97) hx hb dX5_shades_64 (by decide) (fun c_15 => ?_) (fun c_15 => ?_)
                · have c_15 : eqI (nI (X o)) ((nI (X k0)) + ((nI k) * (SX k1))) = false := decide_eq_false c_15
                  refine lv_iconst (v := 0) hx hb dX5_shades_97 (by decide) ?_
                  refine lv_iadd hx hb dX5_shades_98 ?_
                  refine lv_topi (fun x_16 ex_16 => ?_)
                  obtain rfl : x_16 = nI ((shS X Y n (SX k1) (SY k1) (nI (X k0)) (nI (Y k0)) (k - 1) + cnt X Y o (nI (X k0) + nI k * SX k1) (nI (Y k0) + nI k * SY k1)) + 0) := ex_16.trans (nI_add (shS X Y n (SX k1) (SY k1) (nI (X k0)) (nI (Y k0)) (k - 1) + cnt X Y o (nI (X k0) + nI k * SX k1) (nI (Y k0) + nI k * SY k1)) 0)
                  refine lv_istore_n (lv' := [(3, .int (nI ((shS X Y n (SX k1) (SY k1) (nI (X k0)) (nI (Y k0)) (k - 1) + cnt X Y o (nI (X k0) + nI k * SX k1) (nI (Y k0) + nI k * SY k1)) + 0))), (0, .ref (h 0)), (1, .int (nI k0)), (2, .int (nI k1)), (4, .int (nI k)), (5, .int (nI o))]) hx hb dX5_shades_99 rfl hl (by decide) rfl (fun ls hl => ?_)
                  refine lv_iinc (v := nI (o + 1)) (lv' := [(5, .int (nI (o + 1))), (3, .int (nI ((shS X Y n (SX k1) (SY k1) (nI (X k0)) (nI (Y k0)) (k - 1) + cnt X Y o (nI (X k0) + nI k * SX k1) (nI (Y k0) + nI k * SY k1)) + 0))), (0, .ref (h 0)), (1, .int (nI k0)), (2, .int (nI k1)), (4, .int (nI k))]) hx hb dX5_shades_100 hl (k := 5) rfl (nI_1 _) (by decide) rfl (fun ls hl => ?_)
                  refine lv_goto (tgt := 31) hx hb dX5_shades_103 (by decide) ?_
                  have hq_ : cnt X Y (o + 1) (nI (X k0) + nI k * SX k1) (nI (Y k0) + nI k * SY k1) = cnt X Y o (nI (X k0) + nI k * SX k1) (nI (Y k0) + nI k * SY k1) + 0 := by rw [cnt, c_15]; rfl
                  have hl : lv_has ls 6 [(5, .int (nI (o + 1))), (3, .int (nI (shS X Y n (SX k1) (SY k1) (nI (X k0)) (nI (Y k0)) (k - 1) + cnt X Y (o + 1) (nI (X k0) + nI k * SX k1) (nI (Y k0) + nI k * SY k1)))), (0, .ref (h 0)), (1, .int (nI k0)), (2, .int (nI k1)), (4, .int (nI k))] := by rw [hq_, ← Nat.add_assoc]; exact hl
                  exact ih31 (o + 1) (by omega) (by omega) H locs ls hP hD hS (lv_sub hl [2, 3, 4, 1, 5, 0] rfl)
                · have c_15 : eqI (nI (X o)) ((nI (X k0)) + ((nI k) * (SX k1))) = true := decide_eq_true c_15
                  refine lv_aload_n hx hb dX5_shades_67 rfl (lv_at hl 0 rfl) ?_
                  refine va_get (D := (dC, dI)) (ci := 5) (v := .ref (h 2)) (C := RX5) (T := TX5) (N := 33) hx hb hts hin_X5 hown hK hP 0 rfl rfl 9 (by decide) hw5 (fun _ h9 => h9) rfl dX5_shades_68 ?_
                  refine lv_iload hx hb dX5_shades_71 (lv_at hl 5 rfl) ?_
                  refine va_iald hx hb hK hP 2 0 rfl rfl (vp_in_nI (n := o) (N := 40) (by omega) (by decide)) dX5_shades_73 ?_
                  have hb_17 := bY o (by omega)
                  refine lv_topi (fun x_18 ex_18 => ?_)
                  obtain rfl : x_18 = nI (Y o) := ex_18.trans ((congrArg (F 2) (nI_clamp (n := o) (by omega))).trans (hY o (by omega)))
                  refine lv_aload_n hx hb dX5_shades_74 rfl (lv_at hl 0 rfl) ?_
                  refine va_get (D := (dC, dI)) (ci := 5) (v := .ref (h 2)) (C := RX5) (T := TX5) (N := 33) hx hb hts hin_X5 hown hK hP 0 rfl rfl 9 (by decide) hw5 (fun _ h9 => h9) rfl dX5_shades_75 ?_
                  refine lv_iload_n hx hb dX5_shades_78 rfl (lv_at hl 1 rfl) ?_
                  refine va_iald hx hb hK hP 2 0 rfl rfl (vp_in_nI (n := k0) (N := 40) (by omega) (by decide)) dX5_shades_79 ?_
                  have hb_19 := bY k0 (by omega)
                  refine lv_topi (fun x_20 ex_20 => ?_)
                  obtain rfl : x_20 = nI (Y k0) := ex_20.trans ((congrArg (F 2) (nI_clamp (n := k0) (by omega))).trans (hY k0 (by omega)))
                  refine lv_iload hx hb dX5_shades_80 (lv_at hl 4 rfl) ?_
                  refine lv_aload_n hx hb dX5_shades_82 rfl (lv_at hl 0 rfl) ?_
                  refine va_get (D := (dC, dI)) (ci := 5) (v := .ref (h 6)) (C := RX5) (T := TX5) (N := 33) hx hb hts hin_X5 hown hK hP 0 rfl rfl 13 (by decide) hw6 (fun _ h9 => h9) rfl dX5_shades_83 ?_
                  refine lv_iload_n hx hb dX5_shades_86 rfl (lv_at hl 2 rfl) ?_
                  refine va_iald hx hb hK hP 6 0 rfl rfl (vp_in_nI (n := k1) (N := 24) (by omega) (by decide)) dX5_shades_87 ?_
                  refine lv_topi (fun x_21 ex_21 => ?_)
                  rw [nI_clamp (n := k1) (by omega)] at ex_21
                  obtain rfl : x_21 = SY k1 := ex_21.trans (hSY k1 hk1)
                  refine lv_imul hx hb dX5_shades_88 ?_
                  refine lv_iadd hx hb dX5_shades_89 ?_
                  refine lv_icmp_ne (tgt := 97) hx hb dX5_shades_90 (by decide) (fun c_22 => ?_) (fun c_22 => ?_)
                  · have c_22 : eqI (nI (Y o)) ((nI (Y k0)) + ((nI k) * (SY k1))) = false := decide_eq_false c_22
                    refine lv_iconst (v := 0) hx hb dX5_shades_97 (by decide) ?_
                    refine lv_iadd hx hb dX5_shades_98 ?_
                    refine lv_topi (fun x_23 ex_23 => ?_)
                    obtain rfl : x_23 = nI ((shS X Y n (SX k1) (SY k1) (nI (X k0)) (nI (Y k0)) (k - 1) + cnt X Y o (nI (X k0) + nI k * SX k1) (nI (Y k0) + nI k * SY k1)) + 0) := ex_23.trans (nI_add (shS X Y n (SX k1) (SY k1) (nI (X k0)) (nI (Y k0)) (k - 1) + cnt X Y o (nI (X k0) + nI k * SX k1) (nI (Y k0) + nI k * SY k1)) 0)
                    refine lv_istore_n (lv' := [(3, .int (nI ((shS X Y n (SX k1) (SY k1) (nI (X k0)) (nI (Y k0)) (k - 1) + cnt X Y o (nI (X k0) + nI k * SX k1) (nI (Y k0) + nI k * SY k1)) + 0))), (0, .ref (h 0)), (1, .int (nI k0)), (2, .int (nI k1)), (4, .int (nI k)), (5, .int (nI o))]) hx hb dX5_shades_99 rfl hl (by decide) rfl (fun ls hl => ?_)
                    refine lv_iinc (v := nI (o + 1)) (lv' := [(5, .int (nI (o + 1))), (3, .int (nI ((shS X Y n (SX k1) (SY k1) (nI (X k0)) (nI (Y k0)) (k - 1) + cnt X Y o (nI (X k0) + nI k * SX k1) (nI (Y k0) + nI k * SY k1)) + 0))), (0, .ref (h 0)), (1, .int (nI k0)), (2, .int (nI k1)), (4, .int (nI k))]) hx hb dX5_shades_100 hl (k := 5) rfl (nI_1 _) (by decide) rfl (fun ls hl => ?_)
                    refine lv_goto (tgt := 31) hx hb dX5_shades_103 (by decide) ?_
                    have hq_ : cnt X Y (o + 1) (nI (X k0) + nI k * SX k1) (nI (Y k0) + nI k * SY k1) = cnt X Y o (nI (X k0) + nI k * SX k1) (nI (Y k0) + nI k * SY k1) + 0 := by rw [cnt, c_15, c_22]; rfl
                    have hl : lv_has ls 6 [(5, .int (nI (o + 1))), (3, .int (nI (shS X Y n (SX k1) (SY k1) (nI (X k0)) (nI (Y k0)) (k - 1) + cnt X Y (o + 1) (nI (X k0) + nI k * SX k1) (nI (Y k0) + nI k * SY k1)))), (0, .ref (h 0)), (1, .int (nI k0)), (2, .int (nI k1)), (4, .int (nI k))] := by rw [hq_, ← Nat.add_assoc]; exact hl
                    exact ih31 (o + 1) (by omega) (by omega) H locs ls hP hD hS (lv_sub hl [2, 3, 4, 1, 5, 0] rfl)
                  · have c_22 : eqI (nI (Y o)) ((nI (Y k0)) + ((nI k) * (SY k1))) = true := decide_eq_true c_22
                    refine lv_iconst (v := 1) hx hb dX5_shades_93 (by decide) ?_
                    refine lv_goto (tgt := 98) hx hb dX5_shades_94 (by decide) ?_
                    refine lv_iadd hx hb dX5_shades_98 ?_
                    refine lv_topi (fun x_24 ex_24 => ?_)
                    obtain rfl : x_24 = nI ((shS X Y n (SX k1) (SY k1) (nI (X k0)) (nI (Y k0)) (k - 1) + cnt X Y o (nI (X k0) + nI k * SX k1) (nI (Y k0) + nI k * SY k1)) + 1) := ex_24.trans (nI_add (shS X Y n (SX k1) (SY k1) (nI (X k0)) (nI (Y k0)) (k - 1) + cnt X Y o (nI (X k0) + nI k * SX k1) (nI (Y k0) + nI k * SY k1)) 1)
                    refine lv_istore_n (lv' := [(3, .int (nI ((shS X Y n (SX k1) (SY k1) (nI (X k0)) (nI (Y k0)) (k - 1) + cnt X Y o (nI (X k0) + nI k * SX k1) (nI (Y k0) + nI k * SY k1)) + 1))), (0, .ref (h 0)), (1, .int (nI k0)), (2, .int (nI k1)), (4, .int (nI k)), (5, .int (nI o))]) hx hb dX5_shades_99 rfl hl (by decide) rfl (fun ls hl => ?_)
                    refine lv_iinc (v := nI (o + 1)) (lv' := [(5, .int (nI (o + 1))), (3, .int (nI ((shS X Y n (SX k1) (SY k1) (nI (X k0)) (nI (Y k0)) (k - 1) + cnt X Y o (nI (X k0) + nI k * SX k1) (nI (Y k0) + nI k * SY k1)) + 1))), (0, .ref (h 0)), (1, .int (nI k0)), (2, .int (nI k1)), (4, .int (nI k))]) hx hb dX5_shades_100 hl (k := 5) rfl (nI_1 _) (by decide) rfl (fun ls hl => ?_)
                    refine lv_goto (tgt := 31) hx hb dX5_shades_103 (by decide) ?_
                    have hq_ : cnt X Y (o + 1) (nI (X k0) + nI k * SX k1) (nI (Y k0) + nI k * SY k1) = cnt X Y o (nI (X k0) + nI k * SX k1) (nI (Y k0) + nI k * SY k1) + 1 := by rw [cnt, c_15, c_22]; rfl
                    have hl : lv_has ls 6 [(5, .int (nI (o + 1))), (3, .int (nI (shS X Y n (SX k1) (SY k1) (nI (X k0)) (nI (Y k0)) (k - 1) + cnt X Y (o + 1) (nI (X k0) + nI k * SX k1) (nI (Y k0) + nI k * SY k1)))), (0, .ref (h 0)), (1, .int (nI k0)), (2, .int (nI k1)), (4, .int (nI k))] := by rw [hq_, ← Nat.add_assoc]; exact hl
                    exact ih31 (o + 1) (by omega) (by omega) H locs ls hP hD hS (lv_sub hl [2, 3, 4, 1, 5, 0] rfl)
          exact loop31 _ 0 (by omega) (Nat.lt_succ_self _) H locs ls hP hD hS (lv_sub hl [1, 2, 3, 4, 5, 0] rfl)
  exact loop5 _ 1 (by omega) (by omega) (fun _ => rfl) (Nat.lt_succ_self _) H locs ls hP hD hS (lv_sub hl [2, 3, 4, 1, 0] rfl)
def rm_X5_blocks : Room := { frames := 0, cells := 0, slots := 0, locals := 0 }
set_option maxHeartbeats 4000000 in
set_option maxRecDepth 100000 in
theorem c_X5_blocks (l : Launch) (dC : Nat → ClassId) (dI : Nat → Nat → Nat) (cI cZ cJ : ClassId) (h : Nat → Nat) (F : Nat → Nat → Int32) (G : Nat → Int64) (V : Nat → Int32) (n : Nat) (hV2 : V 2 = nI n) (bV2 : n ≤ 40) (X : Nat → Nat) (hX : ∀ i, i < n → F 1 i = nI (X i)) (bX : ∀ i, i < n → X i ≤ 14) (Y : Nat → Nat) (hY : ∀ i, i < n → F 2 i = nI (Y i)) (bY : ∀ i, i < n → Y i ≤ 14) (k0 : Nat) (hk0 : k0 < n)   : CtI l (dC, dI) vwCl (tys3 cI cZ cJ) yX5_blocks wsX5_blocks rm_X5_blocks [.ref (h 0), .int (nI k0)] (wM cI cZ cJ h F G V) (S := Unit) (fun r _ => r = nI (blA X Y n k0)) (fun _ => wM cI cZ cJ h F G V) 0 0 := by
  refine ct_I (cc := cX5_blocks) (maxL := 9) (ty := .int) (own := RX5) (by decide) rfl rfl (Nat.le_of_ble_eq_true rfl) (lv := [(0, .ref (h 0)), (1, .int (nI k0))]) rfl ?_
  intro p e s m args below meth c A Q ls fx hK hP hD hA hl hret
  obtain ⟨hx, hb, hml, hown, hts⟩ := id fx
  have hS : va_S A s.heap s.heap [] := va_S.rf
  have hw0 := hts (.fieldLink RX5 19 "MirrorTowerModel" "x" "[I") (by decide +kernel)
  have hin_X5 : ∀ w ∈ u_ws RX5 TX5 33, w ∈ wsX5_blocks := by decide +kernel
  have hw2 := hts (.fieldLink RX5 23 "MirrorTowerModel" "y" "[I") (by decide +kernel)
  have hw3 := hts (.fieldLink RX5 91 "MirrorTowerModel" "mirrors" "I") (by decide +kernel)
  obtain ⟨H, hH⟩ : ∃ H, H = s.heap := ⟨_, rfl⟩
  rw [← hH] at hP ⊢
  have hS : va_S A s.heap H [] := by rw [hH]; exact hS
  generalize ([] : List Loc) = locs at hS ⊢
  refine lv_iconst (v := 0) hx hb dX5_blocks_0 (by decide) ?_
  refine lv_istore_n (lv' := [(2, .int 0), (0, .ref (h 0)), (1, .int (nI k0))]) hx hb dX5_blocks_1 rfl hl (by decide) rfl (fun ls hl => ?_)
  refine lv_bipush (v := 7) hx hb dX5_blocks_2 (by decide) ?_
  refine lv_aload_n hx hb dX5_blocks_4 rfl (lv_at hl 1 rfl) ?_
  refine va_get (D := (dC, dI)) (ci := 5) (v := .ref (h 1)) (C := RX5) (T := TX5) (N := 33) hx hb hts hin_X5 hown hK hP 0 rfl rfl 8 (by decide) hw0 (fun _ h9 => h9) rfl dX5_blocks_5 ?_
  refine lv_iload_n hx hb dX5_blocks_8 rfl (lv_at hl 2 rfl) ?_
  refine va_iald hx hb hK hP 1 0 rfl rfl (vp_in_nI (n := k0) (N := 40) (by omega) (by decide)) dX5_blocks_9 ?_
  have hb_1 := bX k0 (by omega)
  refine lv_topi (fun x_2 ex_2 => ?_)
  obtain rfl : x_2 = nI (X k0) := ex_2.trans ((congrArg (F 1) (nI_clamp (n := k0) (by omega))).trans (hX k0 (by omega)))
  refine lv_isub hx hb dX5_blocks_10 ?_
  refine lv_istore_n (lv' := [(3, .int (7 - (nI (X k0)))), (2, .int 0), (0, .ref (h 0)), (1, .int (nI k0))]) hx hb dX5_blocks_11 rfl hl (by decide) rfl (fun ls hl => ?_)
  refine lv_aload_n hx hb dX5_blocks_12 rfl (lv_at hl 2 rfl) ?_
  refine va_get (D := (dC, dI)) (ci := 5) (v := .ref (h 2)) (C := RX5) (T := TX5) (N := 33) hx hb hts hin_X5 hown hK hP 0 rfl rfl 9 (by decide) hw2 (fun _ h9 => h9) rfl dX5_blocks_13 ?_
  refine lv_iload_n hx hb dX5_blocks_16 rfl (lv_at hl 3 rfl) ?_
  refine va_iald hx hb hK hP 2 0 rfl rfl (vp_in_nI (n := k0) (N := 40) (by omega) (by decide)) dX5_blocks_17 ?_
  have hb_3 := bY k0 (by omega)
  refine lv_topi (fun x_4 ex_4 => ?_)
  obtain rfl : x_4 = nI (Y k0) := ex_4.trans ((congrArg (F 2) (nI_clamp (n := k0) (by omega))).trans (hY k0 (by omega)))
  refine lv_ineg hx hb dX5_blocks_18 ?_
  refine lv_istore (lv' := [(4, .int (-(nI (Y k0)))), (3, .int (7 - (nI (X k0)))), (2, .int 0), (0, .ref (h 0)), (1, .int (nI k0))]) hx hb dX5_blocks_19 hl (by decide) rfl (fun ls hl => ?_)
  refine lv_iconst (v := 0) hx hb dX5_blocks_21 (by decide) ?_
  refine lv_istore (lv' := [(5, .int 0), (4, .int (-(nI (Y k0)))), (3, .int (7 - (nI (X k0)))), (2, .int 0), (0, .ref (h 0)), (1, .int (nI k0))]) hx hb dX5_blocks_22 hl (by decide) rfl (fun ls hl => ?_)
  have loop24 : ∀ (fu : Nat) (o : Nat), (o ≤ n) → (n - o) < fu → ∀ (H : Heap) (locs : List Loc) (ls : Array Slot), va_P (dC, dI) vwCl (wM cI cZ cJ h F G V) H → va_D A (wM cI cZ cJ h F G V) → va_S A s.heap H locs → lv_has ls 9 [(0, .ref (h 0)), (1, .int (nI k0)), (2, .int (nI (blS X Y (X k0) (Y k0) (o)))), (3, .int (7 - (nI (X k0)))), (4, .int (-(nI (Y k0)))), (5, .int (nI o))] → W p l e rm_X5_blocks s m args below meth c H locs 0 0 Q (F0 m 24 ls []) := by
    intro fu
    induction fu with
    | zero => intro o ho hn_; exact absurd hn_ (Nat.not_lt_zero _)
    | succ fu ih24 =>
      intro o ho hn_ H locs ls hP hD hS hl
      refine lv_iload hx hb dX5_blocks_24 (lv_at hl 5 rfl) ?_
      refine lv_aload_n hx hb dX5_blocks_26 rfl (lv_at hl 0 rfl) ?_
      refine va_get (D := (dC, dI)) (ci := 5) (v := .int (V 2)) (C := RX5) (T := TX5) (N := 33) hx hb hts hin_X5 hown hK hP 0 rfl rfl 2 (by decide) hw3 (fun _ h9 => h9) rfl dX5_blocks_27 ?_
      refine lv_topi (fun x_5 ex_5 => ?_)
      obtain rfl : x_5 = nI n := ex_5.trans (hV2)
      refine lv_icmp_ge (tgt := 128) hx hb dX5_blocks_30 (by decide) (fun c_6 => ?_) (fun c_6 => ?_)
      · have c_6 : n ≤ o := (nI_leI (a := n) (b := o) (by omega) (by omega)).mp c_6
        refine lv_iload_n hx hb dX5_blocks_128 rfl (lv_at hl 2 rfl) ?_
        exact hret (nI (blS X Y (X k0) (Y k0) (o))) () H locs 129 ls rfl dX5_blocks_129 (by rw [blA, show n = o by omega]) (hP) (hD) hS
      · have c_6 : ¬ n ≤ o := fun h => c_6 ((nI_leI (a := n) (b := o) (by omega) (by omega)).mpr h)
        refine lv_aload_n hx hb dX5_blocks_33 rfl (lv_at hl 0 rfl) ?_
        refine va_get (D := (dC, dI)) (ci := 5) (v := .ref (h 1)) (C := RX5) (T := TX5) (N := 33) hx hb hts hin_X5 hown hK hP 0 rfl rfl 8 (by decide) hw0 (fun _ h9 => h9) rfl dX5_blocks_34 ?_
        refine lv_iload hx hb dX5_blocks_37 (lv_at hl 5 rfl) ?_
        refine va_iald hx hb hK hP 1 0 rfl rfl (vp_in_nI (n := o) (N := 40) (by omega) (by decide)) dX5_blocks_39 ?_
        have hb_7 := bX o (by omega)
        refine lv_topi (fun x_8 ex_8 => ?_)
        obtain rfl : x_8 = nI (X o) := ex_8.trans ((congrArg (F 1) (nI_clamp (n := o) (by omega))).trans (hX o (by omega)))
        refine lv_aload_n hx hb dX5_blocks_40 rfl (lv_at hl 0 rfl) ?_
        refine va_get (D := (dC, dI)) (ci := 5) (v := .ref (h 1)) (C := RX5) (T := TX5) (N := 33) hx hb hts hin_X5 hown hK hP 0 rfl rfl 8 (by decide) hw0 (fun _ h9 => h9) rfl dX5_blocks_41 ?_
        refine lv_iload_n hx hb dX5_blocks_44 rfl (lv_at hl 1 rfl) ?_
        refine va_iald hx hb hK hP 1 0 rfl rfl (vp_in_nI (n := k0) (N := 40) (by omega) (by decide)) dX5_blocks_45 ?_
        have hb_9 := bX k0 (by omega)
        refine lv_topi (fun x_10 ex_10 => ?_)
        obtain rfl : x_10 = nI (X k0) := ex_10.trans ((congrArg (F 1) (nI_clamp (n := k0) (by omega))).trans (hX k0 (by omega)))
        refine lv_isub hx hb dX5_blocks_46 ?_
        refine lv_istore (lv' := [(6, .int ((nI (X o)) - (nI (X k0)))), (0, .ref (h 0)), (1, .int (nI k0)), (2, .int (nI (blS X Y (X k0) (Y k0) (o)))), (3, .int (7 - (nI (X k0)))), (4, .int (-(nI (Y k0)))), (5, .int (nI o))]) hx hb dX5_blocks_47 hl (by decide) rfl (fun ls hl => ?_)
        refine lv_aload_n hx hb dX5_blocks_49 rfl (lv_at hl 1 rfl) ?_
        refine va_get (D := (dC, dI)) (ci := 5) (v := .ref (h 2)) (C := RX5) (T := TX5) (N := 33) hx hb hts hin_X5 hown hK hP 0 rfl rfl 9 (by decide) hw2 (fun _ h9 => h9) rfl dX5_blocks_50 ?_
        refine lv_iload hx hb dX5_blocks_53 (lv_at hl 6 rfl) ?_
        refine va_iald hx hb hK hP 2 0 rfl rfl (vp_in_nI (n := o) (N := 40) (by omega) (by decide)) dX5_blocks_55 ?_
        have hb_11 := bY o (by omega)
        refine lv_topi (fun x_12 ex_12 => ?_)
        obtain rfl : x_12 = nI (Y o) := ex_12.trans ((congrArg (F 2) (nI_clamp (n := o) (by omega))).trans (hY o (by omega)))
        refine lv_aload_n hx hb dX5_blocks_56 rfl (lv_at hl 1 rfl) ?_
        refine va_get (D := (dC, dI)) (ci := 5) (v := .ref (h 2)) (C := RX5) (T := TX5) (N := 33) hx hb hts hin_X5 hown hK hP 0 rfl rfl 9 (by decide) hw2 (fun _ h9 => h9) rfl dX5_blocks_57 ?_
        refine lv_iload_n hx hb dX5_blocks_60 rfl (lv_at hl 2 rfl) ?_
        refine va_iald hx hb hK hP 2 0 rfl rfl (vp_in_nI (n := k0) (N := 40) (by omega) (by decide)) dX5_blocks_61 ?_
        have hb_13 := bY k0 (by omega)
        refine lv_topi (fun x_14 ex_14 => ?_)
        obtain rfl : x_14 = nI (Y k0) := ex_14.trans ((congrArg (F 2) (nI_clamp (n := k0) (by omega))).trans (hY k0 (by omega)))
        refine lv_isub hx hb dX5_blocks_62 ?_
        refine lv_istore (lv' := [(7, .int ((nI (Y o)) - (nI (Y k0)))), (6, .int ((nI (X o)) - (nI (X k0)))), (0, .ref (h 0)), (1, .int (nI k0)), (2, .int (nI (blS X Y (X k0) (Y k0) (o)))), (3, .int (7 - (nI (X k0)))), (4, .int (-(nI (Y k0)))), (5, .int (nI o))]) hx hb dX5_blocks_63 hl (by decide) rfl (fun ls hl => ?_)
        refine lv_iload hx hb dX5_blocks_65 (lv_at hl 1 rfl) ?_
        refine lv_iload_n hx hb dX5_blocks_67 rfl (lv_at hl 5 rfl) ?_
        refine lv_imul hx hb dX5_blocks_68 ?_
        refine lv_topi (fun x_15 ex_15 => ?_)
        refine lv_iload hx hb dX5_blocks_69 (lv_at hl 0 rfl) ?_
        refine lv_iload hx hb dX5_blocks_71 (lv_at hl 6 rfl) ?_
        refine lv_imul hx hb dX5_blocks_73 ?_
        refine lv_topi (fun x_16 ex_16 => ?_)
        refine lv_iadd hx hb dX5_blocks_74 ?_
        refine lv_istore (lv' := [(8, .int (x_15 + x_16)), (7, .int ((nI (Y o)) - (nI (Y k0)))), (6, .int ((nI (X o)) - (nI (X k0)))), (0, .ref (h 0)), (1, .int (nI k0)), (2, .int (nI (blS X Y (X k0) (Y k0) (o)))), (3, .int (7 - (nI (X k0)))), (4, .int (-(nI (Y k0)))), (5, .int (nI o))]) hx hb dX5_blocks_75 hl (by decide) rfl (fun ls hl => ?_)
        refine lv_iload_n hx hb dX5_blocks_77 rfl (lv_at hl 5 rfl) ?_
        refine lv_iload hx hb dX5_blocks_78 (lv_at hl 8 rfl) ?_
        refine lv_iload_n hx hb dX5_blocks_80 rfl (lv_at hl 4 rfl) ?_
        refine lv_icmp_eq (tgt := 119) hx hb dX5_blocks_81 (by decide) (fun c_17 => ?_) (fun c_17 => ?_)
        · have c_17 : o = k0 := (nI_eq (a := o) (b := k0) (by omega) (by omega)).mp c_17
          refine lv_iconst (v := 0) hx hb dX5_blocks_119 (by decide) ?_
          refine lv_iadd hx hb dX5_blocks_120 ?_
          refine lv_topi (fun x_18 ex_18 => ?_)
          obtain rfl : x_18 = nI ((blS X Y (X k0) (Y k0) (o)) + 0) := ex_18.trans (nI_add (blS X Y (X k0) (Y k0) (o)) 0)
          refine lv_istore_n (lv' := [(2, .int (nI ((blS X Y (X k0) (Y k0) (o)) + 0))), (8, .int (x_15 + x_16)), (7, .int ((nI (Y o)) - (nI (Y k0)))), (6, .int ((nI (X o)) - (nI (X k0)))), (0, .ref (h 0)), (1, .int (nI k0)), (3, .int (7 - (nI (X k0)))), (4, .int (-(nI (Y k0)))), (5, .int (nI o))]) hx hb dX5_blocks_121 rfl hl (by decide) rfl (fun ls hl => ?_)
          refine lv_iinc (v := nI (o + 1)) (lv' := [(5, .int (nI (o + 1))), (2, .int (nI ((blS X Y (X k0) (Y k0) (o)) + 0))), (8, .int (x_15 + x_16)), (7, .int ((nI (Y o)) - (nI (Y k0)))), (6, .int ((nI (X o)) - (nI (X k0)))), (0, .ref (h 0)), (1, .int (nI k0)), (3, .int (7 - (nI (X k0)))), (4, .int (-(nI (Y k0))))]) hx hb dX5_blocks_122 hl (k := 8) rfl (nI_1 _) (by decide) rfl (fun ls hl => ?_)
          refine lv_goto (tgt := 24) hx hb dX5_blocks_125 (by decide) ?_
          have hb_ : btwN (X o) (Y o) (X k0) (Y k0) = false := by
            rw [show o = k0 by omega]; exact btwN_self _ _
          have hq_ : blS X Y (X k0) (Y k0) (o + 1) = blS X Y (X k0) (Y k0) (o) + 0 := by rw [blS, hb_]; rfl
          have hl : lv_has ls 9 [(5, .int (nI (o + 1))), (2, .int (nI (blS X Y (X k0) (Y k0) (o + 1)))), (8, .int (x_15 + x_16)), (7, .int ((nI (Y o)) - (nI (Y k0)))), (6, .int ((nI (X o)) - (nI (X k0)))), (0, .ref (h 0)), (1, .int (nI k0)), (3, .int (7 - (nI (X k0)))), (4, .int (-(nI (Y k0))))] := by rw [hq_]; exact hl
          exact ih24 (o + 1) (by omega) (by omega) H locs ls hP hD hS (lv_sub hl [5, 6, 1, 7, 8, 0] rfl)
        · have c_17 : ¬ o = k0 := fun h => c_17 ((nI_eq (a := o) (b := k0) (by omega) (by omega)).mpr h)
          refine lv_iload hx hb dX5_blocks_84 (lv_at hl 2 rfl) ?_
          refine lv_iload hx hb dX5_blocks_86 (lv_at hl 7 rfl) ?_
          refine lv_imul hx hb dX5_blocks_88 ?_
          refine lv_topi (fun x_19 ex_19 => ?_)
          refine lv_iload hx hb dX5_blocks_89 (lv_at hl 1 rfl) ?_
          refine lv_iload_n hx hb dX5_blocks_91 rfl (lv_at hl 6 rfl) ?_
          refine lv_imul hx hb dX5_blocks_92 ?_
          refine lv_topi (fun x_20 ex_20 => ?_)
          refine lv_icmp_ne (tgt := 119) hx hb dX5_blocks_93 (by decide) (fun c_21 => ?_) (fun c_21 => ?_)
          · have c_21 : eqI x_19 x_20 = false := decide_eq_false c_21
            refine lv_iconst (v := 0) hx hb dX5_blocks_119 (by decide) ?_
            refine lv_iadd hx hb dX5_blocks_120 ?_
            refine lv_topi (fun x_22 ex_22 => ?_)
            obtain rfl : x_22 = nI ((blS X Y (X k0) (Y k0) (o)) + 0) := ex_22.trans (nI_add (blS X Y (X k0) (Y k0) (o)) 0)
            refine lv_istore_n (lv' := [(2, .int (nI ((blS X Y (X k0) (Y k0) (o)) + 0))), (8, .int (x_15 + x_16)), (7, .int ((nI (Y o)) - (nI (Y k0)))), (6, .int ((nI (X o)) - (nI (X k0)))), (0, .ref (h 0)), (1, .int (nI k0)), (3, .int (7 - (nI (X k0)))), (4, .int (-(nI (Y k0)))), (5, .int (nI o))]) hx hb dX5_blocks_121 rfl hl (by decide) rfl (fun ls hl => ?_)
            refine lv_iinc (v := nI (o + 1)) (lv' := [(5, .int (nI (o + 1))), (2, .int (nI ((blS X Y (X k0) (Y k0) (o)) + 0))), (8, .int (x_15 + x_16)), (7, .int ((nI (Y o)) - (nI (Y k0)))), (6, .int ((nI (X o)) - (nI (X k0)))), (0, .ref (h 0)), (1, .int (nI k0)), (3, .int (7 - (nI (X k0)))), (4, .int (-(nI (Y k0))))]) hx hb dX5_blocks_122 hl (k := 8) rfl (nI_1 _) (by decide) rfl (fun ls hl => ?_)
            refine lv_goto (tgt := 24) hx hb dX5_blocks_125 (by decide) ?_
            have hb_ : btwN (X o) (Y o) (X k0) (Y k0) = false := by
              rw [← btr_N (bX o (by omega)) (bY o (by omega)) (bX k0 hk0) (bY k0 hk0)]
              unfold btr
              simp only [← ex_15, ← ex_16, ← ex_19, ← ex_20, c_21, Bool.true_and, Bool.false_and, Bool.and_false, Bool.and_true]
            have hq_ : blS X Y (X k0) (Y k0) (o + 1) = blS X Y (X k0) (Y k0) (o) + 0 := by rw [blS, hb_]; rfl
            have hl : lv_has ls 9 [(5, .int (nI (o + 1))), (2, .int (nI (blS X Y (X k0) (Y k0) (o + 1)))), (8, .int (x_15 + x_16)), (7, .int ((nI (Y o)) - (nI (Y k0)))), (6, .int ((nI (X o)) - (nI (X k0)))), (0, .ref (h 0)), (1, .int (nI k0)), (3, .int (7 - (nI (X k0)))), (4, .int (-(nI (Y k0))))] := by rw [hq_]; exact hl
            exact ih24 (o + 1) (by omega) (by omega) H locs ls hP hD hS (lv_sub hl [5, 6, 1, 7, 8, 0] rfl)
          · have c_21 : eqI x_19 x_20 = true := decide_eq_true c_21
            refine lv_iload hx hb dX5_blocks_96 (lv_at hl 0 rfl) ?_
            refine lv_if_le (tgt := 119) hx hb dX5_blocks_98 (by decide) (fun c_23 => ?_) (fun c_23 => ?_)
            · have c_23 : ltI 0 (x_15 + x_16) = false := decide_eq_false (Int32.not_lt.mpr c_23)
              refine lv_iconst (v := 0) hx hb dX5_blocks_119 (by decide) ?_
              refine lv_iadd hx hb dX5_blocks_120 ?_
              refine lv_topi (fun x_24 ex_24 => ?_)
              obtain rfl : x_24 = nI ((blS X Y (X k0) (Y k0) (o)) + 0) := ex_24.trans (nI_add (blS X Y (X k0) (Y k0) (o)) 0)
              refine lv_istore_n (lv' := [(2, .int (nI ((blS X Y (X k0) (Y k0) (o)) + 0))), (8, .int (x_15 + x_16)), (7, .int ((nI (Y o)) - (nI (Y k0)))), (6, .int ((nI (X o)) - (nI (X k0)))), (0, .ref (h 0)), (1, .int (nI k0)), (3, .int (7 - (nI (X k0)))), (4, .int (-(nI (Y k0)))), (5, .int (nI o))]) hx hb dX5_blocks_121 rfl hl (by decide) rfl (fun ls hl => ?_)
              refine lv_iinc (v := nI (o + 1)) (lv' := [(5, .int (nI (o + 1))), (2, .int (nI ((blS X Y (X k0) (Y k0) (o)) + 0))), (8, .int (x_15 + x_16)), (7, .int ((nI (Y o)) - (nI (Y k0)))), (6, .int ((nI (X o)) - (nI (X k0)))), (0, .ref (h 0)), (1, .int (nI k0)), (3, .int (7 - (nI (X k0)))), (4, .int (-(nI (Y k0))))]) hx hb dX5_blocks_122 hl (k := 8) rfl (nI_1 _) (by decide) rfl (fun ls hl => ?_)
              refine lv_goto (tgt := 24) hx hb dX5_blocks_125 (by decide) ?_
              have hb_ : btwN (X o) (Y o) (X k0) (Y k0) = false := by
                rw [← btr_N (bX o (by omega)) (bY o (by omega)) (bX k0 hk0) (bY k0 hk0)]
                unfold btr
                simp only [← ex_15, ← ex_16, ← ex_19, ← ex_20, c_21, c_23, Bool.true_and, Bool.false_and, Bool.and_false, Bool.and_true]
              have hq_ : blS X Y (X k0) (Y k0) (o + 1) = blS X Y (X k0) (Y k0) (o) + 0 := by rw [blS, hb_]; rfl
              have hl : lv_has ls 9 [(5, .int (nI (o + 1))), (2, .int (nI (blS X Y (X k0) (Y k0) (o + 1)))), (8, .int (x_15 + x_16)), (7, .int ((nI (Y o)) - (nI (Y k0)))), (6, .int ((nI (X o)) - (nI (X k0)))), (0, .ref (h 0)), (1, .int (nI k0)), (3, .int (7 - (nI (X k0)))), (4, .int (-(nI (Y k0))))] := by rw [hq_]; exact hl
              exact ih24 (o + 1) (by omega) (by omega) H locs ls hP hD hS (lv_sub hl [5, 6, 1, 7, 8, 0] rfl)
            · have c_23 : ltI 0 (x_15 + x_16) = true := decide_eq_true (Int32.not_le.mp c_23)
              refine lv_iload hx hb dX5_blocks_101 (lv_at hl 0 rfl) ?_
              refine lv_iload_n hx hb dX5_blocks_103 rfl (lv_at hl 6 rfl) ?_
              refine lv_iload_n hx hb dX5_blocks_104 rfl (lv_at hl 6 rfl) ?_
              refine lv_imul hx hb dX5_blocks_105 ?_
              refine lv_iload hx hb dX5_blocks_106 (lv_at hl 7 rfl) ?_
              refine lv_iload hx hb dX5_blocks_108 (lv_at hl 7 rfl) ?_
              refine lv_imul hx hb dX5_blocks_110 ?_
              refine lv_iadd hx hb dX5_blocks_111 ?_
              refine lv_topi (fun x_25 ex_25 => ?_)
              refine lv_icmp_ge (tgt := 119) hx hb dX5_blocks_112 (by decide) (fun c_26 => ?_) (fun c_26 => ?_)
              · have c_26 : ltI (x_15 + x_16) x_25 = false := decide_eq_false (Int32.not_lt.mpr c_26)
                refine lv_iconst (v := 0) hx hb dX5_blocks_119 (by decide) ?_
                refine lv_iadd hx hb dX5_blocks_120 ?_
                refine lv_topi (fun x_27 ex_27 => ?_)
                obtain rfl : x_27 = nI ((blS X Y (X k0) (Y k0) (o)) + 0) := ex_27.trans (nI_add (blS X Y (X k0) (Y k0) (o)) 0)
                refine lv_istore_n (lv' := [(2, .int (nI ((blS X Y (X k0) (Y k0) (o)) + 0))), (8, .int (x_15 + x_16)), (7, .int ((nI (Y o)) - (nI (Y k0)))), (6, .int ((nI (X o)) - (nI (X k0)))), (0, .ref (h 0)), (1, .int (nI k0)), (3, .int (7 - (nI (X k0)))), (4, .int (-(nI (Y k0)))), (5, .int (nI o))]) hx hb dX5_blocks_121 rfl hl (by decide) rfl (fun ls hl => ?_)
                refine lv_iinc (v := nI (o + 1)) (lv' := [(5, .int (nI (o + 1))), (2, .int (nI ((blS X Y (X k0) (Y k0) (o)) + 0))), (8, .int (x_15 + x_16)), (7, .int ((nI (Y o)) - (nI (Y k0)))), (6, .int ((nI (X o)) - (nI (X k0)))), (0, .ref (h 0)), (1, .int (nI k0)), (3, .int (7 - (nI (X k0)))), (4, .int (-(nI (Y k0))))]) hx hb dX5_blocks_122 hl (k := 8) rfl (nI_1 _) (by decide) rfl (fun ls hl => ?_)
                refine lv_goto (tgt := 24) hx hb dX5_blocks_125 (by decide) ?_
                have hb_ : btwN (X o) (Y o) (X k0) (Y k0) = false := by
                  rw [← btr_N (bX o (by omega)) (bY o (by omega)) (bX k0 hk0) (bY k0 hk0)]
                  unfold btr
                  simp only [← ex_15, ← ex_16, ← ex_19, ← ex_20, ← ex_25, c_21, c_23, c_26, Bool.true_and, Bool.false_and, Bool.and_false, Bool.and_true]
                have hq_ : blS X Y (X k0) (Y k0) (o + 1) = blS X Y (X k0) (Y k0) (o) + 0 := by rw [blS, hb_]; rfl
                have hl : lv_has ls 9 [(5, .int (nI (o + 1))), (2, .int (nI (blS X Y (X k0) (Y k0) (o + 1)))), (8, .int (x_15 + x_16)), (7, .int ((nI (Y o)) - (nI (Y k0)))), (6, .int ((nI (X o)) - (nI (X k0)))), (0, .ref (h 0)), (1, .int (nI k0)), (3, .int (7 - (nI (X k0)))), (4, .int (-(nI (Y k0))))] := by rw [hq_]; exact hl
                exact ih24 (o + 1) (by omega) (by omega) H locs ls hP hD hS (lv_sub hl [5, 6, 1, 7, 8, 0] rfl)
              · have c_26 : ltI (x_15 + x_16) x_25 = true := decide_eq_true (Int32.not_le.mp c_26)
                refine lv_iconst (v := 1) hx hb dX5_blocks_115 (by decide) ?_
                refine lv_goto (tgt := 120) hx hb dX5_blocks_116 (by decide) ?_
                refine lv_iadd hx hb dX5_blocks_120 ?_
                refine lv_topi (fun x_28 ex_28 => ?_)
                obtain rfl : x_28 = nI ((blS X Y (X k0) (Y k0) (o)) + 1) := ex_28.trans (nI_add (blS X Y (X k0) (Y k0) (o)) 1)
                refine lv_istore_n (lv' := [(2, .int (nI ((blS X Y (X k0) (Y k0) (o)) + 1))), (8, .int (x_15 + x_16)), (7, .int ((nI (Y o)) - (nI (Y k0)))), (6, .int ((nI (X o)) - (nI (X k0)))), (0, .ref (h 0)), (1, .int (nI k0)), (3, .int (7 - (nI (X k0)))), (4, .int (-(nI (Y k0)))), (5, .int (nI o))]) hx hb dX5_blocks_121 rfl hl (by decide) rfl (fun ls hl => ?_)
                refine lv_iinc (v := nI (o + 1)) (lv' := [(5, .int (nI (o + 1))), (2, .int (nI ((blS X Y (X k0) (Y k0) (o)) + 1))), (8, .int (x_15 + x_16)), (7, .int ((nI (Y o)) - (nI (Y k0)))), (6, .int ((nI (X o)) - (nI (X k0)))), (0, .ref (h 0)), (1, .int (nI k0)), (3, .int (7 - (nI (X k0)))), (4, .int (-(nI (Y k0))))]) hx hb dX5_blocks_122 hl (k := 8) rfl (nI_1 _) (by decide) rfl (fun ls hl => ?_)
                refine lv_goto (tgt := 24) hx hb dX5_blocks_125 (by decide) ?_
                have hb_ : btwN (X o) (Y o) (X k0) (Y k0) = true := by
                  rw [← btr_N (bX o (by omega)) (bY o (by omega)) (bX k0 hk0) (bY k0 hk0)]
                  unfold btr
                  simp only [← ex_15, ← ex_16, ← ex_19, ← ex_20, ← ex_25, c_21, c_23, c_26, Bool.true_and, Bool.false_and, Bool.and_false, Bool.and_true]
                have hq_ : blS X Y (X k0) (Y k0) (o + 1) = blS X Y (X k0) (Y k0) (o) + 1 := by rw [blS, hb_]; rfl
                have hl : lv_has ls 9 [(5, .int (nI (o + 1))), (2, .int (nI (blS X Y (X k0) (Y k0) (o + 1)))), (8, .int (x_15 + x_16)), (7, .int ((nI (Y o)) - (nI (Y k0)))), (6, .int ((nI (X o)) - (nI (X k0)))), (0, .ref (h 0)), (1, .int (nI k0)), (3, .int (7 - (nI (X k0)))), (4, .int (-(nI (Y k0))))] := by rw [hq_]; exact hl
                exact ih24 (o + 1) (by omega) (by omega) H locs ls hP hD hS (lv_sub hl [5, 6, 1, 7, 8, 0] rfl)
  exact loop24 _ 0 (by omega) (Nat.lt_succ_self _) H locs ls hP hD hS (lv_sub hl [4, 5, 3, 2, 1, 0] rfl)
def rm_X5_powerOf : Room := { frames := 1, cells := 0, slots := 0, locals := 28 }
set_option maxHeartbeats 4000000 in
set_option maxRecDepth 100000 in
theorem c_X5_powerOf (l : Launch) (dC : Nat → ClassId) (dI : Nat → Nat → Nat) (cI cZ cJ : ClassId) (h : Nat → Nat) (F : Nat → Nat → Int32) (G : Nat → Int64) (V : Nat → Int32) (n : Nat) (hV2 : V 2 = nI n) (bV2 : n ≤ 40) (So : Nat → Nat) (hSo : ∀ i, i < 40 → F 3 i = nI (So i)) (bSo : ∀ i, i < 40 → So i ≤ 90) (Hh : Nat → Nat) (hHh : ∀ i, i < 24 → F 7 i = nI (Hh i)) (bHh : ∀ i, i < 24 → Hh i ≤ 9) (Wd : Nat → Nat) (hWd : ∀ i, i < 24 → F 8 i = nI (Wd i)) (bWd : ∀ i, i < 24 → Wd i ≤ 99) (X : Nat → Nat) (hX : ∀ i, i < n → F 1 i = nI (X i)) (bX : ∀ i, i < n → X i ≤ 14) (Y : Nat → Nat) (hY : ∀ i, i < n → F 2 i = nI (Y i)) (bY : ∀ i, i < n → Y i ≤ 14) (k0 k1 mo : Nat) (hk0 : k0 < n) (hk1 : k1 < 24) (hmo : mo ≤ 460)  (SX SY : Nat → Int32) (hSX : ∀ i, i < 24 → F 5 i = SX i) (hSY : ∀ i, i < 24 → F 6 i = SY i) (hGP : GP n X Y) : CtI l (dC, dI) vwCl (tys3 cI cZ cJ) yX5_powerOf wsX5_powerOf rm_X5_powerOf [.ref (h 0), .int (nI k0), .int (nI k1), .int (nI mo)] (wM cI cZ cJ h F G V) (S := Unit) (fun r _ => r = nI (pwA X Y n SX SY Hh So Wd k1 mo k0)) (fun _ => wM cI cZ cJ h F G V) 0 0 := by
  refine ct_I (cc := cX5_powerOf) (maxL := 6) (ty := .int) (own := RX5) (by decide) rfl rfl (Nat.le_of_ble_eq_true rfl) (lv := [(0, .ref (h 0)), (1, .int (nI k0)), (2, .int (nI k1)), (3, .int (nI mo))]) rfl ?_
  intro p e s m args below meth c A Q ls fx hK hP hD hA hl hret
  obtain ⟨hx, hb, hml, hown, hts⟩ := id fx
  have hS : va_S A s.heap s.heap [] := va_S.rf
  have hw0 := hts (.fieldLink RX5 38 "MirrorTowerModel" "height" "[I") (by decide +kernel)
  have hin_X5 : ∀ w ∈ u_ws RX5 TX5 33, w ∈ wsX5_powerOf := by decide +kernel
  have hw2 := hts (.fieldLink RX5 26 "MirrorTowerModel" "soil" "[I") (by decide +kernel)
  have hw3 := hts (.methodLink RX5 129 Lib.Math.min.name) (by decide +kernel)
  have hw4 := hts (.static Lib.Math.min.name) (by decide +kernel)
  have hw5 := hts (.initialized "java/lang/Math") (by decide +kernel)
  have hw6 := hts (.code Lib.Math.min.name Lib.Math.min.code 2 (some .int)) (by decide +kernel)
  have hw7 := hts (.methodLink RX5 134 Lib.Math.max.name) (by decide +kernel)
  have hw8 := hts (.static Lib.Math.max.name) (by decide +kernel)
  have hw9 := hts (.code Lib.Math.max.name Lib.Math.max.code 2 (some .int)) (by decide +kernel)
  obtain ⟨H, hH⟩ : ∃ H, H = s.heap := ⟨_, rfl⟩
  rw [← hH] at hP ⊢
  have hS : va_S A s.heap H [] := by rw [hH]; exact hS
  generalize ([] : List Loc) = locs at hS ⊢
  refine lv_aload_n hx hb dX5_powerOf_0 rfl (lv_at hl 0 rfl) ?_
  refine va_get (D := (dC, dI)) (ci := 5) (v := .ref (h 7)) (C := RX5) (T := TX5) (N := 33) hx hb hts hin_X5 hown hK hP 0 rfl rfl 14 (by decide) hw0 (fun _ h9 => h9) rfl dX5_powerOf_1 ?_
  refine lv_iload_n hx hb dX5_powerOf_4 rfl (lv_at hl 2 rfl) ?_
  refine va_iald hx hb hK hP 7 0 rfl rfl (vp_in_nI (n := k1) (N := 24) (by omega) (by decide)) dX5_powerOf_5 ?_
  have hb_1 := bHh k1 (by omega)
  refine lv_topi (fun x_2 ex_2 => ?_)
  obtain rfl : x_2 = nI (Hh k1) := ex_2.trans ((congrArg (F 7) (nI_clamp (n := k1) (by omega))).trans (hHh k1 (by omega)))
  refine lv_if_eq (tgt := 17) hx hb dX5_powerOf_6 (by decide) (fun c_3 => ?_) (fun c_3 => ?_)
  · have c_3 : (Hh k1) = 0 := (nI_eq (a := Hh k1) (b := 0) (by omega) (by omega)).mp c_3
    refine lv_iconst (v := 0) hx hb dX5_powerOf_17 (by decide) ?_
    exact hret 0 () H locs 18 ls rfl dX5_powerOf_18 (by
                unfold pwA
                first | (rw [if_pos (show Hh k1 = 0 by omega)]; try rfl) | (rw [if_neg (show ¬ Hh k1 = 0 by omega), if_pos rfl]; try rfl)) (hP) (hD) hS
  · have c_3 : ¬ (Hh k1) = 0 := fun h => c_3 ((nI_eq (a := Hh k1) (b := 0) (by omega) (by omega)).mpr h)
    refine lv_aload_n hx hb dX5_powerOf_9 rfl (lv_at hl 0 rfl) ?_
    refine lv_iload_n hx hb dX5_powerOf_10 rfl (lv_at hl 2 rfl) ?_
    refine cw_Vi (As := [.int (nI k1)]) (rest := []) (c_X5_isStowed l dC dI cI cZ cJ h F G V Wd hWd bWd k1 (by omega)) fx (cwV 1 hts gX5_powerOf_X5_isStowed rfl rfl rfl (by decide +kernel) ⟨Nat.le_of_ble_eq_true rfl, Nat.le_of_ble_eq_true rfl⟩) hK hP hD hS hA 0 rfl rfl rfl rfl hl.1 rfl (Nat.le_of_ble_eq_true rfl) dX5_powerOf_11 ⟨Nat.le_of_ble_eq_true rfl, Nat.le_of_ble_eq_true rfl⟩ (fun r_4 u_5 H locs hw_6 hP hD hS => ?_)
    have hP : va_P (dC, dI) vwCl (wM cI cZ cJ h F G V) H := hP
    have hD : va_D A (wM cI cZ cJ h F G V) := hD
    have hw_6 : r_4 = bI (stow Wd k1) := hw_6
    refine lv_if_eq (tgt := 19) hx hb dX5_powerOf_14 (by decide) (fun c_7 => ?_) (fun c_7 => ?_)
    · have c_7 : stow Wd k1 = false := bI_f hw_6 c_7
      refine lv_iconst (v := 0) hx hb dX5_powerOf_19 (by decide) ?_
      refine lv_bipush (v := 10) hx hb dX5_powerOf_20 (by decide) ?_
      refine lv_aload_n hx hb dX5_powerOf_22 rfl (lv_at hl 0 rfl) ?_
      refine va_get (D := (dC, dI)) (ci := 5) (v := .ref (h 7)) (C := RX5) (T := TX5) (N := 33) hx hb hts hin_X5 hown hK hP 0 rfl rfl 14 (by decide) hw0 (fun _ h9 => h9) rfl dX5_powerOf_23 ?_
      refine lv_iload_n hx hb dX5_powerOf_26 rfl (lv_at hl 2 rfl) ?_
      refine va_iald hx hb hK hP 7 0 rfl rfl (vp_in_nI (n := k1) (N := 24) (by omega) (by decide)) dX5_powerOf_27 ?_
      have hb_8 := bHh k1 (by omega)
      refine lv_topi (fun x_9 ex_9 => ?_)
      obtain rfl : x_9 = nI (Hh k1) := ex_9.trans ((congrArg (F 7) (nI_clamp (n := k1) (by omega))).trans (hHh k1 (by omega)))
      refine lv_imul hx hb dX5_powerOf_28 ?_
      refine lv_topi (fun x_10 ex_10 => ?_)
      obtain rfl : x_10 = nI (10 * (Hh k1)) := ex_10.trans (pk_mul 10 (Hh k1))
      refine lv_bipush (v := 10) hx hb dX5_powerOf_29 (by decide) ?_
      refine lv_iadd hx hb dX5_powerOf_31 ?_
      refine lv_topi (fun x_11 ex_11 => ?_)
      obtain rfl : x_11 = nI ((10 * (Hh k1)) + 10) := ex_11.trans (nI_add (10 * (Hh k1)) 10)
      refine lv_bipush (v := 90) hx hb dX5_powerOf_32 (by decide) ?_
      refine lv_aload_n hx hb dX5_powerOf_34 rfl (lv_at hl 0 rfl) ?_
      refine va_get (D := (dC, dI)) (ci := 5) (v := .ref (h 3)) (C := RX5) (T := TX5) (N := 33) hx hb hts hin_X5 hown hK hP 0 rfl rfl 10 (by decide) hw2 (fun _ h9 => h9) rfl dX5_powerOf_35 ?_
      refine lv_iload_n hx hb dX5_powerOf_38 rfl (lv_at hl 1 rfl) ?_
      refine va_iald hx hb hK hP 3 0 rfl rfl (vp_in_nI (n := k0) (N := 40) (by omega) (by decide)) dX5_powerOf_39 ?_
      have hb_12 := bSo k0 (by omega)
      refine lv_topi (fun x_13 ex_13 => ?_)
      obtain rfl : x_13 = nI (So k0) := ex_13.trans ((congrArg (F 3) (nI_clamp (n := k0) (by omega))).trans (hSo k0 (by omega)))
      refine lv_iload_n hx hb dX5_powerOf_40 rfl (lv_at hl 3 rfl) ?_
      refine lv_iadd hx hb dX5_powerOf_41 ?_
      refine lv_topi (fun x_14 ex_14 => ?_)
      obtain rfl : x_14 = nI ((So k0) + mo) := ex_14.trans (nI_add (So k0) mo)
      refine va_mmin hx hb (hml.trans hl.1.symm) hown hw3 hw4 hw5 hw6 (Nat.le_of_ble_eq_true rfl) (Nat.le_of_ble_eq_true rfl) (Nat.le_of_ble_eq_true rfl) (Nat.le_of_ble_eq_true rfl) dX5_powerOf_42 ?_
      refine lv_topi (fun x_15 ex_15 => ?_)
      obtain rfl : x_15 = nI (min 90 ((So k0) + mo)) := ex_15.trans (mm_min (a := 90) (b := (So k0) + mo) (by omega) (by omega))
      refine lv_isub hx hb dX5_powerOf_45 ?_
      refine lv_topi (fun x_16 ex_16 => ?_)
      refine va_mmax hx hb (hml.trans hl.1.symm) hown hw7 hw8 hw5 hw9 (Nat.le_of_ble_eq_true rfl) (Nat.le_of_ble_eq_true rfl) (Nat.le_of_ble_eq_true rfl) (Nat.le_of_ble_eq_true rfl) dX5_powerOf_46 ?_
      refine lv_topi (fun x_17 ex_17 => ?_)
      obtain rfl : x_17 = nI (10 * Hh k1 + 10 - min 90 (So k0 + mo)) := by rw [ex_17, ex_16]; exact max0 (by omega) (by omega)
      refine lv_istore (lv' := [(4, .int (nI (10 * Hh k1 + 10 - min 90 (So k0 + mo)))), (0, .ref (h 0)), (1, .int (nI k0)), (2, .int (nI k1)), (3, .int (nI mo))]) hx hb dX5_powerOf_49 hl (by decide) rfl (fun ls hl => ?_)
      refine lv_aload_n hx hb dX5_powerOf_51 rfl (lv_at hl 1 rfl) ?_
      refine lv_iload_n hx hb dX5_powerOf_52 rfl (lv_at hl 2 rfl) ?_
      refine lv_iload_n hx hb dX5_powerOf_53 rfl (lv_at hl 3 rfl) ?_
      refine cw_Vi (As := [.int (nI k0), .int (nI k1)]) (rest := []) (c_X5_shades l dC dI cI cZ cJ h F G V n hV2 (by omega) Hh hHh bHh X hX bX Y hY bY k0 k1 (by omega) (by omega) SX SY (fun i hi => (congrFun (Eq.refl (F 5)) i).trans (hSX i hi)) (fun i hi => (congrFun (Eq.refl (F 6)) i).trans (hSY i hi))) fx (cwV 2 hts gX5_powerOf_X5_shades rfl rfl rfl (by decide +kernel) ⟨Nat.le_of_ble_eq_true rfl, Nat.le_of_ble_eq_true rfl⟩) hK hP hD hS hA 0 rfl rfl rfl rfl hl.1 rfl (Nat.le_of_ble_eq_true rfl) dX5_powerOf_54 ⟨Nat.le_of_ble_eq_true rfl, Nat.le_of_ble_eq_true rfl⟩ (fun r_18 u_19 H locs hw_20 hP hD hS => ?_)
      have hP : va_P (dC, dI) vwCl (wM cI cZ cJ h F G V) H := hP
      have hD : va_D A (wM cI cZ cJ h F G V) := hD
      obtain rfl : r_18 = nI (shA X Y n SX SY Hh k0 k1) := hw_20
      refine lv_aload_n hx hb dX5_powerOf_57 rfl (lv_at hl 1 rfl) ?_
      refine lv_iload_n hx hb dX5_powerOf_58 rfl (lv_at hl 2 rfl) ?_
      refine cw_Vi (As := [.int (nI k0)]) (rest := [.int (nI (shA X Y n SX SY Hh k0 k1))]) (c_X5_blocks l dC dI cI cZ cJ h F G V n hV2 (by omega) X hX bX Y hY bY k0 (by omega)) fx (cwV 1 hts gX5_powerOf_X5_blocks rfl rfl rfl (by decide +kernel) ⟨Nat.le_of_ble_eq_true rfl, Nat.le_of_ble_eq_true rfl⟩) hK hP hD hS hA 0 rfl rfl rfl rfl hl.1 rfl (Nat.le_of_ble_eq_true rfl) dX5_powerOf_59 ⟨Nat.le_of_ble_eq_true rfl, Nat.le_of_ble_eq_true rfl⟩ (fun r_21 u_22 H locs hw_23 hP hD hS => ?_)
      have hP : va_P (dC, dI) vwCl (wM cI cZ cJ h F G V) H := hP
      have hD : va_D A (wM cI cZ cJ h F G V) := hD
      obtain rfl : r_21 = nI (blA X Y n k0) := hw_23
      refine lv_iadd hx hb dX5_powerOf_62 ?_
      refine lv_topi (fun x_24 ex_24 => ?_)
      obtain rfl : x_24 = nI ((shA X Y n SX SY Hh k0 k1) + (blA X Y n k0)) := ex_24.trans (nI_add (shA X Y n SX SY Hh k0 k1) (blA X Y n k0))
      have hsA_ : shA X Y n SX SY Hh k0 k1 ≤ 9 := shA_le hGP
      have hbA_ : blA X Y n k0 ≤ 20 := bl_le hGP.1 hGP.2.1 hGP.2.2 hk0
      refine lv_istore (lv' := [(5, .int (nI ((shA X Y n SX SY Hh k0 k1) + (blA X Y n k0)))), (4, .int (nI (10 * Hh k1 + 10 - min 90 (So k0 + mo)))), (0, .ref (h 0)), (1, .int (nI k0)), (2, .int (nI k1)), (3, .int (nI mo))]) hx hb dX5_powerOf_63 hl (by decide) rfl (fun ls hl => ?_)
      have loop65 : ∀ (fu : Nat) (v : Nat) (x : Nat), (v ≤ 100) → (x ≤ 29) → (v / 2 ^ x = (10 * Hh k1 + 10 - min 90 (So k0 + mo)) / 2 ^ (shA X Y n SX SY Hh k0 k1 + blA X Y n k0)) → (x) < fu → ∀ (H : Heap) (locs : List Loc) (ls : Array Slot), va_P (dC, dI) vwCl (wM cI cZ cJ h F G V) H → va_D A (wM cI cZ cJ h F G V) → va_S A s.heap H locs → lv_has ls 6 [(0, .ref (h 0)), (1, .int (nI k0)), (2, .int (nI k1)), (3, .int (nI mo)), (4, .int (nI v)), (5, .int (nI x))] → W p l e rm_X5_powerOf s m args below meth c H locs 0 0 Q (F0 m 65 ls []) := by
        intro fu
        induction fu with
        | zero => intro v x hv hx0 heq hn_; exact absurd hn_ (Nat.not_lt_zero _)
        | succ fu ih65 =>
          intro v x hv hx0 heq hn_ H locs ls hP hD hS hl
          refine lv_iload hx hb dX5_powerOf_65 (lv_at hl 5 rfl) ?_
          refine lv_if_le (tgt := 82) hx hb dX5_powerOf_67 (by decide) (fun c_25 => ?_) (fun c_25 => ?_)
          · have c_25 : x ≤ 0 := (nI_leI (a := x) (b := 0) (by omega) (by omega)).mp c_25
            refine lv_iload hx hb dX5_powerOf_82 (lv_at hl 4 rfl) ?_
            exact hret (nI v) () H locs 84 ls rfl dX5_powerOf_84 (by
                        rw [show x = 0 by omega, Nat.pow_zero, Nat.div_one] at heq
                        rw [heq]
                        unfold pwA
                        rw [if_neg (show ¬ Hh k1 = 0 by omega), if_neg (by rw [c_7]; decide)]) (hP) (hD) hS
          · have c_25 : ¬ x ≤ 0 := fun h => c_25 ((nI_leI (a := x) (b := 0) (by omega) (by omega)).mpr h)
            refine lv_iload hx hb dX5_powerOf_70 (lv_at hl 4 rfl) ?_
            refine lv_iconst (v := 2) hx hb dX5_powerOf_72 (by decide) ?_
            refine lv_idiv hx hb dX5_powerOf_73 (by decide) ?_
            refine lv_topi (fun x_26 ex_26 => ?_)
            obtain rfl : x_26 = nI (v / 2) := ex_26.trans (pk_div (a := v) (d := 2) (by omega) (by omega) (by omega))
            refine lv_istore (lv' := [(4, .int (nI (v / 2))), (0, .ref (h 0)), (1, .int (nI k0)), (2, .int (nI k1)), (3, .int (nI mo)), (5, .int (nI x))]) hx hb dX5_powerOf_74 hl (by decide) rfl (fun ls hl => ?_)
            refine lv_iinc (v := nI (x - 1)) (lv' := [(5, .int (nI (x - 1))), (4, .int (nI (v / 2))), (0, .ref (h 0)), (1, .int (nI k0)), (2, .int (nI k1)), (3, .int (nI mo))]) hx hb dX5_powerOf_76 hl (k := 5) rfl (dec_nI (by omega)) (by decide) rfl (fun ls hl => ?_)
            refine lv_goto (tgt := 65) hx hb dX5_powerOf_79 (by decide) ?_
            exact ih65 (v / 2) (x - 1) (by omega) (by omega) (hlv heq (by omega)) (by omega) H locs ls hP hD hS (lv_sub hl [2, 3, 4, 5, 1, 0] rfl)
      exact loop65 _ (10 * Hh k1 + 10 - min 90 (So k0 + mo)) (shA X Y n SX SY Hh k0 k1 + blA X Y n k0) (by omega) (by omega) rfl (Nat.lt_succ_self _) H locs ls hP hD hS (lv_sub hl [2, 3, 4, 5, 1, 0] rfl)
    · have c_7 : stow Wd k1 = true := bI_t hw_6 c_7
      refine lv_iconst (v := 0) hx hb dX5_powerOf_17 (by decide) ?_
      exact hret 0 () H locs 18 ls rfl dX5_powerOf_18 (by
                  unfold pwA
                  first | (rw [if_pos (show Hh k1 = 0 by omega)]; try rfl) | (rw [if_neg (show ¬ Hh k1 = 0 by omega), if_pos c_7]; try rfl)) (hP) (hD) hS
