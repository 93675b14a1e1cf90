/-- what the numbers of the class's state keep to -/
def IC (F : Nat → Nat → Int32) (V : Nat → Int32) : Prop := ∃ (n d ks nw un wm pf sh : Nat) (So Hh Wd Lm Pr : Nat → Nat), (V 1 = nI n ∧ n ≤ 40) ∧ (V 2 = nI d ∧ d ≤ 20) ∧ (V 3 = nI ks ∧ ks ≤ 40) ∧ (V 4 = nI nw ∧ nw ≤ 23) ∧ (V 5 = nI un ∧ un ≤ 200) ∧ (V 6 = nI wm ∧ wm ≤ 1) ∧ (V 9 = nI pf ∧ pf ≤ 24) ∧ (V 11 = nI sh ∧ sh ≤ 12) ∧ ((∀ i, i < 40 → F 9 i = nI (So i)) ∧ ∀ i, i < 40 → So i ≤ 90) ∧ ((∀ i, i < 24 → F 12 i = nI (Hh i)) ∧ ∀ i, i < 24 → Hh i ≤ 9) ∧ ((∀ i, i < 24 → F 13 i = nI (Wd i)) ∧ ∀ i, i < 24 → Wd i ≤ 99) ∧ ((∀ i, i < 4 → F 14 i = nI (Lm i)) ∧ ∀ i, i < 4 → Lm i ≤ 10000) ∧ ((∀ i, i < 24 → F 23 i = nI (Pr i)) ∧ ∀ i, i < 24 → Pr i ≤ 999)
theorem isW_mir {v : Int32} {n : Nat} (hn : n ≤ 40) (h : isW v 0 (nI n - 1) = true) : ∃ k : Nat, k < n ∧ v = nI k := by
  simp only [isW, ltI, Bool.and_eq_true, Bool.not_eq_true', decide_eq_false_iff_not] at h
  obtain ⟨j, hj, e⟩ := nI_of h.1
  refine ⟨j, ?_, e⟩
  have q := h.2
  rw [e, Int32.not_lt, Int32.le_iff_toInt_le, show (nI n - 1).toInt = (n : Int) - 1 from pk_sub_toInt (a := n) (b := 1) (by omega) (by decide), nI_toInt hj] at q
  omega
theorem isW_now {v : Int32} {w : Nat} (hw : w ≤ 23) (h : isW v (nI w) 23 = true) : ∃ k : Nat, (w ≤ k ∧ k ≤ 23) ∧ v = nI k := by
  simp only [isW, ltI, Bool.and_eq_true, Bool.not_eq_true', decide_eq_false_iff_not] at h
  have h0 : ¬ v < 0 := fun q => h.1 (Int32.lt_of_lt_of_le q (nI_pos' (by omega)))
  obtain ⟨j, hj, e⟩ := nI_of h0
  refine ⟨j, ?_, e⟩
  have q1 := h.1
  have q2 := h.2
  rw [e] at q1 q2
  have a := (nI_leI (a := w) (b := j) (by omega) hj).mp (Int32.not_lt.mp q1)
  have b := (nI_leI (a := j) (b := 23) hj (by omega)).mp (Int32.not_lt.mp q2)
  exact ⟨a, b⟩
def a_sun (p0 p1 p2 p3 : Int32) : Int32 := if isW p0 0 23 && isW p1 (-2) 2 && isW p2 (-2) 2 && !(eqI p1 0 && eqI p2 0) && isW p3 0 9 then 1 else 0
def a_in2 (p0 m0 p1 m1 : Int32) : Int32 := if isW p0 0 m0 && isW p1 0 m1 then 1 else 0
def a_in1 (p0 m0 : Int32) : Int32 := if isW p0 0 m0 then 1 else 0
def rm_X4_isMirror : Room := { frames := 1, cells := 0, slots := 0, locals := 22 }
set_option maxHeartbeats 4000000 in
set_option maxRecDepth 100000 in
theorem c_X4_isMirror (l : Launch) (dC : Nat → ClassId) (dI : Nat → Nat → Nat) (cI cZ cJ : ClassId) (h : Nat → Nat) (F : Nat → Nat → Int32) (V : Nat → Int32) (n : Nat) (hV1 : V 1 = nI n) (bV1 : n ≤ 40) (p0 : Int32)   : CtI l (dC, dI) vwCl (tys3 cI cZ cJ) yX4_isMirror wsX4_isMirror rm_X4_isMirror [.ref (h 0), .int p0] (wC cI cZ h F V) (S := Unit) (fun r _ => r = bI (isW p0 0 (nI n - 1))) (fun _ => wC cI cZ h F V) 0 0 := by
  refine ct_I (cc := cX4_isMirror) (maxL := 2) (ty := .boolean) (own := RX4) (by decide) rfl rfl (Nat.le_of_ble_eq_true rfl) (lv := [(0, .ref (h 0)), (1, .int p0)]) rfl ?_
  intro p e s m args below meth c A Q ls fx hK hP hD hA hl hret
  obtain ⟨hx, hb, hml, hown, hts⟩ := id fx
  have hS : va_S A s.heap s.heap [] := va_S.rf
  have hw0 := hts (.fieldLink RX4 10 "MirrorTower" "field" "LMirrorTower$Field;") (by decide +kernel)
  have hin_X4 : ∀ w ∈ u_ws RX4 TX4 5, w ∈ wsX4_isMirror := by decide +kernel
  obtain ⟨H, hH⟩ : ∃ H, H = s.heap := ⟨_, rfl⟩
  rw [← hH] at hP ⊢
  have hS : va_S A s.heap H [] := by rw [hH]; exact hS
  generalize ([] : List Loc) = locs at hS ⊢
  refine lv_iload_n hx hb dX4_isMirror_0 rfl (lv_at hl 1 rfl) ?_
  refine lv_iconst (v := 0) hx hb dX4_isMirror_1 (by decide) ?_
  refine lv_aload_n hx hb dX4_isMirror_2 rfl (lv_at hl 0 rfl) ?_
  refine va_get (D := (dC, dI)) (ci := 4) (v := .ref (h 1)) (C := RX4) (T := TX4) (N := 5) hx hb hts hin_X4 hown hK hP 0 rfl rfl 0 (by decide) hw0 (fun _ h9 => h9) rfl dX4_isMirror_3 ?_
  refine cw_Vi (As := []) (rest := [.int 0, .int p0]) (c_X1_size l dC dI cI cZ cJ h F V) fx (cwV 0 hts gX4_isMirror_X1_size rfl rfl rfl (by decide +kernel) ⟨Nat.le_of_ble_eq_true rfl, Nat.le_of_ble_eq_true rfl⟩) hK hP hD hS hA 1 rfl rfl rfl rfl hl.1 rfl (Nat.le_of_ble_eq_true rfl) dX4_isMirror_6 ⟨Nat.le_of_ble_eq_true rfl, Nat.le_of_ble_eq_true rfl⟩ (fun r_1 u_2 H locs hw_3 hP hD hS => ?_)
  have hP : va_P (dC, dI) vwCl (wC cI cZ h F V) H := hP
  have hD : va_D A (wC cI cZ h F V) := hD
  obtain rfl : r_1 = nI n := Eq.trans hw_3 hV1
  refine lv_iconst (v := 1) hx hb dX4_isMirror_9 (by decide) ?_
  refine lv_isub hx hb dX4_isMirror_10 ?_
  refine cw_Si (As := [.int p0, .int 0, .int ((nI n) - 1)]) (rest := []) (c_X4_isWithin l dC dI cI cZ cJ (wC cI cZ h F V) p0 0 ((nI n) - 1)) fx (va_cwS 3 hts gX4_isMirror_X4_isWithin rfl rfl rfl (by decide +kernel) ⟨Nat.le_of_ble_eq_true rfl, Nat.le_of_ble_eq_true rfl⟩) hK hP hD hS hA rfl hl.1 rfl (Nat.le_of_ble_eq_true rfl) dX4_isMirror_11 ⟨Nat.le_of_ble_eq_true rfl, Nat.le_of_ble_eq_true rfl⟩ (fun r_4 u_5 H locs hw_6 hP hD hS => ?_)
  have hP : va_P (dC, dI) vwCl (wC cI cZ h F V) H := hP
  have hD : va_D A (wC cI cZ h F V) := hD
  have hw_6 : r_4 = bI (isW p0 0 ((nI n) - 1)) := hw_6
  exact hret r_4 () H locs 14 ls (by rw [hw_6]; exact bI_narrow _) dX4_isMirror_14 (hw_6) (hP) (hD) hS
