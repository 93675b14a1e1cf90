/-- what the numbers of the class's state keep to -/
def IC (F : Nat → Nat → Int32) (V : Nat → Int32) : Prop := ∃ (n d ks nw un wm pf sh : Nat) (So Hh Wd Lm Pr : Nat → Nat), (V 1 = nI n ∧ n ≤ 40) ∧ (V 2 = nI d ∧ d ≤ 20) ∧ (V 3 = nI ks ∧ ks ≤ 40) ∧ (V 4 = nI nw ∧ nw ≤ 23) ∧ (V 5 = nI un ∧ un ≤ 200) ∧ (V 6 = nI wm ∧ wm ≤ 1) ∧ (V 9 = nI pf ∧ pf ≤ 24) ∧ (V 11 = nI sh ∧ sh ≤ 12) ∧ ((∀ i, i < 40 → F 9 i = nI (So i)) ∧ ∀ i, i < 40 → So i ≤ 90) ∧ ((∀ i, i < 24 → F 12 i = nI (Hh i)) ∧ ∀ i, i < 24 → Hh i ≤ 9) ∧ ((∀ i, i < 24 → F 13 i = nI (Wd i)) ∧ ∀ i, i < 24 → Wd i ≤ 99) ∧ ((∀ i, i < 4 → F 14 i = nI (Lm i)) ∧ ∀ i, i < 4 → Lm i ≤ 10000) ∧ ((∀ i, i < 24 → F 23 i = nI (Pr i)) ∧ ∀ i, i < 24 → Pr i ≤ 999)
theorem isW_mir {v : Int32} {n : Nat} (hn : n ≤ 40) (h : isW v 0 (nI n - 1) = true) : ∃ k : Nat, k < n ∧ v = nI k := by
  simp only [isW, ltI, Bool.and_eq_true, Bool.not_eq_true', decide_eq_false_iff_not] at h
  obtain ⟨j, hj, e⟩ := nI_of h.1
  refine ⟨j, ?_, e⟩
  have q := h.2
  rw [e, Int32.not_lt, Int32.le_iff_toInt_le, show (nI n - 1).toInt = (n : Int) - 1 from pk_sub_toInt (a := n) (b := 1) (by omega) (by decide), nI_toInt hj] at q
  omega
theorem isW_now {v : Int32} {w : Nat} (hw : w ≤ 23) (h : isW v (nI w) 23 = true) : ∃ k : Nat, (w ≤ k ∧ k ≤ 23) ∧ v = nI k := by
  simp only [isW, ltI, Bool.and_eq_true, Bool.not_eq_true', decide_eq_false_iff_not] at h
  have h0 : ¬ v < 0 := fun q => h.1 (Int32.lt_of_lt_of_le q (nI_pos' (by omega)))
  obtain ⟨j, hj, e⟩ := nI_of h0
  refine ⟨j, ?_, e⟩
  have q1 := h.1
  have q2 := h.2
  rw [e] at q1 q2
  have a := (nI_leI (a := w) (b := j) (by omega) hj).mp (Int32.not_lt.mp q1)
  have b := (nI_leI (a := j) (b := 23) hj (by omega)).mp (Int32.not_lt.mp q2)
  exact ⟨a, b⟩
def a_sun (p0 p1 p2 p3 : Int32) : Int32 := if isW p0 0 23 && isW p1 (-2) 2 && isW p2 (-2) 2 && !(eqI p1 0 && eqI p2 0) && isW p3 0 9 then 1 else 0
def a_in2 (p0 m0 p1 m1 : Int32) : Int32 := if isW p0 0 m0 && isW p1 0 m1 then 1 else 0
def a_in1 (p0 m0 : Int32) : Int32 := if isW p0 0 m0 then 1 else 0
