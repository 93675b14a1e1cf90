/-- what the class's state holds -/
def VC (n d ks nw un wm pf : Nat) (So Hh Wd Lm Pr X Y : Nat → Nat) (SX SY Kc Kp : Nat → Int32) (er : Int32) (rb : Nat → Bool) (F : Nat → Nat → Int32) (V : Nat → Int32) : Prop :=
  (V 1 = nI n ∧ n ≤ 40) ∧ (V 2 = nI d ∧ d ≤ 20) ∧ (V 3 = nI ks ∧ ks ≤ 40) ∧ (V 4 = nI nw ∧ nw ≤ 23) ∧ (V 5 = nI un ∧ un ≤ 200) ∧ (V 6 = nI wm ∧ wm ≤ 1) ∧ (V 9 = nI pf ∧ pf ≤ 24) ∧ (∃ sh, V 11 = nI sh ∧ sh ≤ 12) ∧ ((∀ i, i < 40 → F 9 i = nI (So i)) ∧ ∀ i, i < 40 → So i ≤ 90) ∧ ((∀ i, i < 24 → F 12 i = nI (Hh i)) ∧ ∀ i, i < 24 → Hh i ≤ 9) ∧ ((∀ i, i < 24 → F 13 i = nI (Wd i)) ∧ ∀ i, i < 24 → Wd i ≤ 99) ∧ ((∀ i, i < 4 → F 14 i = nI (Lm i)) ∧ ∀ i, i < 4 → Lm i ≤ 10000) ∧ ((∀ i, i < 24 → F 23 i = nI (Pr i)) ∧ ∀ i, i < 24 → Pr i ≤ 999) ∧ ks ≤ n ∧ GP n X Y ∧ SUN SX SY ∧ GC n X Y F ∧ (∀ i, i < 24 → F 10 i = SX i) ∧ (∀ i, i < 24 → F 11 i = SY i) ∧ KC ks Kc Kp F ∧ V 7 = er ∧ PLC pf rb V
theorem ks_in {v : Int32} {n ks : Nat} (hn : n ≤ 40) (hk : ks ≤ n) (h : inN v n = false) : inN v ks = false := by
  cases e : inN v ks with
  | false => rfl
  | true =>
    have q : inN v ks = true := e
    unfold inN ltI at q h
    rw [Bool.and_eq_true] at q
    have q2 := of_decide_eq_true q.2
    have q3 : v < nI n := Int32.lt_of_lt_of_le q2 ((nI_leI (by omega) (by omega)).mpr hk)
    rw [q.1, Bool.true_and, decide_eq_true q3] at h
    cases h
theorem runs_out {v : Int32} {pf : Nat} (hp : pf ≤ 24) (h : isW v 0 23 = false) : isW v (nI pf) 23 = false := by
  cases e : isW v (nI pf) 23 with
  | false => rfl
  | true =>
    have q := isW_hi e
    have z : isW v 0 23 = true := by
      unfold isW ltI
      rw [decide_eq_false (fun w => q.1 (Int32.lt_of_lt_of_le w (nI_pos' (by omega)))), decide_eq_false q.2]
      rfl
    rw [z] at h
    cases h
