/-! aims, wash, plan in plain numbers (my own) -/
theorem posn_cong {P Q O : Nat → Nat} {m : Nat} (h : ∀ k, k < m → P (O k) = Q (O k)) (hm : P m = Q m) : ∀ k, k ≤ m → posn P O m k = posn Q O m k
  | 0, _ => rfl
  | k + 1, hk => by
    rw [posn, posn, h k (by omega), hm, posn_cong h hm k (by omega)]
theorem ordn_cong {P Q : Nat → Nat} : ∀ m, (∀ i, i < m → P i = Q i) → ordn P m = ordn Q m
  | 0, _ => rfl
  | m + 1, h => by
    have ih := ordn_cong m (fun i hi => h i (Nat.lt_succ_of_lt hi))
    have hp : posn P (ordn P m) m m = posn Q (ordn Q m) m m := by
      rw [ih]
      refine posn_cong (fun k hk => ?_) (h m (Nat.lt_succ_self m)) m (Nat.le_refl m)
      exact h _ (Nat.lt_succ_of_lt (ordn_lt Q m k hk))
    show insn P (ordn P m) m = insn Q (ordn Q m) m
    funext i
    unfold insn
    rw [hp, ih]
theorem aim_cong {P Q O L0 : Nat → Nat} {n : Nat} (h : ∀ i, i < n → P i = Q i) (hO : ∀ t, t < n → O t < n) : ∀ t, t ≤ n → aimL P O L0 t = aimL Q O L0 t ∧ aimH P O L0 t = aimH Q O L0 t ∧ ∀ C0, aimC P O L0 C0 t = aimC Q O L0 C0 t
  | 0, _ => ⟨rfl, rfl, fun _ => rfl⟩
  | t + 1, ht => by
    obtain ⟨a, b, c⟩ := aim_cong (L0 := L0) h hO t (by omega)
    have e := h (O t) (hO t (by omega))
    refine ⟨?_, ?_, fun C0 => ?_⟩
    · rw [aimL, aimL, a, e]
    · rw [aimH, aimH, a, b, e]
    · rw [aimC, aimC, a, c C0, e]
theorem ordn_sur (P : Nat → Nat) : ∀ m i, i < m → ∃ t, t < m ∧ ordn P m t = i
  | 0, _, h => absurd h (Nat.not_lt_zero _)
  | m + 1, i, h => by
    have hp := posn_le P (ordn P m) m m
    by_cases e : i = m
    · refine ⟨posn P (ordn P m) m m, by omega, ?_⟩
      show insn P (ordn P m) m _ = i
      unfold insn
      rw [if_neg (Nat.lt_irrefl _), if_pos rfl, e]
    · obtain ⟨t, ht, et⟩ := ordn_sur P m i (by omega)
      by_cases q : t < posn P (ordn P m) m m
      · refine ⟨t, by omega, ?_⟩
        show insn P (ordn P m) m _ = i
        unfold insn
        rw [if_pos q, et]
      · refine ⟨t + 1, by omega, ?_⟩
        show insn P (ordn P m) m _ = i
        unfold insn
        rw [if_neg (by omega), if_neg (by omega), Nat.add_sub_cancel, et]
theorem aimC_any {P O L0 : Nat → Nat} (C0 C1 : Nat → Int32) : ∀ t i, (∃ s, s < t ∧ O s = i) → aimC P O L0 C0 t i = aimC P O L0 C1 t i
  | 0, _, h => by obtain ⟨s, hs, -⟩ := h; exact absurd hs (Nat.not_lt_zero s)
  | t + 1, i, h => by
    rw [aimC, aimC]
    by_cases e : i = O t
    · rw [e, pk_us, pk_us]
    · rw [pk_un e, pk_un e]
      obtain ⟨s, hs, es⟩ := h
      refine aimC_any C0 C1 t i ⟨s, ?_, es⟩
      have : s ≠ t := fun q => e (by rw [← es, q])
      omega
/-- the heat of an hour, what it leaves of the cells, and where each aims: by powers P -/
def htA (P Lm : Nat → Nat) (n : Nat) : Nat := aimH P (ordn P n) Lm n
def lA (P Lm : Nat → Nat) (n : Nat) : Nat → Nat := aimL P (ordn P n) Lm n
def cA (P Lm : Nat → Nat) (n : Nat) : Nat → Int32 := aimC P (ordn P n) Lm (fun _ => 0) n
theorem hlc_cong {P Q Lm : Nat → Nat} {n : Nat} (h : ∀ i, i < n → P i = Q i) : htA P Lm n = htA Q Lm n ∧ lA P Lm n = lA Q Lm n ∧ ∀ C0 i, i < n → aimC P (ordn P n) Lm C0 n i = cA Q Lm n i := by
  have e := ordn_cong n h
  obtain ⟨a, b, c⟩ := aim_cong (O := ordn Q n) (L0 := Lm) h (ordn_lt Q n) n (Nat.le_refl n)
  unfold htA lA cA
  rw [e]
  refine ⟨b, a, fun C0 i hi => ?_⟩
  rw [c C0]
  exact aimC_any _ _ n i (ordn_sur Q n i hi)
theorem hA_le {P Lm : Nat → Nat} {n : Nat} (hn : n ≤ 40) (hP : ∀ i, i < n → P i ≤ 100) : htA P Lm n ≤ 4000 := by
  have key : ∀ t, t ≤ n → aimH P (ordn P n) Lm t ≤ t * 100 := by
    intro t
    induction t with
    | zero => intro _; exact Nat.zero_le _
    | succ t ih =>
      intro ht
      have a := ih (by omega)
      have b := hP _ (ordn_lt P n t (by omega))
      unfold aimH
      split <;> omega
  have := key n (Nat.le_refl n)
  unfold htA
  omega
/-! the wash -/
theorem wsh_zero {S : Nat → Nat} {n t : Nat} (h : wsh S n t (best4 (wsh S n t) (n - 1)) = 0) : ∀ j, wsh S n (t + j) = wsh S n t ∧ wgo S n (t + j) = wgo S n t
  | 0 => ⟨rfl, rfl⟩
  | j + 1 => by
    obtain ⟨a, b⟩ := wsh_zero h j
    refine ⟨?_, ?_⟩
    · show nup (wsh S n (t + j)) (best4 (wsh S n (t + j)) (n - 1)) 0 = _
      rw [a]
      funext i
      unfold nup
      split
      · rename_i e
        rw [e, h]
      · rfl
    · show wgo S n (t + j) + wsh S n (t + j) (best4 (wsh S n (t + j)) (n - 1)) = _
      rw [a, b, h]
      omega
def nzc (S : Nat → Nat) (n : Nat) : Nat := sumN (fun i => b01 (decide (S i ≠ 0))) n
theorem nzc_nup {S : Nat → Nat} {n c : Nat} (hc : c < n) (h0 : S c ≠ 0) : nzc (nup S c 0) n + 1 = nzc S n := by
  have q := sumN_nup (fun i => b01 (decide (S i ≠ 0))) (c := c) n hc
  have e : (fun i => b01 (decide (nup S c 0 i ≠ 0))) = nup (fun i => b01 (decide (S i ≠ 0))) c 0 := by
    funext i
    unfold nup
    by_cases z : i = c
    · rw [if_pos z, if_pos z]; rfl
    · rw [if_neg z, if_neg z]
  unfold nzc
  rw [e]
  rw [show b01 (decide (S c ≠ 0)) = 1 from by rw [decide_eq_true h0]; rfl] at q
  exact q
theorem best4_max (L : Nat → Nat) : ∀ c i, i ≤ c → L i ≤ L (best4 L c)
  | 0, i, h => by rw [show i = 0 by omega]; exact Nat.le_refl _
  | c + 1, i, h => by
    rw [best4]
    have ih := best4_max L c
    by_cases e : i = c + 1
    · subst e
      split <;> omega
    · have := ih i (by omega)
      split <;> omega
theorem wsh_nz {S : Nat → Nat} {n : Nat} (hn : 1 ≤ n) : ∀ t, wsh S n t (best4 (wsh S n t) (n - 1)) = 0 ∨ nzc (wsh S n t) n + t ≤ n
  | 0 => by
    refine Or.inr ?_
    have := sumN_le (S := fun i => b01 (decide (S i ≠ 0))) (b := 1) (n := n) (fun i _ => b01_le _)
    show nzc S n + 0 ≤ n
    unfold nzc
    omega
  | t + 1 => by
    rcases wsh_nz (S := S) hn t with h | h
    · left
      obtain ⟨a, -⟩ := wsh_zero h 1
      rw [a]
      exact h
    · by_cases z : wsh S n t (best4 (wsh S n t) (n - 1)) = 0
      · left
        obtain ⟨a, -⟩ := wsh_zero z 1
        rw [a]
        exact z
      · right
        have b := best4_le (wsh S n t) (n - 1)
        have q := nzc_nup (S := wsh S n t) (n := n) (c := best4 (wsh S n t) (n - 1)) (by omega) z
        show nzc (nup (wsh S n t) (best4 (wsh S n t) (n - 1)) 0) n + (t + 1) ≤ n
        omega
theorem sumN_mem {g : Nat → Nat} {c : Nat} : ∀ {n}, c < n → g c ≤ sumN g n
  | 0, h => absurd h (Nat.not_lt_zero c)
  | n + 1, h => by
    rw [sumN]
    by_cases e : c = n
    · rw [e]; omega
    · have := sumN_mem (g := g) (c := c) (n := n) (by omega)
      omega
theorem wsh_end {S : Nat → Nat} {n : Nat} (hn : 1 ≤ n) : wsh S n n (best4 (wsh S n n) (n - 1)) = 0 := by
  rcases wsh_nz (S := S) hn n with h | h
  · exact h
  · have b := best4_le (wsh S n n) (n - 1)
    have q := sumN_mem (g := fun i => b01 (decide (wsh S n n i ≠ 0))) (c := best4 (wsh S n n) (n - 1)) (n := n) (by omega)
    have z : nzc (wsh S n n) n = 0 := by omega
    unfold nzc at z
    rw [z] at q
    by_cases e : wsh S n n (best4 (wsh S n n) (n - 1)) = 0
    · exact e
    · exfalso
      have q2 : b01 (decide (wsh S n n (best4 (wsh S n n) (n - 1)) ≠ 0)) ≤ 0 := q
      rw [decide_eq_true e] at q2
      exact absurd q2 (by decide)
theorem wsh_min {S : Nat → Nat} {n : Nat} (hn : 1 ≤ n) (t : Nat) : wsh S n t = wsh S n (min t n) ∧ wgo S n t = wgo S n (min t n) := by
  by_cases h : t ≤ n
  · rw [Nat.min_eq_left h]; exact ⟨rfl, rfl⟩
  · rw [Nat.min_eq_right (by omega)]
    have q := wsh_zero (wsh_end (S := S) hn) (t - n)
    rw [show n + (t - n) = t by omega] at q
    exact q
/-- the reference's search: the first of the most soiled, one more; 0: none is soiled -/
def bst (S : Nat → Nat) : Nat → Nat
  | 0 => 0
  | m + 1 => if 0 < S m ∧ (bst S m = 0 ∨ S (bst S m - 1) < S m) then m + 1 else bst S m
theorem bst_best (S : Nat → Nat) : ∀ c, bst S (c + 1) = if S (best4 S c) = 0 then 0 else best4 S c + 1
  | 0 => by
    have z : bst S 0 = 0 := rfl
    have y : best4 S 0 = 0 := rfl
    rw [bst, z, y]
    by_cases h : S 0 = 0
    · rw [if_pos h]
      exact if_neg (fun q => by omega)
    · rw [if_neg h]
      exact if_pos ⟨by omega, Or.inl rfl⟩
  | c + 1 => by
    have ih := bst_best S c
    have e1 : bst S (c + 1 + 1) = if 0 < S (c + 1) ∧ (bst S (c + 1) = 0 ∨ S (bst S (c + 1) - 1) < S (c + 1)) then c + 1 + 1 else bst S (c + 1) := rfl
    have e2 : best4 S (c + 1) = if S (best4 S c) < S (c + 1) then c + 1 else best4 S c := rfl
    generalize best4 S c = b at ih e2
    by_cases h : S b = 0
    · rw [if_pos h] at ih
      by_cases z : S (c + 1) = 0
      · have e3 : bst S (c + 1 + 1) = bst S (c + 1) := e1.trans (if_neg (fun q => by omega))
        have e4 : best4 S (c + 1) = b := e2.trans (if_neg (fun q => by omega))
        rw [e3, e4, ih, if_pos h]
      · have e3 : bst S (c + 1 + 1) = c + 1 + 1 := e1.trans (if_pos ⟨by omega, Or.inl ih⟩)
        have e4 : best4 S (c + 1) = c + 1 := e2.trans (if_pos (by omega))
        rw [e3, e4, if_neg z]
    · rw [if_neg h] at ih
      by_cases z : S b < S (c + 1)
      · have e3 : bst S (c + 1 + 1) = c + 1 + 1 := e1.trans (if_pos ⟨by omega, Or.inr (by rw [ih, Nat.add_sub_cancel]; exact z)⟩)
        have e4 : best4 S (c + 1) = c + 1 := e2.trans (if_pos z)
        rw [e3, e4, if_neg (by omega)]
      · have e3 : bst S (c + 1 + 1) = bst S (c + 1) := e1.trans (if_neg (fun q => by rw [ih, Nat.add_sub_cancel] at q; omega))
        have e4 : best4 S (c + 1) = b := e2.trans (if_neg z)
        rw [e3, e4, ih, if_neg h]
theorem bst_le (S : Nat → Nat) : ∀ m, bst S m ≤ m
  | 0 => Nat.le_refl 0
  | m + 1 => by
    have := bst_le S m
    rw [bst]
    split <;> omega
/-! the plan -/
theorem wrun_lt (L : Nat → Int32) (g hd nd : Nat) : ltI (L (2 * hd)) (wval L g hd nd) = wrun L g hd nd := by
  unfold wval
  cases e : wrun L g hd nd with
  | true =>
    rw [if_pos rfl]
    unfold wrun at e
    rw [Bool.and_eq_true] at e
    exact e.2
  | false =>
    rw [if_neg (by decide)]
    unfold ltI
    exact decide_eq_false (Int32.lt_irrefl)
theorem rowf_cong {Pr c1 c2 : Nat → Nat} : ∀ j, j ≤ 24 → (∀ i, 24 - j ≤ i → i < 24 → c1 i = c2 i) → rowf Pr c1 j = rowf Pr c2 j
  | 0, _, _ => rfl
  | j + 1, hj, h => by
    have ih := rowf_cong (Pr := Pr) j (by omega) (fun i h1 h2 => h i (by omega) h2)
    funext i
    show wval (rowf Pr c1 j) _ _ _ = wval (rowf Pr c2 j) _ _ _
    rw [ih, h (23 - j) (by omega) (by omega)]
/-- the way of the best plan, and whether it runs -/
def plT (Pr cm : Nat → Nat) (nw un wm : Nat) : Nat → Nat × Nat
  | 0 => (un, wm)
  | j + 1 => if wrun (rowf Pr cm (23 - (nw + j))) (5 * Pr (nw + j)) (min 200 ((plT Pr cm nw un wm j).1 + cm (nw + j))) (7 - 2 * (plT Pr cm nw un wm j).2) then (min 200 ((plT Pr cm nw un wm j).1 + cm (nw + j)) - (7 - 2 * (plT Pr cm nw un wm j).2), 1) else (min 200 ((plT Pr cm nw un wm j).1 + cm (nw + j)), 0)
def plR (Pr cm : Nat → Nat) (nw un wm h : Nat) : Bool := wrun (rowf Pr cm (23 - h)) (5 * Pr h) (min 200 ((plT Pr cm nw un wm (h - nw)).1 + cm h)) (7 - 2 * (plT Pr cm nw un wm (h - nw)).2)
theorem plT_cong {Pr c1 c2 : Nat → Nat} {nw un wm : Nat} (h : ∀ i, nw ≤ i → i < 24 → c1 i = c2 i) : ∀ j, nw + j ≤ 24 → plT Pr c1 nw un wm j = plT Pr c2 nw un wm j
  | 0, _ => rfl
  | j + 1, hj => by
    have ih := plT_cong (Pr := Pr) (un := un) (wm := wm) h j (by omega)
    rw [plT, plT, ih, h (nw + j) (by omega) (by omega), rowf_cong (Pr := Pr) (23 - (nw + j)) (by omega) (fun i h1 h2 => h i (by omega) h2)]
theorem plR_cong {Pr c1 c2 : Nat → Nat} {nw un wm k : Nat} (h : ∀ i, nw ≤ i → i < 24 → c1 i = c2 i) (h1 : nw ≤ k) (h2 : k < 24) : plR Pr c1 nw un wm k = plR Pr c2 nw un wm k := by
  unfold plR
  rw [plT_cong h (k - nw) (by omega), h k h1 h2, rowf_cong (23 - k) (by omega) (fun i a b => h i (by omega) b)]
theorem plT_wm {Pr cm : Nat → Nat} {nw un wm : Nat} (hw : wm ≤ 1) : ∀ j, (plT Pr cm nw un wm j).2 ≤ 1
  | 0 => hw
  | j + 1 => by
    rw [plT]
    split
    · exact Nat.le_refl 1
    · exact Nat.zero_le 1
theorem plT_mh {Pr cm : Nat → Nat} {nw un wm : Nat} : ∀ j, (plT Pr cm nw un wm j).1 ≤ mhF cm nw un (nw + j)
  | 0 => by rw [show nw + 0 = nw from rfl, mhF_at cm nw un nw (Nat.le_refl nw)]; exact Nat.le_refl _
  | j + 1 => by
    have ih := plT_mh (Pr := Pr) (cm := cm) (nw := nw) (un := un) (wm := wm) j
    rw [show nw + (j + 1) = (nw + j) + 1 by omega, mhF_up cm (by omega), plT]
    split
    · show min 200 _ - _ ≤ _
      omega
    · show min 200 _ ≤ _
      omega
theorem fc_pl {C : Nat → Int32} {Pr cm : Nat → Nat} {nw un wm : Nat} (hw : wm ≤ 1) (h : ∀ t, nw ≤ t → t < 24 → ∀ a, a ≤ mhF cm nw un t → ∀ b, b ≤ 1 → tkb (C (2 * a + b)) t = wrun (rowf Pr cm (23 - t)) (5 * Pr t) (min 200 (a + cm t)) (7 - 2 * b)) :
    ∀ j, nw + j ≤ 24 → fcT C cm nw un wm j = plT Pr cm nw un wm j ∧ ∀ t, t < 24 → tkb (fcP C cm nw un wm j) t = (decide (nw ≤ t ∧ t < nw + j) && plR Pr cm nw un wm t)
  | 0, _ => ⟨rfl, fun t _ => by
    rw [decide_eq_false (by omega), Bool.false_and]
    exact tkb_0 t⟩
  | j + 1, hj => by
    obtain ⟨a, b⟩ := fc_pl hw h j (by omega)
    have e : tkb (C (2 * (plT Pr cm nw un wm j).1 + (plT Pr cm nw un wm j).2)) (nw + j) = wrun (rowf Pr cm (23 - (nw + j))) (5 * Pr (nw + j)) (min 200 ((plT Pr cm nw un wm j).1 + cm (nw + j))) (7 - 2 * (plT Pr cm nw un wm j).2) := h (nw + j) (by omega) (by omega) _ (plT_mh j) _ (plT_wm hw j)
    have r : plR Pr cm nw un wm (nw + j) = wrun (rowf Pr cm (23 - (nw + j))) (5 * Pr (nw + j)) (min 200 ((plT Pr cm nw un wm j).1 + cm (nw + j))) (7 - 2 * (plT Pr cm nw un wm j).2) := by
      unfold plR
      rw [show nw + j - nw = j by omega]
    refine ⟨?_, fun t ht => ?_⟩
    · rw [fcT, plT, a, e]
    · rw [fcP, a, e, ← r]
      cases q : plR Pr cm nw un wm (nw + j) with
      | true =>
        rw [if_pos rfl, tkb_or (by omega) (by omega), b t ht]
        by_cases z : t = nw + j
        · rw [z, q, decide_eq_true rfl, decide_eq_true (p := nw ≤ nw + j ∧ nw + j < nw + (j + 1)) (by omega), Bool.or_true, Bool.and_true]
        · rw [decide_eq_false z, Bool.or_false]
          congr 1
          rw [decide_eq_decide]
          omega
      | false =>
        rw [if_neg (by decide), b t ht]
        by_cases z : t = nw + j
        · rw [z, q, Bool.and_false, Bool.and_false]
        · congr 1
          rw [decide_eq_decide]
          omega

