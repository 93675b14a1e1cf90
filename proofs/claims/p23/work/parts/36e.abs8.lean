/-! the best that few could do: by cells one after the other, by sets (my own) -/
theorem sumN_one {x : Nat} : ∀ {f k : Nat}, k < f → sumN (fun i => if i = k then x else 0) f = x
  | 0, k, h => absurd h (Nat.not_lt_zero k)
  | f + 1, k, h => by
    have e : sumN (fun i => if i = k then x else 0) (f + 1) = sumN (fun i => if i = k then x else 0) f + (if f = k then x else 0) := rfl
    rw [e]
    by_cases q : f = k
    · rw [if_pos q, sumN_z (fun i hi => if_neg (by omega)), Nat.zero_add]
    · rw [if_neg q, sumN_one (by omega), Nat.add_zero]
def sm (v : Nat → Nat) (q : Nat → Bool) (k f : Nat) : Nat := sumN (fun i => if k ≤ i ∧ q i = true then v i else 0) f
theorem sm_off {v : Nat → Nat} {q : Nat → Bool} {k f : Nat} (h : k < f) : sm v q k f = (if q k = true then v k else 0) + sm v q (k + 1) f := by
  have s := sumN_one (x := if q k = true then v k else 0) h
  have t := sumN_add (fun i => if i = k then (if q k = true then v k else 0) else 0) (fun i => if k + 1 ≤ i ∧ q i = true then v i else 0) f
  rw [s] at t
  refine Eq.trans ?_ t
  refine sumN_cong (fun i hi => ?_)
  show (if k ≤ i ∧ q i = true then v i else 0) = (if i = k then (if q k = true then v k else 0) else 0) + (if k + 1 ≤ i ∧ q i = true then v i else 0)
  by_cases e : i = k
  · rw [e, if_pos rfl, if_neg (show ¬ (k + 1 ≤ k ∧ q k = true) from fun z => absurd z.1 (by omega)), Nat.add_zero]
    by_cases z : q k = true
    · rw [if_pos ⟨Nat.le_refl k, z⟩, if_pos z]
    · rw [if_neg (fun y => z y.2), if_neg z]
  · rw [if_neg e, Nat.zero_add]
    by_cases z : k ≤ i ∧ q i = true
    · rw [if_pos z, if_pos ⟨by omega, z.2⟩]
    · rw [if_neg z, if_neg (fun y => z ⟨by omega, y.2⟩)]
theorem sm_end (v : Nat → Nat) (q : Nat → Bool) (f : Nat) : sm v q f f = 0 := sumN_z (fun i hi => if_neg (fun z => absurd z.1 (by omega)))
theorem sm_cong {v : Nat → Nat} {q r : Nat → Bool} {k f : Nat} (h : ∀ i, k ≤ i → i < f → q i = r i) : sm v q k f = sm v r k f := sumN_cong (fun i hi => by
  show (if k ≤ i ∧ q i = true then v i else 0) = (if k ≤ i ∧ r i = true then v i else 0)
  by_cases z : k ≤ i
  · rw [h i z hi]
  · rw [if_neg (fun y => z y.1), if_neg (fun y => z y.1)])
theorem sm_cv {v w : Nat → Nat} {q : Nat → Bool} {k f : Nat} (h : ∀ i, i < f → v i = w i) : sm v q k f = sm w q k f := sumN_cong (fun i hi => by
  show (if k ≤ i ∧ q i = true then v i else 0) = (if k ≤ i ∧ q i = true then w i else 0)
  rw [h i hi])
theorem sm_no {v : Nat → Nat} {q : Nat → Bool} {k f : Nat} (h : ∀ i, i < f → q i = false) : sm v q k f = 0 := sumN_z (fun i hi => if_neg (fun z => by rw [h i hi] at z; exact absurd z.2 (by decide)))
def fea (v L a : Nat → Nat) (k f : Nat) : Prop := ∀ c, c < 4 → sm v (fun i => decide (a i = c)) k f ≤ L c
def gnk (v a : Nat → Nat) (k f : Nat) : Nat := sm v (fun i => decide (a i < 4)) k f
theorem ld_k {v a : Nat → Nat} {k f c : Nat} (hk : k < f) (ha : a k = c) : sm v (fun i => decide (a i = c)) k f = v k + sm v (fun i => decide (a i = c)) (k + 1) f := by
  rw [sm_off hk]
  show (if decide (a k = c) = true then v k else 0) + _ = _
  rw [if_pos (decide_eq_true ha)]
theorem ld_n {v a : Nat → Nat} {k f c : Nat} (hk : k < f) (ha : ¬ a k = c) : sm v (fun i => decide (a i = c)) k f = sm v (fun i => decide (a i = c)) (k + 1) f := by
  rw [sm_off hk]
  show (if decide (a k = c) = true then v k else 0) + _ = _
  rw [if_neg (by rw [decide_eq_false ha]; decide), Nat.zero_add]
theorem fea_k {v L a : Nat → Nat} {k f c : Nat} (hk : k < f) (hc : c < 4) (ha : a k = c) : fea v L a k f ↔ v k ≤ L c ∧ fea v (nup L c (L c - v k)) a (k + 1) f := by
  constructor
  · intro h
    have h0 := h c hc
    rw [ld_k hk ha] at h0
    refine ⟨by omega, fun d hd => ?_⟩
    by_cases e : d = c
    · rw [e, nup_s]; omega
    · rw [nup_n e, ← ld_n hk (by omega)]; exact h d hd
  · intro h d hd
    have h1 := h.1
    have h2 := h.2 d hd
    by_cases e : d = c
    · rw [e, nup_s] at h2
      rw [e, ld_k hk ha]; omega
    · rw [nup_n e] at h2
      rw [ld_n hk (by omega)]; exact h2
theorem fea_n {v L a : Nat → Nat} {k f : Nat} (hk : k < f) (ha : 4 ≤ a k) : fea v L a k f ↔ fea v L a (k + 1) f := by
  constructor
  · intro h d hd
    rw [← ld_n hk (by omega)]; exact h d hd
  · intro h d hd
    rw [ld_n hk (by omega)]; exact h d hd
theorem gnk_k {v a : Nat → Nat} {k f : Nat} (hk : k < f) (ha : a k < 4) : gnk v a k f = v k + gnk v a (k + 1) f := by
  unfold gnk
  rw [sm_off hk]
  show (if decide (a k < 4) = true then v k else 0) + _ = _
  rw [if_pos (decide_eq_true ha)]
theorem gnk_n {v a : Nat → Nat} {k f : Nat} (hk : k < f) (ha : 4 ≤ a k) : gnk v a k f = gnk v a (k + 1) f := by
  unfold gnk
  rw [sm_off hk]
  show (if decide (a k < 4) = true then v k else 0) + _ = _
  rw [if_neg (by rw [decide_eq_false (by omega)]; decide), Nat.zero_add]
theorem fea_cong {v L a b : Nat → Nat} {k f : Nat} (h : ∀ i, k ≤ i → i < f → a i = b i) : fea v L a k f ↔ fea v L b k f := by
  constructor
  · intro z c hc
    rw [← sm_cong (q := fun i => decide (a i = c)) (fun i h1 h2 => by show decide (a i = c) = decide (b i = c); rw [h i h1 h2])]; exact z c hc
  · intro z c hc
    rw [sm_cong (r := fun i => decide (b i = c)) (fun i h1 h2 => by show decide (a i = c) = decide (b i = c); rw [h i h1 h2])]; exact z c hc
theorem gnk_cong {v a b : Nat → Nat} {k f : Nat} (h : ∀ i, k ≤ i → i < f → a i = b i) : gnk v a k f = gnk v b k f := sm_cong (fun i h1 h2 => by show decide (a i < 4) = decide (b i < 4); rw [h i h1 h2])
/-- what a try from k on makes of the most so far -/
def trR (v : Nat → Nat) (f k : Nat) (L : Nat → Nat) (ht mo m : Nat) : Prop := mo ≤ m ∧ (m = mo ∨ ∃ a, fea v L a k f ∧ m = ht + gnk v a k f) ∧ ∀ a, fea v L a k f → ht + gnk v a k f ≤ m
def trC (v : Nat → Nat) (f k : Nat) (L : Nat → Nat) (ht mo cc m : Nat) : Prop := mo ≤ m ∧ (m = mo ∨ ∃ a, fea v L a k f ∧ m = ht + gnk v a k f) ∧ ∀ a, fea v L a k f → a k < cc → ht + gnk v a k f ≤ m
theorem trR_leaf {v : Nat → Nat} {f k : Nat} {L : Nat → Nat} {ht mo : Nat} (hk : k = f) : trR v f k L ht mo (max mo ht) := by
  subst hk
  have z : ∀ a, gnk v a k k = 0 := fun a => sm_end _ _ _
  refine ⟨Nat.le_max_left _ _, ?_, fun a _ => by rw [z a, Nat.add_zero]; exact Nat.le_max_right _ _⟩
  by_cases q : ht ≤ mo
  · exact Or.inl (Nat.max_eq_left q)
  · refine Or.inr ⟨fun _ => 4, fun c _ => by rw [sm_end]; exact Nat.zero_le _, ?_⟩
    rw [z, Nat.add_zero]
    exact Nat.max_eq_right (by omega)
theorem trC_0 {v : Nat → Nat} {f k : Nat} {L : Nat → Nat} {ht mo : Nat} : trC v f k L ht mo 0 mo := ⟨Nat.le_refl mo, Or.inl rfl, fun _ _ h => absurd h (Nat.not_lt_zero _)⟩
theorem trC_skip {v : Nat → Nat} {f k : Nat} {L : Nat → Nat} {ht mo cc m : Nat} (hk : k < f) (hc : cc < 4) (hv : ¬ v k ≤ L cc) (h : trC v f k L ht mo cc m) : trC v f k L ht mo (cc + 1) m := ⟨h.1, h.2.1, fun a ha hl => by
  by_cases e : a k = cc
  · exact absurd ((fea_k hk hc e).mp ha).1 hv
  · exact h.2.2 a ha (by omega)⟩
theorem trC_rec {v : Nat → Nat} {f k : Nat} {L : Nat → Nat} {ht mo cc m1 m2 : Nat} (hk : k < f) (hc : cc < 4) (hv : v k ≤ L cc) (h : trC v f k L ht mo cc m1) (r : trR v f (k + 1) (nup L cc (L cc - v k)) (ht + v k) m1 m2) : trC v f k L ht mo (cc + 1) m2 := by
  refine ⟨Nat.le_trans h.1 r.1, ?_, fun a ha hl => ?_⟩
  · rcases r.2.1 with e | ⟨a, ha, e⟩
    · rw [e]; exact h.2.1
    · have hb : ∀ i, k + 1 ≤ i → i < f → nup a k cc i = a i := fun i h1 _ => nup_n (by omega)
      refine Or.inr ⟨nup a k cc, (fea_k hk hc (nup_s a k cc)).mpr ⟨hv, (fea_cong hb).mpr ha⟩, ?_⟩
      rw [gnk_k hk (by rw [nup_s]; exact hc), gnk_cong hb, e]
      omega
  · by_cases q : a k = cc
    · have y := r.2.2 a ((fea_k hk hc q).mp ha).2
      rw [gnk_k hk (by omega)]
      omega
    · exact Nat.le_trans (h.2.2 a ha (by omega)) r.1
theorem trR_fin {v : Nat → Nat} {f k : Nat} {L : Nat → Nat} {ht mo m1 m2 : Nat} (hk : k < f) (h : trC v f k L ht mo 4 m1) (r : trR v f (k + 1) L ht m1 m2) : trR v f k L ht mo m2 := by
  refine ⟨Nat.le_trans h.1 r.1, ?_, fun a ha => ?_⟩
  · rcases r.2.1 with e | ⟨a, ha, e⟩
    · rw [e]; exact h.2.1
    · have hb : ∀ i, k + 1 ≤ i → i < f → nup a k 4 i = a i := fun i h1 _ => nup_n (by omega)
      refine Or.inr ⟨nup a k 4, (fea_n hk (by rw [nup_s]; exact Nat.le_refl 4)).mpr ((fea_cong hb).mpr ha), ?_⟩
      rw [gnk_n hk (by rw [nup_s]; exact Nat.le_refl 4), gnk_cong hb, e]
  · by_cases q : a k < 4
    · exact Nat.le_trans (h.2.2 a ha q) r.1
    · have y := r.2.2 a ((fea_n hk (by omega)).mp ha)
      rw [gnk_n hk (by omega)]
      exact y
/-- the most: one reaches it, none goes beyond -/
def isB (v L : Nat → Nat) (f M : Nat) : Prop := (∃ a, fea v L a 0 f ∧ M = gnk v a 0 f) ∧ ∀ a, fea v L a 0 f → gnk v a 0 f ≤ M
theorem isB_uni {v L : Nat → Nat} {f M N : Nat} (h1 : isB v L f M) (h2 : isB v L f N) : M = N := by
  obtain ⟨⟨a, ha, ea⟩, ua⟩ := h1
  obtain ⟨⟨b, hb, eb⟩, ub⟩ := h2
  have x := ua b hb
  have y := ub a ha
  omega
theorem none_fea (v L : Nat → Nat) (f : Nat) : fea v L (fun _ => 4) 0 f ∧ gnk v (fun _ => 4) 0 f = 0 :=
  ⟨fun c hc => by rw [sm_no (fun i _ => decide_eq_false (show ¬ (4 : Nat) = c by omega))]; exact Nat.zero_le _, sm_no (fun i _ => decide_eq_false (show ¬ (4 : Nat) < 4 by omega))⟩
theorem isB_tr {v L : Nat → Nat} {f m : Nat} (h : trR v f 0 L 0 0 m) : isB v L f m := by
  refine ⟨?_, fun a ha => by have := h.2.2 a ha; omega⟩
  rcases h.2.1 with e | ⟨a, ha, e⟩
  · exact ⟨fun _ => 4, (none_fea v L f).1, by rw [(none_fea v L f).2]; exact e⟩
  · exact ⟨a, ha, by omega⟩
theorem isB_cv {v w L : Nat → Nat} {f M : Nat} (h : ∀ i, i < f → v i = w i) (b : isB v L f M) : isB w L f M := by
  have e1 : ∀ a, fea v L a 0 f ↔ fea w L a 0 f := fun a => ⟨fun z c hc => by rw [← sm_cv h]; exact z c hc, fun z c hc => by rw [sm_cv h]; exact z c hc⟩
  have e2 : ∀ a, gnk v a 0 f = gnk w a 0 f := fun a => sm_cv h
  obtain ⟨⟨a, ha, ea⟩, ua⟩ := b
  exact ⟨⟨a, (e1 a).mp ha, by rw [← e2 a]; exact ea⟩, fun a ha => by rw [← e2 a]; exact ua a ((e1 a).mpr ha)⟩
noncomputable def bstH (v L : Nat → Nat) (f : Nat) : Nat := Classical.epsilon (fun M => isB v L f M)
theorem bstH_eq {v L : Nat → Nat} {f M : Nat} (h : isB v L f M) : M = bstH v L f := isB_uni h (Classical.epsilon_spec (p := fun M => isB v L f M) ⟨M, h⟩)
/-- powers of a set, as bits -/
def spS (v : Nat → Nat) (f S : Nat) : Nat := sumN (fun i => if S.testBit i = true then v i else 0) f
theorem spS_lo {v : Nat → Nat} {t S : Nat} (h : S < 2 ^ t) : spS v (t + 1) S = spS v t S := by
  have e : spS v (t + 1) S = spS v t S + (if S.testBit t = true then v t else 0) := rfl
  rw [e, Nat.testBit_lt_two_pow h, if_neg (by decide), Nat.add_zero]
theorem spS_hi {v : Nat → Nat} {t S : Nat} (h : S < 2 ^ t) : spS v (t + 1) (S + 2 ^ t) = spS v t S + v t := by
  have e : spS v (t + 1) (S + 2 ^ t) = spS v t (S + 2 ^ t) + (if (S + 2 ^ t).testBit t = true then v t else 0) := rfl
  have b : (S + 2 ^ t).testBit t = true := by
    rw [Nat.add_comm, Nat.testBit_two_pow_add_eq, Nat.testBit_lt_two_pow h]
    rfl
  rw [e, if_pos b]
  congr 1
  refine sumN_cong (fun i hi => ?_)
  show (if (S + 2 ^ t).testBit i = true then v i else 0) = (if S.testBit i = true then v i else 0)
  rw [Nat.add_comm S, Nat.testBit_two_pow_add_gt hi]
theorem spS_le {v : Nat → Nat} {f S : Nat} (h : ∀ i, i < f → v i ≤ 100) : spS v f S ≤ f * 100 := sumN_le (fun i hi => by
  show (if S.testBit i = true then v i else 0) ≤ 100
  have := h i hi
  split <;> omega)
def mkS (p : Nat → Bool) : Nat → Nat
  | 0 => 0
  | f + 1 => mkS p f + (if p f = true then 2 ^ f else 0)
theorem mkS_lt (p : Nat → Bool) : ∀ f, mkS p f < 2 ^ f
  | 0 => Nat.one_pos
  | f + 1 => by
    have := mkS_lt p f
    rw [mkS, Nat.pow_succ]
    split <;> omega
theorem mkS_bit (p : Nat → Bool) : ∀ f i, (mkS p f).testBit i = (decide (i < f) && p i)
  | 0, i => by
    show (0 : Nat).testBit i = _
    rw [Nat.zero_testBit, decide_eq_false (Nat.not_lt_zero i), Bool.false_and]
  | f + 1, i => by
    have ih := mkS_bit p f i
    have lt := mkS_lt p f
    rw [mkS]
    by_cases z : p f = true
    · rw [if_pos z, Nat.add_comm]
      by_cases h1 : i < f
      · rw [Nat.testBit_two_pow_add_gt h1, ih, decide_eq_true h1, decide_eq_true (show i < f + 1 by omega)]
      · by_cases h2 : i = f
        · rw [h2, Nat.testBit_two_pow_add_eq, Nat.testBit_lt_two_pow lt, z, decide_eq_true (Nat.lt_succ_self f)]
          rfl
        · have g : 2 ^ f + mkS p f < 2 ^ i := by
            have := Nat.pow_le_pow_right (n := 2) (by decide) (show f + 1 ≤ i by omega)
            rw [Nat.pow_succ] at this
            omega
          rw [Nat.testBit_lt_two_pow g, decide_eq_false (by omega), Bool.false_and]
    · rw [if_neg z, Nat.add_zero, ih]
      rw [Bool.not_eq_true] at z
      by_cases h2 : i = f
      · rw [h2, z, Bool.and_false, Bool.and_false]
      · congr 1
        rw [decide_eq_decide]
        omega
theorem spS_mk (v : Nat → Nat) (p : Nat → Bool) (f : Nat) : spS v f (mkS p f) = sm v p 0 f := sumN_cong (fun i hi => by
  show (if (mkS p f).testBit i = true then v i else 0) = (if 0 ≤ i ∧ p i = true then v i else 0)
  rw [mkS_bit, decide_eq_true hi, Bool.true_and]
  by_cases z : p i = true
  · rw [if_pos z, if_pos ⟨Nat.zero_le i, z⟩]
  · rw [if_neg z, if_neg (fun y => z y.2)])
theorem spS_sm {v : Nat → Nat} {q : Nat → Bool} {f S : Nat} (h : ∀ i, i < f → S.testBit i = q i) : spS v f S = sm v q 0 f := sumN_cong (fun i hi => by
  show (if S.testBit i = true then v i else 0) = (if 0 ≤ i ∧ q i = true then v i else 0)
  rw [h i hi]
  by_cases z : q i = true
  · rw [if_pos z, if_pos ⟨Nat.zero_le i, z⟩]
  · rw [if_neg z, if_neg (fun y => z y.2)])
/-- the sets that c cells hold -/
def FT (v L : Nat → Nat) (f c : Nat) (g : Nat → Bool) : Prop := ∀ S, S < 2 ^ f → (g S = true ↔ ∃ a : Nat → Nat, (∀ i, i < f → (a i < c ↔ S.testBit i = true)) ∧ ∀ d, d < c → sm v (fun i => decide (a i = d)) 0 f ≤ L d)
theorem bit_out {f S i : Nat} (h : S < 2 ^ f) (hi : ¬ i < f) : S.testBit i = false := Nat.testBit_lt_two_pow (Nat.lt_of_lt_of_le h (Nat.pow_le_pow_right (by decide) (by omega)))
theorem FT_0 {v L : Nat → Nat} {f : Nat} : FT v L f 0 (fun S => decide (S = 0)) := fun S hS => by
  show decide (S = 0) = true ↔ _
  rw [decide_eq_true_iff]
  constructor
  · intro e
    exact ⟨fun _ => 0, fun i _ => ⟨fun z => absurd z (Nat.not_lt_zero _), fun z => by rw [e, Nat.zero_testBit] at z; exact absurd z (by decide)⟩, fun d hd => absurd hd (Nat.not_lt_zero d)⟩
  · intro h
    obtain ⟨a, ha, -⟩ := h
    apply Nat.eq_of_testBit_eq
    intro i
    rw [Nat.zero_testBit]
    by_cases hi : i < f
    · cases b : S.testBit i with
      | false => rfl
      | true => exact absurd ((ha i hi).mpr b) (Nat.not_lt_zero _)
    · exact bit_out hS hi
noncomputable def wdn (v : Nat → Nat) (f l : Nat) (g : Nat → Bool) (S : Nat) : Bool := @decide (g S = true ∨ ∃ t, 0 < t ∧ t &&& S = t ∧ spS v f t ≤ l ∧ g (S ^^^ t) = true) (Classical.propDecidable _)
theorem wdn_iff {v : Nat → Nat} {f l : Nat} {g : Nat → Bool} {S : Nat} : wdn v f l g S = true ↔ (g S = true ∨ ∃ t, 0 < t ∧ t &&& S = t ∧ spS v f t ≤ l ∧ g (S ^^^ t) = true) := by
  unfold wdn
  exact @decide_eq_true_iff _ (Classical.propDecidable _)
theorem sub_bit {t S i : Nat} (h : t &&& S = t) (hb : t.testBit i = true) : S.testBit i = true := by
  rw [← h, Nat.testBit_and, Bool.and_eq_true] at hb
  exact hb.2
theorem FT_s {v L : Nat → Nat} {f c : Nat} {g : Nat → Bool} (h : FT v L f c g) : FT v L f (c + 1) (wdn v f (L c) g) := fun S hS => by
  rw [wdn_iff]
  constructor
  · intro hh
    rcases hh with h1 | ⟨t, ht0, hts, htl, h1⟩
    · obtain ⟨a, ha, hl⟩ := (h S hS).mp h1
      refine ⟨fun i => if a i < c then a i else c + 1, fun i hi => ?_, fun d hd => ?_⟩
      · show (if a i < c then a i else c + 1) < c + 1 ↔ _
        rw [← ha i hi]
        split <;> omega
      · by_cases e : d = c
        · rw [sm_no (fun i _ => decide_eq_false (by show ¬ (if a i < c then a i else c + 1) = d; split <;> omega))]
          exact Nat.zero_le _
        · refine Nat.le_trans (Nat.le_of_eq (sm_cong (fun i _ _ => ?_))) (hl d (by omega))
          show decide ((if a i < c then a i else c + 1) = d) = decide (a i = d)
          rw [decide_eq_decide]
          split <;> omega
    · have tS : t ≤ S := by rw [← hts]; exact Nat.and_le_right
      obtain ⟨a, ha, hl⟩ := (h (S ^^^ t) (Nat.xor_lt_two_pow hS (Nat.lt_of_le_of_lt tS hS))).mp h1
      have no : ∀ i, i < f → t.testBit i = true → ¬ a i < c := fun i hi hb q => by
        have x := (ha i hi).mp q
        rw [Nat.testBit_xor, hb, sub_bit hts hb] at x
        exact absurd x (by decide)
      refine ⟨fun i => if t.testBit i = true then c else if a i < c then a i else c + 1, fun i hi => ?_, fun d hd => ?_⟩
      · show (if t.testBit i = true then c else if a i < c then a i else c + 1) < c + 1 ↔ _
        by_cases b : t.testBit i = true
        · rw [if_pos b]
          exact ⟨fun _ => sub_bit hts b, fun _ => Nat.lt_succ_self c⟩
        · rw [if_neg b]
          have x := ha i hi
          rw [Bool.not_eq_true] at b
          rw [Nat.testBit_xor, b, Bool.xor_false] at x
          rw [← x]
          split <;> omega
      · by_cases e : d = c
        · refine Nat.le_trans (Nat.le_of_eq ?_) (show spS v f t ≤ L d by rw [e]; exact htl)
          refine (spS_sm (fun i hi => ?_)).symm
          show t.testBit i = decide ((if t.testBit i = true then c else if a i < c then a i else c + 1) = d)
          by_cases b : t.testBit i = true
          · rw [if_pos b, b, decide_eq_true e.symm]
          · rw [if_neg b]
            rw [Bool.not_eq_true] at b
            rw [b, decide_eq_false (by split <;> omega)]
        · refine Nat.le_trans (Nat.le_of_eq (sm_cong (fun i _ hi => ?_))) (hl d (by omega))
          show decide ((if t.testBit i = true then c else if a i < c then a i else c + 1) = d) = decide (a i = d)
          rw [decide_eq_decide]
          by_cases b : t.testBit i = true
          · have x := no i hi b
            rw [if_pos b]
            omega
          · rw [if_neg b]
            split <;> omega
  · intro hh
    obtain ⟨a, ha, hl⟩ := hh
    obtain ⟨t, et⟩ : ∃ t, t = mkS (fun i => decide (a i = c)) f := ⟨_, rfl⟩
    have tb : ∀ i, t.testBit i = (decide (i < f) && decide (a i = c)) := fun i => by rw [et]; exact mkS_bit _ f i
    have tl : t < 2 ^ f := by rw [et]; exact mkS_lt _ f
    by_cases e : t = 0
    · refine Or.inl ((h S hS).mpr ⟨a, fun i hi => ?_, fun d hd => hl d (by omega)⟩)
      have x := tb i
      rw [e, Nat.zero_testBit, decide_eq_true hi, Bool.true_and] at x
      have y := of_decide_eq_false x.symm
      rw [← ha i hi]
      omega
    · refine Or.inr ⟨t, by omega, ?_, ?_, ?_⟩
      · apply Nat.eq_of_testBit_eq
        intro i
        rw [Nat.testBit_and]
        cases b : t.testBit i with
        | false => rfl
        | true =>
          have x := tb i
          rw [b] at x
          have y := x.symm
          rw [Bool.and_eq_true] at y
          have hi := of_decide_eq_true y.1
          have hc := of_decide_eq_true y.2
          rw [(ha i hi).mp (by omega)]
          rfl
      · rw [et, spS_mk]
        exact hl c (by omega)
      · refine (h (S ^^^ t) (Nat.xor_lt_two_pow hS tl)).mpr ⟨a, fun i hi => ?_, fun d hd => hl d (by omega)⟩
        have x := ha i hi
        rw [Nat.testBit_xor, tb i, decide_eq_true hi, Bool.true_and]
        by_cases q : a i = c
        · rw [decide_eq_true q, x.mp (by omega)]
          exact ⟨fun z => absurd z (by omega), fun z => absurd z (by decide)⟩
        · rw [decide_eq_false q, Bool.xor_false, ← x]
          omega
theorem FT_B {v L : Nat → Nat} {f M : Nat} {g : Nat → Bool} (h : FT v L f 4 g) (hM : M = 0 ∨ ∃ S, S < 2 ^ f ∧ g S = true ∧ M = spS v f S) (hU : ∀ S, S < 2 ^ f → g S = true → spS v f S ≤ M) : isB v L f M := by
  refine ⟨?_, fun a ha => ?_⟩
  · rcases hM with e | ⟨S, hS, hg, e⟩
    · exact ⟨fun _ => 4, (none_fea v L f).1, by rw [(none_fea v L f).2]; exact e⟩
    · obtain ⟨a, ha, hl⟩ := (h S hS).mp hg
      refine ⟨a, hl, e.trans (spS_sm (fun i hi => ?_))⟩
      have x := ha i hi
      cases b : S.testBit i with
      | false =>
        rw [b] at x
        exact (decide_eq_false (fun q => absurd (x.mp q) (by decide))).symm
      | true => exact (decide_eq_true (x.mpr b)).symm
  · have hl := mkS_lt (fun i => decide (a i < 4)) f
    have hg : g (mkS (fun i => decide (a i < 4)) f) = true := (h _ hl).mpr ⟨a, fun i hi => by rw [mkS_bit, decide_eq_true hi, Bool.true_and, decide_eq_true_iff], ha⟩
    have y := hU _ hl hg
    rw [spS_mk] at y
    exact y
/-- parts of a set, from the greatest down -/
theorem and_dv {p s : Nat} (h : p &&& s = p) : p / 2 &&& s / 2 = p / 2 ∧ (p % 2 = 1 → s % 2 = 1) := by
  refine ⟨by rw [← Nat.and_div_two, h], fun q => ?_⟩
  rw [← h] at q
  exact (Nat.and_mod_two_eq_one.mp q).2
theorem sub_next : ∀ k p s t, p < 2 ^ k → 0 < p → p &&& s = p → t &&& s = t → t < p → t ≤ (p - 1) &&& s
  | 0, p, s, t, h, hp, _, _, _ => absurd h (by rw [Nat.pow_zero]; omega)
  | k + 1, p, s, t, h, hp, hps, hts, hl => by
    obtain ⟨a1, a2⟩ := and_dv hps
    obtain ⟨b1, b2⟩ := and_dv hts
    have x : ((p - 1) &&& s) / 2 = (p - 1) / 2 &&& s / 2 := Nat.and_div_two
    by_cases o : p % 2 = 1
    · rw [show (p - 1) / 2 = p / 2 by omega, a1] at x
      omega
    · have ih := sub_next k (p / 2) (s / 2) (t / 2) (by rw [Nat.pow_succ] at h; omega) (by omega) a1 b1 (by omega)
      rw [show (p - 1) / 2 = p / 2 - 1 by omega] at x
      have y : t % 2 = 1 → ((p - 1) &&& s) % 2 = 1 := fun q => Nat.and_mod_two_eq_one.mpr ⟨by omega, b2 q⟩
      omega
theorem sub_xor : ∀ k p s, p < 2 ^ k → p &&& s = p → (s ^^^ p) + p = s
  | 0, p, s, h, _ => by
    rw [Nat.pow_zero] at h
    rw [show p = 0 by omega, Nat.xor_zero]
    rfl
  | k + 1, p, s, h, hps => by
    obtain ⟨a1, a2⟩ := and_dv hps
    have ih := sub_xor k (p / 2) (s / 2) (by rw [Nat.pow_succ] at h; omega) a1
    have x : (s ^^^ p) / 2 = s / 2 ^^^ p / 2 := Nat.xor_div_two
    have y := @Nat.xor_mod_two_eq_one s p
    omega
theorem wdn_00 {v : Nat → Nat} {f l : Nat} {g : Nat → Bool} : wdn v f l g 0 = g 0 := by
  cases e : g 0 with
  | true => exact wdn_iff.mpr (Or.inl e)
  | false =>
    refine b_nt (fun w => ?_)
    rcases wdn_iff.mp w with y | ⟨t, t0, t1, -, -⟩
    · rw [e] at y; exact absurd y (by decide)
    · rw [Nat.and_zero] at t1
      omega
theorem v_cong {P Q : Nat → Nat} {n f : Nat} (h : ∀ i, i < n → P i = Q i) (hf : f ≤ n) : ∀ i, i < f → P (ordn P n i) = Q (ordn Q n i) := fun i hi => by
  rw [ordn_cong n h]
  exact h _ (ordn_lt Q n i (by omega))

