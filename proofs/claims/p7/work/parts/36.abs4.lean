/-! plain rows for the reference's words (my own) -/
theorem hlv {v x b c : Nat} (h : v / 2 ^ x = b / 2 ^ c) (hx : 1 ≤ x) : v / 2 / 2 ^ (x - 1) = b / 2 ^ c := by
  obtain ⟨y, rfl⟩ : ∃ y, x = y + 1 := ⟨x - 1, by omega⟩
  rw [Nat.add_sub_cancel, Nat.div_div_eq_div_mul, ← Nat.pow_succ']
  exact h
theorem cnt_yes {X Y : Nat → Nat} {k a b : Nat} (h1 : X k = a) (h2 : Y k = b) : cnt X Y (k + 1) (nI a) (nI b) = cnt X Y k (nI a) (nI b) + 1 := by
  rw [cnt, h1, h2, eqI_t.mpr rfl, eqI_t.mpr rfl]
  rfl
theorem cnt_not {X Y : Nat → Nat} {k a b : Nat} (ha : a < 2 ^ 31) (hb : b < 2 ^ 31) (h1 : X k < 2 ^ 31) (h2 : Y k < 2 ^ 31) (h : ¬ (X k = a ∧ Y k = b)) : cnt X Y (k + 1) (nI a) (nI b) = cnt X Y k (nI a) (nI b) := by
  rw [cnt, eqI_nI h1 ha, eqI_nI h2 hb, ← Bool.decide_and, decide_eq_false h]
  rfl
theorem mOK_nI {a b n : Nat} {X Y : Nat → Nat} (ha : a ≤ 14) (hb : b ≤ 14) : mOK (nI a) (nI b) n X Y = decide (¬ (a = 7 ∧ b = 0) ∧ cnt X Y n (nI a) (nI b) = 0 ∧ n < 40) := by
  unfold mOK
  rw [show (0 : Int32) = nI 0 from rfl, show (14 : Int32) = nI 14 from rfl, show (7 : Int32) = nI 7 from rfl, isW_nI (by omega) (by omega) (by omega), isW_nI (by omega) (by omega) (by omega), eqI_nI (by omega) (by omega), eqI_nI (by omega) (by omega), decide_eq_true (p := 0 ≤ a ∧ a ≤ 14) (by omega), decide_eq_true (p := 0 ≤ b ∧ b ≤ 14) (by omega), Bool.true_and, Bool.true_and, ← Bool.decide_and, ← decide_not, ← Bool.decide_and, ← Bool.decide_and, decide_eq_decide]
  exact ⟨fun h => ⟨h.1.1, h.1.2, h.2⟩, fun h => ⟨⟨h.1, h.2.1⟩, h.2.2⟩⟩
theorem nf_up1 {f : Nat → Int32} {X : Nat → Nat} {n a : Nat} (h : ∀ i, i < n → f i = nI (X i)) : ∀ i, i < n + 1 → upd f n (nI a) i = nI (nup X n a i) := by
  intro i hi
  by_cases e : i = n
  · rw [e, pk_us, nup_s]
  · rw [pk_un e, nup_n e]; exact h i (by omega)
theorem lA_le (P Lm : Nat → Nat) (n i : Nat) : lA P Lm n i ≤ Lm i := aimL_le _ _ _ i n
theorem bb_z {b : Nat} (hb : b ≤ 100) (h : eqI (nI b - 1) (-1) = true) : b = 0 := by
  have q := eqI_t.mp h
  have t : (nI b - 1).toInt = (b : Int) - 1 := pk_sub_toInt (a := b) (b := 1) (by omega) (by decide)
  rw [q] at t
  have z : ((-1 : Int32)).toInt = -1 := by decide
  omega
theorem bst_at {S : Nat → Nat} {n b : Nat} (h : b + 1 = bst S n) : b = best4 S (n - 1) := by
  cases n with
  | zero => exact absurd h (by show ¬ b + 1 = 0; omega)
  | succ n =>
    rw [bst_best] at h
    split at h
    · omega
    · rw [Nat.add_sub_cancel]; omega
theorem bst_no {S : Nat → Nat} {n : Nat} (hn : 1 ≤ n) (h : bst S n = 0) : S (best4 S (n - 1)) = 0 := by
  obtain ⟨m, rfl⟩ : ∃ m, n = m + 1 := ⟨n - 1, by omega⟩
  rw [bst_best] at h
  rw [Nat.add_sub_cancel]
  split at h
  · assumption
  · omega
theorem wash_all {S : Nat → Nat} {n k : Nat} (h0 : n = 0 → k = 0) : wsh S n k = wsh S n (min k n) ∧ wgo S n k = wgo S n (min k n) := by
  by_cases h : n = 0
  · rw [h0 h, show min 0 n = 0 by omega]
    exact ⟨rfl, rfl⟩
  · exact wsh_min (by omega) k
theorem wash_end {S : Nat → Nat} {n k k0 : Nat} (h0 : n = 0 → k = 0) (hk : k ≤ k0) (h : bst (wsh S n k) n = 0) : wsh S n k = wsh S n (min k0 n) ∧ wgo S n k = wgo S n (min k0 n) := by
  by_cases hn : n = 0
  · rw [h0 hn, show min k0 n = 0 by omega]
    exact ⟨rfl, rfl⟩
  · have q := wsh_zero (S := S) (n := n) (t := k) (bst_no (by omega) h) (k0 - k)
    rw [show k + (k0 - k) = k0 by omega] at q
    have r := wsh_min (S := S) (n := n) (by omega) k0
    exact ⟨q.1.symm.trans r.1, q.2.symm.trans r.2⟩
theorem am_in {p x : Int32} {am ks : Nat} (hx : x = nI am - 1) (ha : am ≤ 41) (hk : am - 1 = ks) (h : ltI p 0 = false) : ltI p x = inN p ks := by
  unfold inN
  rw [h, Bool.not_false, Bool.true_and]
  have h0 := of_decide_eq_false h
  rw [Int32.lt_iff_toInt_lt, show (0 : Int32).toInt = 0 from by decide] at h0
  unfold ltI
  rw [decide_eq_decide, Int32.lt_iff_toInt_lt, Int32.lt_iff_toInt_lt, hx, show (nI am - 1).toInt = (am : Int) - 1 from pk_sub_toInt (a := am) (b := 1) (by omega) (by decide), nI_toInt (by omega)]
  omega
theorem runs_1 {x : Int32} {b : Bool} (h : x = bI b) (c : eqI x 0 = false) : bI b = 1 := by
  cases b with
  | true => rfl
  | false => rw [h] at c; exact absurd c (by decide)
theorem runs_0 {x : Int32} {b : Bool} (h : x = bI b) (c : eqI x 0 = true) : bI b = 0 := by
  cases b with
  | true => rw [h] at c; exact absurd c (by decide)
  | false => rfl
theorem grow_up1 (S : Nat → Nat) (d k : Nat) : nup (grow S d k) k (min 90 (S k + d)) = grow S d (k + 1) := by
  have q := grow_up S d k
  rw [Nat.one_mul] at q
  exact q
theorem SUN_0 : SUN (fun _ => 0) (fun _ => 0) := fun _ _ => by
  show (-2 ≤ (0 : Int32).toInt ∧ (0 : Int32).toInt ≤ 2) ∧ (-2 ≤ (0 : Int32).toInt ∧ (0 : Int32).toInt ≤ 2)
  decide
theorem GP_0 (X Y : Nat → Nat) : GP 0 X Y := ⟨fun i hi => absurd hi (Nat.not_lt_zero i), fun i hi => absurd hi (Nat.not_lt_zero i), fun _ j _ hj => absurd hj (Nat.not_lt_zero j)⟩
theorem GC_0 {X Y : Nat → Nat} {F : Nat → Nat → Int32} (h5 : ∀ y, F 5 y = 0) (h8 : ∀ i, F 8 i = 0) : GC 0 X Y F := ⟨fun i hi => absurd hi (Nat.not_lt_zero i), fun i hi => absurd hi (Nat.not_lt_zero i), fun x y _ _ => by rw [h5, tkb_0]; rfl, fun i hi => absurd hi (Nat.not_lt_zero i), fun i _ _ => h8 i⟩
theorem KC_0 {F : Nat → Nat → Int32} (h : ∀ i, F 20 i = 0) : KC 0 (fun _ => 0) (fun _ => 0) F := ⟨fun i hi => absurd hi (Nat.not_lt_zero i), fun i _ => h i⟩
theorem PLC_0 {rb : Nat → Bool} {V : Nat → Int32} : PLC 24 rb V := fun _ h1 h2 => absurd h1 (by omega)

