/-! plain rows for the contracts of any state (my own) -/
def nup (S : Nat → Nat) (k v : Nat) : Nat → Nat := fun i => if i = k then v else S i
theorem nf_put {f : Nat → Int32} {S : Nat → Nat} {n k v q : Nat} (h : ∀ i, i < n → f i = nI (S i)) (hq : q = k) : ∀ i, i < n → upd f q (nI v) i = nI (nup S k v i) := by
  intro i hi
  subst hq
  unfold upd nup
  by_cases e : i = q
  · rw [if_pos e, if_pos e]
  · rw [if_neg e, if_neg e]; exact h i hi
theorem nb_put {S : Nat → Nat} {n k v b : Nat} (h : ∀ i, i < n → S i ≤ b) (hv : v ≤ b) : ∀ i, i < n → nup S k v i ≤ b := by
  intro i hi
  unfold nup
  by_cases e : i = k
  · rw [if_pos e]; exact hv
  · rw [if_neg e]; exact h i hi
theorem va_ne {F1 F : Nat → Nat → Int32} {p j : Nat} {v : Nat → Int32} (e : F1 = va_up F p v) (h : j ≠ p) : F1 j = F j := by
  rw [e]; unfold va_up; exact if_neg h
theorem vp_in_of_bool {y : Int32} (h1 : ltI y 0 = false) (h2 : ltI y 15 = true) : vp_in y 15 := by
  have a := of_decide_eq_false h1
  have b := of_decide_eq_true h2
  rw [vp_in_iff]
  rw [Int32.not_lt, Int32.le_iff_toInt_le] at a
  rw [Int32.lt_iff_toInt_lt] at b
  rw [show (0 : Int32).toInt = 0 from by decide] at a
  rw [show (15 : Int32).toInt = 15 from by decide] at b
  exact ⟨a, b⟩
/-- bit i of a word, as the class reads it -/
def tkb (x : Int32) (i : Nat) : Bool := !eqI ((x >>> (nI i &&& 31)) &&& 1) 0
def sumN (S : Nat → Nat) : Nat → Nat
  | 0 => 0
  | n + 1 => sumN S n + S n
theorem sumN_le {S : Nat → Nat} {b : Nat} : ∀ {n : Nat}, (∀ i, i < n → S i ≤ b) → sumN S n ≤ n * b
  | 0, _ => Nat.zero_le _
  | n + 1, h => by
    have h1 := sumN_le (fun i hi => h i (Nat.lt_succ_of_lt hi))
    have h2 := h n (Nat.lt_succ_self n)
    rw [sumN, Nat.succ_mul]
    omega
/-- a number that isn't below 0, shifted to the right, is one again, and no greater -/
theorem shr_nat {b : Nat} (hb : b < 2 ^ 31) (x : Int32) : ∃ k, k ≤ b ∧ nI b >>> (x &&& 31) = nI k := by
  obtain ⟨j, hj, ej⟩ := pk_andE x (m := 31) 5 (by decide)
  rw [ej]
  refine ⟨b / 2 ^ j, Nat.div_le_self _ _, ?_⟩
  apply pk_shrN hb
  have : ∀ j, j < 32 → ((nI j).toBitVec.smod 32).toNat = j := by decide
  exact this j hj
theorem max0 {a b : Nat} (ha : a < 2 ^ 30) (hb : b < 2 ^ 30) : (if (0 : Int32) < nI a - nI b then nI a - nI b else 0) = nI (a - b) := by
  by_cases h : b < a
  · rw [pk_sub (Nat.le_of_lt h), if_pos]
    exact (nI_ltI (a := 0) (b := a - b) (by omega) (by omega)).mpr (by omega)
  · rw [if_neg, Nat.sub_eq_zero_of_le (Nat.le_of_not_lt h)]
    · rfl
    · intro q
      rw [Int32.lt_iff_toInt_lt, pk_sub_toInt ha hb, show (0 : Int32).toInt = 0 from by decide] at q
      omega
theorem dec_nI {k : Nat} (h : 1 ≤ k) : nI k + Int32.ofInt (-1) = nI (k - 1) := by
  obtain ⟨j, rfl⟩ : ∃ j, k = j + 1 := ⟨k - 1, by omega⟩
  rw [show nI (j + 1) + Int32.ofInt (-1) = nI (j + 1) - 1 from by rw [Int32.sub_eq_add_neg]; rfl, nI_pred]
  rfl
/-- how many stand on the sun's way: the class's own loop -/
def shl (T : Nat → Int32) (sx sy : Int32) : Nat → Int32 → Int32 → Int32 → Int32
  | 0, _, _, a => a
  | k + 1, x, y, a => if ltI (x + sx) 0 || !ltI (x + sx) 15 || ltI (y + sy) 0 || !ltI (y + sy) 15 then a else shl T sx sy k (x + sx) (y + sy) (a + ((T (y + sy).toNatClampNeg >>> ((x + sx) &&& 31)) &&& 1))
def shC (F : Nat → Nat → Int32) (H : Nat → Nat) (m h : Nat) : Int32 := if H h = 0 then 0 else shl (F 5) (F 10 h) (F 11 h) (10 - H h) (F 6 m) (F 7 m) 0
def stow (W : Nat → Nat) (k : Nat) : Bool := decide (50 < W k) || (decide (k + 1 < 24) && decide (50 < W (k + 1)))
/-- power, as the class reckons it -/
def pwC (F : Nat → Nat → Int32) (H S W : Nat → Nat) (d m h mo : Nat) : Int32 := if H h = 0 then 0 else if stow W h then 0 else nI (10 * H h + 10 - min 90 (S m + mo * d)) >>> ((shC F H m h + F 8 m) &&& 31)
def pwN (F : Nat → Nat → Int32) (H S W : Nat → Nat) (d m h mo : Nat) : Nat := (pwC F H S W d m h mo).toNatClampNeg
theorem pwN_eq {F : Nat → Nat → Int32} {H S W : Nat → Nat} {d m h mo : Nat} (hH : H h ≤ 9) : pwC F H S W d m h mo = nI (pwN F H S W d m h mo) ∧ pwN F H S W d m h mo ≤ 100 := by
  have key : ∃ k, k ≤ 100 ∧ pwC F H S W d m h mo = nI k := by
    unfold pwC
    by_cases h1 : H h = 0
    · exact ⟨0, by omega, by rw [if_pos h1]; rfl⟩
    · rw [if_neg h1]
      by_cases h2 : stow W h = true
      · exact ⟨0, by omega, by rw [if_pos h2]; rfl⟩
      · rw [if_neg h2]
        obtain ⟨k, hk, e⟩ := shr_nat (b := 10 * H h + 10 - min 90 (S m + mo * d)) (by omega) (shC F H m h + F 8 m)
        exact ⟨k, by omega, e⟩
  obtain ⟨k, hk, e⟩ := key
  have : pwN F H S W d m h mo = k := by unfold pwN; rw [e]; exact nI_clamp (by omega)
  rw [this]
  exact ⟨e, hk⟩
/-- the order by power: where m goes in, and the row with it -/
def posn (P O : Nat → Nat) (m : Nat) : Nat → Nat
  | 0 => 0
  | k + 1 => if P (O k) < P m then posn P O m k else k + 1
theorem posn_le (P O : Nat → Nat) (m : Nat) : ∀ k, posn P O m k ≤ k
  | 0 => Nat.le_refl 0
  | k + 1 => by
    unfold posn
    have := posn_le P O m k
    split <;> omega
def insn (P O : Nat → Nat) (m : Nat) : Nat → Nat := fun i => if i < posn P O m m then O i else if i = posn P O m m then m else O (i - 1)
def ordn (P : Nat → Nat) : Nat → Nat → Nat
  | 0 => fun _ => 0
  | m + 1 => insn P (ordn P m) m
theorem ordn_lt (P : Nat → Nat) : ∀ m i, i < m → ordn P m i < m
  | 0, _, h => absurd h (Nat.not_lt_zero _)
  | m + 1, i, h => by
    have ih := ordn_lt P m
    have hp := posn_le P (ordn P m) m m
    show insn P (ordn P m) m i < m + 1
    unfold insn
    split
    · exact Nat.lt_succ_of_lt (ih i (by omega))
    · split
      · exact Nat.lt_succ_self m
      · exact Nat.lt_succ_of_lt (ih (i - 1) (by omega))
/-- the cell with the most left; the aims -/
def best4 (L : Nat → Nat) : Nat → Nat
  | 0 => 0
  | c + 1 => if L (best4 L c) < L (c + 1) then c + 1 else best4 L c
theorem best4_le (L : Nat → Nat) : ∀ c, best4 L c ≤ c
  | 0 => Nat.le_refl 0
  | c + 1 => by
    unfold best4
    have := best4_le L c
    split <;> omega
def aimL (P O L0 : Nat → Nat) : Nat → Nat → Nat
  | 0 => L0
  | t + 1 => if P (O t) ≤ aimL P O L0 t (best4 (aimL P O L0 t) 3) then nup (aimL P O L0 t) (best4 (aimL P O L0 t) 3) (aimL P O L0 t (best4 (aimL P O L0 t) 3) - P (O t)) else aimL P O L0 t
def aimH (P O L0 : Nat → Nat) : Nat → Nat
  | 0 => 0
  | t + 1 => if P (O t) ≤ aimL P O L0 t (best4 (aimL P O L0 t) 3) then aimH P O L0 t + P (O t) else aimH P O L0 t
def aimC (P O L0 : Nat → Nat) (C0 : Nat → Int32) : Nat → Nat → Int32
  | 0 => C0
  | t + 1 => upd (aimC P O L0 C0 t) (O t) (if P (O t) ≤ aimL P O L0 t (best4 (aimL P O L0 t) 3) then nI (best4 (aimL P O L0 t) 3) else -2)
theorem aimH_le {P O L0 : Nat → Nat} {b : Nat} (hP : ∀ i, P i ≤ b) : ∀ t, aimH P O L0 t ≤ t * b
  | 0 => Nat.zero_le _
  | t + 1 => by
    have ih := aimH_le (O := O) (L0 := L0) hP t
    have := hP (O t)
    rw [Nat.succ_mul]
    unfold aimH
    split <;> omega

def grow (S : Nat → Nat) (d k : Nat) : Nat → Nat := fun i => if i < k then min 90 (S i + 1 * d) else S i
theorem grow_up (S : Nat → Nat) (d k : Nat) : nup (grow S d k) k (min 90 (S k + 1 * d)) = grow S d (k + 1) := by
  funext i
  unfold nup grow
  by_cases h : i = k
  · rw [if_pos h, if_pos (by omega), h]
  · rw [if_neg h]
    by_cases h2 : i < k
    · rw [if_pos h2, if_pos (by omega)]
    · rw [if_neg h2, if_neg (by omega)]
theorem grow_0 (S : Nat → Nat) (d : Nat) : grow S d 0 = S := by
  funext i
  unfold grow
  rw [if_neg (Nat.not_lt_zero i)]
theorem grow_at (S : Nat → Nat) (d k : Nat) : grow S d k k = S k := by
  unfold grow
  rw [if_neg (Nat.lt_irrefl k)]
theorem best4_s (L : Nat → Nat) {c : Nat} (h : 1 ≤ c) : best4 L c = if L (best4 L (c - 1)) < L c then c else best4 L (c - 1) := by
  obtain ⟨j, rfl⟩ : ∃ j, c = j + 1 := ⟨c - 1, by omega⟩
  rfl
def wsh (S : Nat → Nat) (n : Nat) : Nat → Nat → Nat
  | 0 => S
  | t + 1 => nup (wsh S n t) (best4 (wsh S n t) (n - 1)) 0
def wgo (S : Nat → Nat) (n : Nat) : Nat → Nat
  | 0 => 0
  | t + 1 => wgo S n t + wsh S n t (best4 (wsh S n t) (n - 1))
theorem wsh_le {S : Nat → Nat} {n b N : Nat} (h : ∀ i, i < N → S i ≤ b) : ∀ t i, i < N → wsh S n t i ≤ b
  | 0, i, hi => h i hi
  | t + 1, i, hi => nb_put (wsh_le h t) (Nat.zero_le b) i hi
def btw (nx ny fx fy : Int32) : Bool := eqI ((nx - 7) * (fy - 0)) ((ny - 0) * (fx - 7)) && (ltI 0 ((nx - 7) * (fx - 7) + (ny - 0) * (fy - 0)) && ltI ((nx - 7) * (fx - 7) + (ny - 0) * (fy - 0)) ((fx - 7) * (fx - 7) + (fy - 0) * (fy - 0)))
theorem cpy0 {f g : Nat → Int32} {a b c n i : Nat} (ha : a = 0) (hb : b = 0) (hc : c = n) (hi : i < n) : va_cpy f g a b c i = f i := by
  subst ha; subst hb; subst hc
  rw [pk_cpy_in (Nat.zero_le i) (by omega)]
  congr 1
  omega
def pwF (F : Nat → Nat → Int32) (H S W : Nat → Nat) (d h mo : Nat) : Nat → Nat := fun i => pwN F H S W d i h mo
theorem pwN_cong {F G : Nat → Nat → Int32} {H S W : Nat → Nat} {d m h mo : Nat} (e : ∀ j, j ∉ ([15, 16, 17, 18, 19, 20, 21, 22] : List Nat) → G j = F j) : pwN G H S W d m h mo = pwN F H S W d m h mo := by
  unfold pwN pwC shC
  rw [e 5 (by decide), e 6 (by decide), e 7 (by decide), e 8 (by decide), e 10 (by decide), e 11 (by decide)]
theorem posn_s {P O : Nat → Nat} {m t : Nat} (h : 1 ≤ t) (hl : P (O (t - 1)) < P m) : posn P O m t = posn P O m (t - 1) := by
  obtain ⟨j, rfl⟩ : ∃ j, t = j + 1 := ⟨t - 1, by omega⟩
  rw [posn]
  exact if_pos hl
theorem posn_e {P O : Nat → Nat} {m t : Nat} (h : 1 ≤ t) (hl : ¬ P (O (t - 1)) < P m) : posn P O m t = t := by
  obtain ⟨j, rfl⟩ : ∃ j, t = j + 1 := ⟨t - 1, by omega⟩
  rw [posn]
  exact if_neg hl
def ahF (F : Nat → Nat → Int32) (H S W Lm : Nat → Nat) (d n h mo : Nat) : Nat := aimH (pwF F H S W d h mo) (ordn (pwF F H S W d h mo) n) Lm n
def alF (F : Nat → Nat → Int32) (H S W Lm : Nat → Nat) (d n h mo : Nat) : Nat → Nat := aimL (pwF F H S W d h mo) (ordn (pwF F H S W d h mo) n) Lm n
def acF (F : Nat → Nat → Int32) (H S W Lm : Nat → Nat) (d n h mo : Nat) : Nat → Int32 := aimC (pwF F H S W d h mo) (ordn (pwF F H S W d h mo) n) Lm (F 17) n
theorem aimL_le (P O L0 : Nat → Nat) (i : Nat) : ∀ t, aimL P O L0 t i ≤ L0 i
  | 0 => Nat.le_refl _
  | t + 1 => by
    have ih := aimL_le P O L0 i t
    unfold aimL
    split
    · unfold nup
      split
      · rename_i h1 h2
        rw [← h2]
        omega
      · exact ih
    · exact ih
theorem ahF_le {F : Nat → Nat → Int32} {H S W Lm : Nat → Nat} {d n h mo : Nat} (hn : n ≤ 40) (hH : H h ≤ 9) : ahF F H S W Lm d n h mo ≤ 4000 := by
  have q := aimH_le (P := pwF F H S W d h mo) (O := ordn (pwF F H S W d h mo) n) (L0 := Lm) (b := 100) (fun i => (pwN_eq hH).2) n
  unfold ahF
  omega
theorem alF_le (F : Nat → Nat → Int32) (H S W Lm : Nat → Nat) (d n h mo i : Nat) : alF F H S W Lm d n h mo i ≤ Lm i := aimL_le _ _ _ i n
theorem nz_narrow {w : Nat} (h : w ≤ 1) : narrow .boolean (.int (nI w)) = .int (nI w) := by
  match w, h with
  | 0, _ => rfl
  | 1, _ => rfl
  | n + 2, h => exact absurd h (by omega)
theorem nz_fits {w : Nat} (h : w ≤ 1) : fits .boolean (.int (nI w)) = true := by
  match w, h with
  | 0, _ => rfl
  | 1, _ => rfl
  | n + 2, h => exact absurd h (by omega)
theorem shl1 {t : Nat} (h : t < 31) : (1 : Int32) <<< (nI t &&& 31) = nI (2 ^ t) := by
  have : ∀ t, t < 31 → (1 : Int32) <<< (nI t &&& 31) = nI (2 ^ t) := by decide
  exact this t h
theorem nI_and (a b : Nat) : nI a &&& nI b = nI (a &&& b) := by
  apply Int32.toBitVec_inj.mp
  show BitVec.ofNat 32 a &&& BitVec.ofNat 32 b = BitVec.ofNat 32 (a &&& b)
  apply BitVec.eq_of_toNat_eq
  simp [Nat.and_mod_two_pow]
theorem nI_xor (a b : Nat) : nI a ^^^ nI b = nI (a ^^^ b) := by
  apply Int32.toBitVec_inj.mp
  show BitVec.ofNat 32 a ^^^ BitVec.ofNat 32 b = BitVec.ofNat 32 (a ^^^ b)
  apply BitVec.eq_of_toNat_eq
  simp [Nat.xor_mod_two_pow]
theorem nI_or (a b : Nat) : nI a ||| nI b = nI (a ||| b) := by
  apply Int32.toBitVec_inj.mp
  show BitVec.ofNat 32 a ||| BitVec.ofNat 32 b = BitVec.ofNat 32 (a ||| b)
  apply BitVec.eq_of_toNat_eq
  simp [Nat.or_mod_two_pow]
theorem or_add {a t : Nat} (h : a < 2 ^ t) : nI a ||| nI (2 ^ t) = nI (a + 2 ^ t) := by
  rw [nI_or]
  congr 1
  have q := Nat.two_pow_add_eq_or_of_lt (i := t) h 1
  rw [Nat.mul_one] at q
  rw [Nat.or_comm, ← q, Nat.add_comm]
theorem pwF_cong {F G : Nat → Nat → Int32} {H S W : Nat → Nat} {d h mo : Nat} (e : ∀ j, j ∈ ([5, 6, 7, 8, 10, 11] : List Nat) → G j = F j) : pwF G H S W d h mo = pwF F H S W d h mo := by
  funext i
  unfold pwF pwN pwC shC
  rw [e 5 (by decide), e 6 (by decide), e 7 (by decide), e 8 (by decide), e 10 (by decide), e 11 (by decide)]
theorem ahF_cong {F G : Nat → Nat → Int32} {H S W Lm : Nat → Nat} {d n h mo : Nat} (e : ∀ j, j ∈ ([5, 6, 7, 8, 10, 11] : List Nat) → G j = F j) : ahF G H S W Lm d n h mo = ahF F H S W Lm d n h mo := by
  unfold ahF
  rw [pwF_cong e]
/-- what comes in, in units; the most that can be held ahead of an hour -/
def cmF (F : Nat → Nat → Int32) (H S W Lm : Nat → Nat) (d n nw : Nat) : Nat → Nat := fun h => ahF F H S W Lm d n h (h - nw) / 100
def mhF (c : Nat → Nat) (nw un : Nat) : Nat → Nat
  | 0 => un
  | h + 1 => if h < nw then un else min 200 (mhF c nw un h + c h)
theorem mhF_at (c : Nat → Nat) (nw un : Nat) : ∀ h, h ≤ nw → mhF c nw un h = un
  | 0, _ => rfl
  | h + 1, hh => by rw [mhF, if_pos (by omega)]
theorem mhF_up (c : Nat → Nat) {nw un h : Nat} (hh : nw ≤ h) : mhF c nw un (h + 1) = min 200 (mhF c nw un h + c h) := by rw [mhF, if_neg (by omega)]
