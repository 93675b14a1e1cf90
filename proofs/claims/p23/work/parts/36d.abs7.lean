/-! the loops over sets, a step at a time; a shot's words (my own) -/
theorem b_nt {b : Bool} (h : ¬ b = true) : b = false := by
  cases b with
  | false => rfl
  | true => exact absurd rfl h
def agK (Sw : Nat → Int64) (Ht : Nat → Nat) (q : Int64) (k : Nat) : Bool := decide (∀ j, j < k → pc (Sw j &&& (q ^^^ (-1))) = Ht j)
theorem agK_s (Sw : Nat → Int64) (Ht : Nat → Nat) (q : Int64) (k : Nat) : agK Sw Ht q (k + 1) = (agK Sw Ht q k && decide (pc (Sw k &&& (q ^^^ (-1))) = Ht k)) := by
  unfold agK
  rw [← Bool.decide_and, decide_eq_decide]
  refine ⟨fun h => ⟨fun j hj => h j (by omega), h k (by omega)⟩, fun h j hj => ?_⟩
  by_cases e : j = k
  · rw [e]; exact h.2
  · exact h.1 j (by omega)
theorem agK_00 (Sw : Nat → Int64) (Ht : Nat → Nat) (q : Int64) : agK Sw Ht q 0 = true := decide_eq_true (fun j hj => absurd hj (Nat.not_lt_zero j))
theorem agK_0 {Sw : Nat → Int64} {Ht ms : Nat → Nat} {sh : Nat} (hm : ∀ k, k < sh → Ht k + ms k = pc (Sw k)) : agK Sw Ht 0 sh = ag0 ms sh := by
  unfold agK ag0
  rw [decide_eq_decide]
  refine ⟨fun h k hk => ?_, fun h k hk => ?_⟩
  · have a := h k hk
    have b := hm k hk
    rw [pc_not0] at a
    omega
  · have a := h k hk
    have b := hm k hk
    rw [pc_not0]
    omega
theorem agK_2 {Sw : Nat → Int64} {Ht ms : Nat → Nat} {sh a b : Nat} (ha : a < 64) (hb : b < 64) (hm : ∀ k, k < sh → Ht k + ms k = pc (Sw k)) : agK Sw Ht ((1 : Int64) <<< ((nI a).toInt64 &&& 63) ||| (1 : Int64) <<< ((nI b).toInt64 &&& 63)) sh = ag2 Sw ms sh a b := by
  unfold agK ag2
  rw [decide_eq_decide]
  refine ⟨fun h k hk => ?_, fun h k hk => ?_⟩
  · have x := h k hk
    have y := hm k hk
    have z := pc_not2 (Sw k) ha hb
    omega
  · have x := h k hk
    have y := hm k hk
    have z := pc_not2 (Sw k) ha hb
    omega
theorem b01_bI (b : Bool) : nI (b01 b) = bI b := by cases b <;> rfl
/-- the reference's table, rows up to a done; row a up to b -/
def agI (Sw : Nat → Int64) (ms : Nat → Nat) (sh n a m : Nat) : Nat := if m < a then agW Sw ms sh m n else agW Sw ms sh m a
def agJ (Sw : Nat → Int64) (ms : Nat → Nat) (sh n a b m : Nat) : Nat := if m < a then agW Sw ms sh m n else if m = a then agW Sw ms sh a b else if m < b then agW Sw ms sh m (a + 1) else agW Sw ms sh m a
theorem agI_0 (Sw : Nat → Int64) (ms : Nat → Nat) (sh n m : Nat) : agI Sw ms sh n 0 m = 0 := if_neg (Nat.not_lt_zero m)
theorem agJ_0 (Sw : Nat → Int64) (ms : Nat → Nat) (sh n a m : Nat) : agJ Sw ms sh n a a m = agI Sw ms sh n a m := by
  unfold agJ agI
  by_cases h1 : m < a
  · rw [if_pos h1, if_pos h1]
  · rw [if_neg h1, if_neg h1]
    by_cases h2 : m = a
    · rw [if_pos h2, h2, if_neg (Nat.lt_irrefl a)]
    · rw [if_neg h2, if_neg h1]
theorem agJ_step {Sw : Nat → Int64} {ms : Nat → Nat} {sh n a b : Nat} (m : Nat) (h : a ≤ b) : agJ Sw ms sh n a (b + 1) m = agJ Sw ms sh n a b m + (if m = a ∨ m = b then b01 (ag2 Sw ms sh a b) else 0) := by
  unfold agJ
  by_cases h1 : m < a
  · rw [if_pos h1, if_pos h1, if_neg (by omega), Nat.add_zero]
  · rw [if_neg h1, if_neg h1]
    by_cases h2 : m = a
    · rw [if_pos h2, if_pos h2, if_pos (Or.inl h2), agW_s, ag2_comm Sw ms sh b a]
    · rw [if_neg h2, if_neg h2]
      by_cases h3 : m = b
      · rw [if_pos (show m < b + 1 by omega), if_neg (show ¬ m < b by omega), if_pos (Or.inr h3), h3, agW_s]
      · rw [if_neg (show ¬ (m = a ∨ m = b) by omega), Nat.add_zero]
        by_cases h4 : m < b
        · rw [if_pos h4, if_pos (show m < b + 1 by omega)]; rfl
        · rw [if_neg h4, if_neg (show ¬ m < b + 1 by omega)]; rfl
theorem agJ_end {Sw : Nat → Int64} {ms : Nat → Nat} {sh n a m : Nat} (hm : m < n) : agJ Sw ms sh n a n m = agI Sw ms sh n (a + 1) m := by
  unfold agJ agI
  by_cases h1 : m < a
  · rw [if_pos h1, if_pos (by omega)]
  · rw [if_neg h1]
    by_cases h2 : m = a
    · rw [if_pos h2, if_pos (by omega), h2]
    · rw [if_neg h2, if_pos hm, if_neg (by omega)]
theorem agI_end {Sw : Nat → Int64} {ms : Nat → Nat} {sh n m : Nat} (hm : m < n) : agI Sw ms sh n n m = agW Sw ms sh m n := if_pos hm
/-- the class's table -/
def agM (Sw : Nat → Int64) (ms : Nat → Nat) (sh k m : Nat) : Nat := if m < k then agW Sw ms sh m k else 0
def agL (Sw : Nat → Int64) (ms : Nat → Nat) (sh k q m : Nat) : Nat := if m = k then b01 (ag2 Sw ms sh k k) + agW Sw ms sh k q else if m < q then agW Sw ms sh m (k + 1) else if m < k then agW Sw ms sh m k else 0
theorem agM_le {Sw : Nat → Int64} {ms : Nat → Nat} {sh k m : Nat} (h : k ≤ 40) : agM Sw ms sh k m ≤ 40 := by
  unfold agM
  split
  · have := agW_n Sw ms sh m k
    omega
  · omega
theorem agM_0 (Sw : Nat → Int64) (ms : Nat → Nat) (sh m : Nat) : agM Sw ms sh 0 m = 0 := if_neg (Nat.not_lt_zero m)
theorem agL_0 (Sw : Nat → Int64) (ms : Nat → Nat) (sh k m : Nat) : agL Sw ms sh k 0 m = agM Sw ms sh k m + (if m = k then b01 (ag2 Sw ms sh k k) else 0) := by
  unfold agL agM
  by_cases h : m = k
  · rw [if_pos h, if_pos h, if_neg (by omega), Nat.zero_add]
    rfl
  · rw [if_neg h, if_neg h, if_neg (Nat.not_lt_zero m), Nat.add_zero]
theorem agL_step {Sw : Nat → Int64} {ms : Nat → Nat} {sh k q : Nat} (m : Nat) (h : q < k) : agL Sw ms sh k (q + 1) m = agL Sw ms sh k q m + (if m = k ∨ m = q then b01 (ag2 Sw ms sh q k) else 0) := by
  unfold agL
  by_cases h1 : m = k
  · rw [if_pos h1, if_pos h1, if_pos (Or.inl h1), agW_s, Nat.add_assoc]
  · rw [if_neg h1, if_neg h1]
    by_cases h2 : m = q
    · rw [if_pos (show m < q + 1 by omega), if_neg (show ¬ m < q by omega), if_pos (show m < k by omega), if_pos (Or.inr h2), h2, agW_s, ag2_comm Sw ms sh k q]
    · rw [if_neg (show ¬ (m = k ∨ m = q) by omega), Nat.add_zero]
      by_cases h3 : m < q
      · rw [if_pos h3, if_pos (show m < q + 1 by omega)]; rfl
      · rw [if_neg h3, if_neg (show ¬ m < q + 1 by omega)]; rfl
theorem agL_end (Sw : Nat → Int64) (ms : Nat → Nat) (sh k m : Nat) : agL Sw ms sh k k m = agM Sw ms sh (k + 1) m := by
  unfold agL agM
  by_cases h : m = k
  · rw [if_pos h, if_pos (show m < k + 1 by omega), h, agW_s, Nat.add_comm]
  · rw [if_neg h]
    by_cases h2 : m < k
    · rw [if_pos h2, if_pos (show m < k + 1 by omega)]
    · rw [if_neg h2, if_neg h2, if_neg (show ¬ m < k + 1 by omega)]
/-- how many sets there are, as the class counts on -/
def agC (Sw : Nat → Int64) (ms : Nat → Nat) (sh k : Nat) : Nat := b01 (ag0 ms sh) + agT Sw ms sh k
theorem agC_le {Sw : Nat → Int64} {ms : Nat → Nat} {sh k : Nat} (h : k ≤ 40) : agC Sw ms sh k ≤ 1641 := by
  have a := agT_n (Sw := Sw) (ms := ms) (sh := sh) h
  have b := b01_le (ag0 ms sh)
  unfold agC
  omega
theorem agC_end (Sw : Nat → Int64) (ms : Nat → Nat) (sh k : Nat) : agC Sw ms sh k + b01 (ag2 Sw ms sh k k) + agW Sw ms sh k k = agC Sw ms sh (k + 1) := by
  unfold agC
  rw [agT_s, agW_s]
  omega
theorem sl_31 : ∀ n, n < 32 → ((nI n &&& 31).toBitVec.smod 32).toNat = n := by decide +kernel
theorem or_dig {a c t : Nat} (ha : a < 4 ^ t) (hc : c < 4) (ht : t < 12) : nI a ||| (nI c <<< (nI (2 * t) &&& 31)) = nI (a + 4 ^ t * c) := by
  have p : (2 : Nat) ^ (2 * t) = 4 ^ t := by rw [Nat.pow_mul]
  have q : 4 ^ t ≤ 4 ^ 11 := Nat.pow_le_pow_right (by decide) (by omega)
  have r : (4 : Nat) ^ 11 = 4194304 := by decide
  have s : 4 ^ t * c ≤ 4 ^ t * 3 := Nat.mul_le_mul_left _ (by omega)
  rw [pk_shlN (nI (2 * t) &&& 31) (2 * t) (sl_31 (2 * t) (by omega)) (by rw [p, Nat.mul_comm]; omega), nI_or, p]
  congr 1
  rw [← p] at ha
  have w := Nat.two_pow_add_eq_or_of_lt (i := 2 * t) ha c
  rw [p] at w
  rw [Nat.or_comm, Nat.mul_comm c, ← w, Nat.add_comm]
theorem tb_bit (q : Int64) {k : Nat} (hk : k < 64) : ((q.toUInt64 >>> ((nI k).toInt64.toUInt64 &&& Int64.toUInt64 63)).toInt64 &&& 1).toInt32 = nI (b01 (tb q k)) := by
  obtain ⟨n, en⟩ : ∃ n, n = q.toBitVec.toNat := ⟨_, rfl⟩
  have hn : n < 2 ^ 64 := by rw [en]; exact q.toBitVec.isLt
  have e : tb q k = n.testBit k := by rw [en]; rfl
  have eq : q = lN n := by rw [en]; exact tb_of q
  have m : lN (n / 2 ^ k) &&& 1 = lN (n / 2 ^ k &&& 1) := tb_and (b := 1) (Nat.lt_of_le_of_lt (Nat.div_le_self _ _) hn) (by decide)
  rw [e, eq, tb_shr hn hk, m, lN_i, Nat.and_one_is_mod, Nat.testBit_eq_decide_div_mod_eq]
  rcases Nat.mod_two_eq_zero_or_one (n / 2 ^ k) with z | z
  · rw [z]; rfl
  · rw [z]; rfl
def updL (f : Nat → Int64) (k : Nat) (v : Int64) : Nat → Int64 := fun i => if i = k then v else f i
theorem updL_s (f : Nat → Int64) (k : Nat) (v : Int64) : updL f k v k = v := if_pos rfl
theorem updL_n {f : Nat → Int64} {k i : Nat} {v : Int64} (h : i ≠ k) : updL f k v i = f i := if_neg h
theorem mkD_up (Sw : Nat → Int64) (sh m : Nat) (q : Int64) : mkD (updL Sw sh q) (sh + 1) m = mkD Sw sh m + 4 ^ sh * b01 (tb q m) := by
  unfold mkD
  rw [dig, updL_s, dig_cong (fun i hi => by rw [updL_n (show i ≠ sh by omega)])]
theorem msD_up (ms : Nat → Nat) (sh v : Nat) : msD (nup ms sh v) (sh + 1) = msD ms sh + 4 ^ sh * min 3 v := by
  unfold msD
  rw [dig, nup_s, dig_cong (fun i hi => by rw [nup_n (show i ≠ sh by omega)])]
theorem mkD_lt4 (Sw : Nat → Int64) (sh m : Nat) : mkD Sw sh m < 4 ^ sh := dig_lt (fun i _ => Nat.lt_of_le_of_lt (b01_le _) (by decide))
theorem msD_lt4 (ms : Nat → Nat) (sh : Nat) : msD ms sh < 4 ^ sh := dig_lt (fun i _ => by omega)
theorem pcf_small : ∀ k n x, x < 2 ^ n → pcf k x ≤ n
  | 0, n, x, _ => Nat.zero_le n
  | k + 1, 0, x, h => by
    rw [Nat.pow_zero] at h
    rw [show x = 0 by omega, pcf_0]
    exact Nat.le_refl 0
  | k + 1, n + 1, x, h => by
    have := pcf_small k n (x / 2) (by rw [Nat.pow_succ] at h; omega)
    rw [pcf]
    omega
theorem lgz (x : Int64) : eqI (lg_cmp x 0) 0 = decide (x = 0) := by
  unfold eqI
  rw [decide_eq_decide]
  unfold lg_cmp
  by_cases h : x > 0
  · rw [if_pos h]
    refine ⟨fun q => absurd q (by decide), fun q => ?_⟩
    rw [q] at h
    exact absurd h (by decide)
  · rw [if_neg h]
    by_cases z : x = 0
    · rw [if_pos z]; exact ⟨fun _ => z, fun _ => rfl⟩
    · rw [if_neg z]; exact ⟨fun q => absurd q (by decide), fun q => absurd q z⟩
theorem lN_z {n : Nat} (h : n < 2 ^ 64) : lN n = 0 ↔ n = 0 := by
  refine ⟨fun q => ?_, fun q => by rw [q]; rfl⟩
  have e := tb_tn h
  rw [q] at e
  exact e.symm.trans (by decide)
theorem sz_shr {w : Int64} {n : Nat} (hn : n ≤ 40) : (w.toUInt64 >>> ((nI n).toInt64.toUInt64 &&& Int64.toUInt64 63)).toInt64 = 0 ↔ w.toBitVec.toNat < 2 ^ n := by
  obtain ⟨m, em⟩ : ∃ m, m = w.toBitVec.toNat := ⟨_, rfl⟩
  have hm : m < 2 ^ 64 := by rw [em]; exact w.toBitVec.isLt
  have e : w = lN m := by rw [em]; exact tb_of w
  rw [← em, e, tb_shr hm (by omega), lN_z (Nat.lt_of_le_of_lt (Nat.div_le_self _ _) hm)]
  have p : 0 < 2 ^ n := Nat.pow_pos (by decide)
  rw [Nat.div_eq_zero_iff]
  omega
theorem sz_and {w : Int64} {n : Nat} (hn : n ≤ 40) : w &&& (((1 : Int64) <<< ((nI n).toInt64 &&& 63) - 1) ^^^ (-1)) = 0 ↔ w.toBitVec.toNat < 2 ^ n := by
  have s : (1 : Int64) <<< ((nI n).toInt64 &&& 63) = lN (2 ^ n) := by
    rw [tb_c n (by omega)]
    apply tb_inj
    rw [Int64.toBitVec_shiftLeft, show (lN n).toBitVec = BitVec.ofNat 64 n from rfl, show (64 : BitVec 64) = 64 from rfl, tb_sm n (by omega)]
    apply BitVec.eq_of_toNat_eq
    rw [BitVec.shiftLeft_eq', BitVec.toNat_shiftLeft, BitVec.toNat_ofNat, Nat.mod_eq_of_lt (show n < 2 ^ 64 by omega), Nat.shiftLeft_eq, show (1 : Int64).toBitVec.toNat = 1 from rfl, Nat.one_mul]
    rfl
  have t : lN (2 ^ n) - 1 = lN (2 ^ n - 1) := lN_sub (a := 2 ^ n) (b := 1) (Nat.pow_pos (by decide))
  have l : 2 ^ n < 2 ^ 64 := Nat.pow_lt_pow_right (by decide) (by omega)
  have b : ∀ i, tb (lN (2 ^ n - 1)) i = decide (i < n) := fun i => by
    have q : tb (lN (2 ^ n - 1)) i = (2 ^ n - 1).testBit i := by
      show (lN (2 ^ n - 1)).toBitVec.toNat.testBit i = _
      rw [tb_tn (by omega)]
    rw [q, Nat.testBit_two_pow_sub_one]
  have g : ∀ i, i < 64 → tb (w &&& (lN (2 ^ n - 1) ^^^ (-1))) i = (tb w i && !decide (i < n)) := fun i hi => by
    rw [← b i]
    unfold tb
    rw [Int64.toBitVec_and, Int64.toBitVec_xor, BitVec.getLsbD_and, BitVec.getLsbD_xor, show (-1 : Int64).toBitVec = BitVec.allOnes 64 from by decide, BitVec.getLsbD_allOnes, decide_eq_true hi, Bool.xor_true]
  rw [s, t]
  refine ⟨fun h => Nat.lt_pow_two_of_testBit _ (fun i hi => ?_), fun h => ?_⟩
  · by_cases z : i < 64
    · have y := g i z
      rw [h, tb_0, decide_eq_false (p := i < n) (by omega), Bool.not_false, Bool.and_true] at y
      exact y.symm
    · exact BitVec.getLsbD_of_ge _ _ (by omega)
  · apply tb_inj
    refine BitVec.eq_of_getLsbD_eq (fun i hi => ?_)
    have y := g i hi
    have z : (0 : Int64).toBitVec.getLsbD i = false := BitVec.getLsbD_zero
    rw [z]
    refine Eq.trans y ?_
    by_cases q : i < n
    · rw [decide_eq_true q, Bool.not_true, Bool.and_false]
    · have k : w.toBitVec.toNat < 2 ^ i := Nat.lt_of_lt_of_le h (Nat.pow_le_pow_right (by decide) (by omega))
      have v : tb w i = false := Nat.testBit_lt_two_pow k
      rw [v, Bool.false_and]
/-- the MIRRORS of a shot as one long; whether the shot is taken -/
def lwd (p0 p1 : Int32) : Int64 := (p1.toInt64 <<< ((32 : Int32).toInt64 &&& 63)) ||| (p0.toInt64 &&& 4294967295)
def sOK (p0 p1 p2 : Int32) (n sh : Nat) : Bool := isW p2 0 (nI (pc (lwd p0 p1))) && !decide (lwd p0 p1 = 0) && decide ((lwd p0 p1).toBitVec.toNat < 2 ^ n) && decide (sh < 12)
theorem sOK_w {p0 p1 p2 : Int32} {n sh : Nat} (h : isW p2 0 (nI (pc (lwd p0 p1))) = false) : sOK p0 p1 p2 n sh = false := by
  unfold sOK
  rw [h]
  rfl
theorem sOK_m {p0 p1 p2 : Int32} {n sh : Nat} (hn : n ≤ 40) (h : isW p2 0 (nI (min 40 (pc (lwd p0 p1)))) = false) : sOK p0 p1 p2 n sh = false := by
  by_cases q : (lwd p0 p1).toBitVec.toNat < 2 ^ n
  · have l : pc (lwd p0 p1) ≤ n := pcf_small 64 n _ q
    rw [show min 40 (pc (lwd p0 p1)) = pc (lwd p0 p1) by omega] at h
    exact sOK_w h
  · unfold sOK
    rw [decide_eq_false q, Bool.and_false, Bool.false_and]
theorem sOK_z {p0 p1 p2 : Int32} {n sh : Nat} (h : lwd p0 p1 = 0) : sOK p0 p1 p2 n sh = false := by
  unfold sOK
  rw [decide_eq_true h, Bool.not_true, Bool.and_false, Bool.false_and, Bool.false_and]
theorem sOK_b {p0 p1 p2 : Int32} {n sh : Nat} (h : ¬ (lwd p0 p1).toBitVec.toNat < 2 ^ n) : sOK p0 p1 p2 n sh = false := by
  unfold sOK
  rw [decide_eq_false h, Bool.and_false, Bool.false_and]
theorem sOK_f {p0 p1 p2 : Int32} {n sh : Nat} (h : ¬ sh < 12) : sOK p0 p1 p2 n sh = false := by
  unfold sOK
  rw [decide_eq_false h, Bool.and_false]
theorem sOK_t {p0 p1 p2 : Int32} {n sh : Nat} (h1 : isW p2 0 (nI (pc (lwd p0 p1))) = true) (h2 : ¬ lwd p0 p1 = 0) (h3 : (lwd p0 p1).toBitVec.toNat < 2 ^ n) (h4 : sh < 12) : sOK p0 p1 p2 n sh = true := by
  unfold sOK
  rw [h1, decide_eq_false h2, decide_eq_true h3, decide_eq_true h4]
  rfl
theorem sOK_k {p2 : Int32} {b : Nat} (hb : b ≤ 64) (h : isW p2 0 (nI b) = true) : ∃ k : Nat, k ≤ b ∧ p2 = nI k := by
  simp only [isW, ltI, Bool.and_eq_true, Bool.not_eq_true', decide_eq_false_iff_not] at h
  obtain ⟨j, hj, e⟩ := nI_of h.1
  refine ⟨j, ?_, e⟩
  have q := h.2
  rw [e] at q
  exact (nI_leI hj (by omega)).mp (Int32.not_lt.mp q)
theorem isW_k {k b : Nat} (hk : k ≤ b) (hb : b ≤ 64) : isW (nI k) 0 (nI b) = true := by
  rw [show (0 : Int32) = nI 0 from rfl, isW_nI (by omega) (by omega) (by omega)]
  exact decide_eq_true ⟨Nat.zero_le k, hk⟩
/-- what count tells -/
def cnA (p : Int32) (n nw un wm sh so : Nat) : Int32 := if p.toInt = 0 then nI n else if p.toInt = 1 then nI nw else if p.toInt = 2 then nI un else if p.toInt = 3 then nI wm else if p.toInt = 4 then nI sh else if p.toInt = 5 then nI so else (-1)
theorem vd_2 {w t : Nat} (h : ¬ (0 < t ∧ (w = 0 ∨ w = t))) : vdt w t = 2 := by
  unfold vdt
  by_cases q : t = 0
  · rw [if_pos q]
  · rw [if_neg q, if_neg (by omega), if_neg (by omega)]
theorem vd_0 {w t : Nat} (h : 0 < t) (h0 : w = 0) : vdt w t = 0 := by
  unfold vdt
  rw [if_neg (by omega), if_pos h0]
theorem vd_1 {w t : Nat} (h : 0 < t) (h0 : ¬ w = 0) (h1 : w = t) : vdt w t = 1 := by
  unfold vdt
  rw [if_neg (by omega), if_neg h0, if_pos h1]
theorem uns_1 {w t : Nat} (h : ¬ (0 < t ∧ (w = 0 ∨ w = t))) : uns w t = 1 := by
  unfold uns
  rw [decide_eq_true (by omega)]
  rfl
theorem uns_0 {w t : Nat} (h : 0 < t ∧ (w = 0 ∨ w = t)) : uns w t = 0 := by
  unfold uns
  rw [decide_eq_false (by omega)]
  rfl
theorem agC_ge {Sw : Nat → Int64} {ms : Nat → Nat} {sh m n : Nat} (h : m < n) : agW Sw ms sh m n ≤ agC Sw ms sh n := by
  have := agW_le (Sw := Sw) (ms := ms) (sh := sh) h
  unfold agC
  omega
theorem agM_in {Sw : Nat → Int64} {ms : Nat → Nat} {sh m n : Nat} (h : m < n) : agM Sw ms sh n m = agW Sw ms sh m n := if_pos h
theorem cn_0 {p : Int32} {n nw un wm sh so : Nat} (h : p.toInt = ((0 : Nat) : Int) + ((0 : Nat) : Int)) : cnA p n nw un wm sh so = nI n := if_pos (by omega)
theorem cn_1 {p : Int32} {n nw un wm sh so : Nat} (h : p.toInt = ((0 : Nat) : Int) + ((1 : Nat) : Int)) : cnA p n nw un wm sh so = nI nw := by
  unfold cnA
  rw [if_neg (by omega), if_pos (by omega)]
theorem cn_2 {p : Int32} {n nw un wm sh so : Nat} (h : p.toInt = ((0 : Nat) : Int) + ((2 : Nat) : Int)) : cnA p n nw un wm sh so = nI un := by
  unfold cnA
  rw [if_neg (by omega), if_neg (by omega), if_pos (by omega)]
theorem cn_3 {p : Int32} {n nw un wm sh so : Nat} (h : p.toInt = ((0 : Nat) : Int) + ((3 : Nat) : Int)) : cnA p n nw un wm sh so = nI wm := by
  unfold cnA
  rw [if_neg (by omega), if_neg (by omega), if_neg (by omega), if_pos (by omega)]
theorem cn_4 {p : Int32} {n nw un wm sh so : Nat} (h : p.toInt = ((0 : Nat) : Int) + ((4 : Nat) : Int)) : cnA p n nw un wm sh so = nI sh := by
  unfold cnA
  rw [if_neg (by omega), if_neg (by omega), if_neg (by omega), if_neg (by omega), if_pos (by omega)]
theorem cn_5 {p : Int32} {n nw un wm sh so : Nat} (h : p.toInt = ((0 : Nat) : Int) + ((5 : Nat) : Int)) : cnA p n nw un wm sh so = nI so := by
  unfold cnA
  rw [if_neg (by omega), if_neg (by omega), if_neg (by omega), if_neg (by omega), if_neg (by omega), if_pos (by omega)]
theorem cn_o {p : Int32} {n nw un wm sh so : Nat} (h : p.toInt < ((0 : Nat) : Int) ∨ ((5 : Nat) : Int) < p.toInt) : cnA p n nw un wm sh so = -1 := by
  unfold cnA
  rw [if_neg (by omega), if_neg (by omega), if_neg (by omega), if_neg (by omega), if_neg (by omega), if_neg (by omega)]
theorem b01_0 {b : Bool} (h : b01 b = 0) : b = false := by
  cases b with
  | false => rfl
  | true => exact absurd h (by decide)
theorem b01_n {b : Bool} (h : ¬ b01 b = 0) : b = true := by
  cases b with
  | false => exact absurd rfl h
  | true => rfl

