/-! shots: bits of longs, digits of four, sets that agree (my own) -/
theorem tb_tn {n : Nat} (h : n < 2 ^ 64) : (lN n).toBitVec.toNat = n := by
  show (BitVec.ofNat 64 n).toNat = n
  rw [BitVec.toNat_ofNat, Nat.mod_eq_of_lt h]
theorem tb_inj {a b : Int64} (h : a.toBitVec = b.toBitVec) : a = b := Int64.toBitVec_inj.mp h
theorem tb_of (x : Int64) : x = lN x.toBitVec.toNat := tb_inj (by
  show _ = BitVec.ofNat 64 _
  simp)
theorem tb_cu : ∀ k, k < 64 → ((nI k).toInt64.toUInt64 &&& Int64.toUInt64 63) = UInt64.ofNat k := by decide +kernel
theorem tb_c : ∀ k, k < 64 → ((nI k).toInt64 &&& 63) = lN k := by decide +kernel
theorem tb_sm : ∀ k, k < 64 → (BitVec.ofNat 64 k).smod 64 = BitVec.ofNat 64 k := by decide +kernel
theorem tb_shr {n k : Nat} (hn : n < 2 ^ 64) (hk : k < 64) : ((lN n).toUInt64 >>> ((nI k).toInt64.toUInt64 &&& Int64.toUInt64 63)).toInt64 = lN (n / 2 ^ k) := by
  rw [tb_cu k hk]
  apply tb_inj
  apply BitVec.eq_of_toNat_eq
  show ((lN n).toUInt64 >>> UInt64.ofNat k).toNat = (BitVec.ofNat 64 _).toNat
  have h1 : (UInt64.ofNat k).toNat = k := by
    show (BitVec.ofNat 64 k).toNat = k
    rw [BitVec.toNat_ofNat, Nat.mod_eq_of_lt (by omega)]
  have h2 : (lN n).toUInt64.toNat = n := tb_tn hn
  rw [UInt64.toNat_shiftRight, h1, h2, Nat.mod_eq_of_lt hk, Nat.shiftRight_eq_div_pow, BitVec.toNat_ofNat, Nat.mod_eq_of_lt (Nat.lt_of_le_of_lt (Nat.div_le_self _ _) hn)]
theorem tb_and {a b : Nat} (ha : a < 2 ^ 64) (hb : b < 2 ^ 64) : lN a &&& lN b = lN (a &&& b) := by
  apply tb_inj
  rw [Int64.toBitVec_and]
  apply BitVec.eq_of_toNat_eq
  rw [BitVec.toNat_and, tb_tn ha, tb_tn hb, tb_tn (Nat.and_lt_two_pow _ hb)]
def tb (x : Int64) (i : Nat) : Bool := x.toBitVec.getLsbD i
def pc (x : Int64) : Nat := pcf 64 x.toBitVec.toNat
theorem pc_le (x : Int64) : pc x ≤ 64 := pcf_le 64 _
/-- the JDK's own sums -/
theorem swarL {q z1 z2 z3 z4 z5 z6 z7 z8 z9 z10 z11 z12 z13 z14 z15 z16 : Int64} (e1 : z1 = (q.toUInt64 >>> ((1 : Int32).toInt64.toUInt64 &&& Int64.toUInt64 63)).toInt64) (e2 : z2 = z1 &&& 6148914691236517205) (e3 : z3 = q - z2) (e4 : z4 = z3 &&& 3689348814741910323) (e5 : z5 = (z3.toUInt64 >>> ((2 : Int32).toInt64.toUInt64 &&& Int64.toUInt64 63)).toInt64) (e6 : z6 = z5 &&& 3689348814741910323) (e7 : z7 = z4 + z6) (e8 : z8 = (z7.toUInt64 >>> ((4 : Int32).toInt64.toUInt64 &&& Int64.toUInt64 63)).toInt64) (e9 : z9 = z7 + z8) (e10 : z10 = z9 &&& 1085102592571150095) (e11 : z11 = (z10.toUInt64 >>> ((8 : Int32).toInt64.toUInt64 &&& Int64.toUInt64 63)).toInt64) (e12 : z12 = z10 + z11) (e13 : z13 = (z12.toUInt64 >>> ((16 : Int32).toInt64.toUInt64 &&& Int64.toUInt64 63)).toInt64) (e14 : z14 = z12 + z13) (e15 : z15 = (z14.toUInt64 >>> ((32 : Int32).toInt64.toUInt64 &&& Int64.toUInt64 63)).toInt64) (e16 : z16 = z14 + z15) : z16.toInt32 &&& 127 = nI (pc q) := by
  obtain ⟨n, en⟩ : ∃ n, n = q.toBitVec.toNat := ⟨_, rfl⟩
  have hn : n < 2 ^ 64 := by rw [en]; exact q.toBitVec.isLt
  have eq : q = lN n := by rw [en]; exact tb_of q
  unfold pc
  rw [← en]
  have r1 : z1 = lN (n / 2) := by rw [e1, eq]; exact tb_shr (k := 1) hn (by decide)
  have r2 : z2 = lN (n / 2 &&& 6148914691236517205) := by rw [e2, r1]; exact tb_and (a := n / 2) (b := 6148914691236517205) (by omega) (by decide)
  have l1 : n / 2 &&& 6148914691236517205 ≤ n := Nat.le_trans Nat.and_le_left (by omega)
  obtain ⟨a1, g1⟩ : ∃ a, a = n - (n / 2 &&& 6148914691236517205) := ⟨_, rfl⟩
  have r3 : z3 = lN a1 := by rw [e3, r2, eq, g1]; exact lN_sub l1
  have h1 : a1 < 2 ^ 64 := by omega
  have r4 : z4 = lN (a1 &&& 3689348814741910323) := by rw [e4, r3]; exact tb_and (a := a1) (b := 3689348814741910323) h1 (by decide)
  have r5 : z5 = lN (a1 / 4) := by rw [e5, r3]; exact tb_shr (k := 2) h1 (by decide)
  have r6 : z6 = lN (a1 / 4 &&& 3689348814741910323) := by rw [e6, r5]; exact tb_and (a := a1 / 4) (b := 3689348814741910323) (by omega) (by decide)
  have l2 : a1 &&& 3689348814741910323 ≤ 3689348814741910323 := Nat.and_le_right
  have l3 : a1 / 4 &&& 3689348814741910323 ≤ 3689348814741910323 := Nat.and_le_right
  obtain ⟨a2, g2⟩ : ∃ a, a = (a1 &&& 3689348814741910323) + (a1 / 4 &&& 3689348814741910323) := ⟨_, rfl⟩
  have r7 : z7 = lN a2 := by rw [e7, r4, r6, g2]; exact lN_add _ _
  have h2 : a2 ≤ 7378697629483820646 := by omega
  have r8 : z8 = lN (a2 / 16) := by rw [e8, r7]; exact tb_shr (k := 4) (by omega) (by decide)
  have r9 : z9 = lN (a2 + a2 / 16) := by rw [e9, r7, r8]; exact lN_add _ _
  obtain ⟨a3, g3⟩ : ∃ a, a = (a2 + a2 / 16) &&& 1085102592571150095 := ⟨_, rfl⟩
  have r10 : z10 = lN a3 := by rw [e10, r9, g3]; exact tb_and (a := a2 + a2 / 16) (b := 1085102592571150095) (by omega) (by decide)
  have h3 : a3 ≤ 1085102592571150095 := by rw [g3]; exact Nat.and_le_right
  have r11 : z11 = lN (a3 / 256) := by rw [e11, r10]; exact tb_shr (k := 8) (by omega) (by decide)
  have r12 : z12 = lN (a3 + a3 / 256) := by rw [e12, r10, r11]; exact lN_add _ _
  obtain ⟨a4, g4⟩ : ∃ a, a = a3 + a3 / 256 := ⟨_, rfl⟩
  rw [← g4] at r12
  have r13 : z13 = lN (a4 / 65536) := by rw [e13, r12]; exact tb_shr (k := 16) (by omega) (by decide)
  have r14 : z14 = lN (a4 + a4 / 65536) := by rw [e14, r12, r13]; exact lN_add _ _
  obtain ⟨a5, g5⟩ : ∃ a, a = a4 + a4 / 65536 := ⟨_, rfl⟩
  rw [← g5] at r14
  have r15 : z15 = lN (a5 / 4294967296) := by rw [e15, r14]; exact tb_shr (k := 32) (by omega) (by decide)
  have r16 : z16 = lN (a5 + a5 / 4294967296) := by rw [e16, r14, r15]; exact lN_add _ _
  rw [r16, lN_i, ← sw_all hn g1 g2 g3 g4 g5 rfl]
  have m := nI_and (a5 + a5 / 4294967296) 127
  have m2 := Nat.and_two_pow_sub_one_eq_mod (a5 + a5 / 4294967296) 7
  rw [show (2 : Nat) ^ 7 - 1 = 127 from rfl, show (2 : Nat) ^ 7 = 128 from rfl] at m2
  rw [m2] at m
  exact m
/-- the reference's loop: a bit less each time -/
theorem kern_tn {x : Int64} (h : x ≠ 0) : (x &&& (x - 1)).toBitVec.toNat = x.toBitVec.toNat &&& (x.toBitVec.toNat - 1) ∧ 0 < x.toBitVec.toNat := by
  have h0 : x.toBitVec ≠ 0#64 := fun q => h (Int64.toBitVec_inj.mp q)
  have h1 : x.toBitVec.toNat ≠ 0 := fun q => h0 (BitVec.eq_of_toNat_eq q)
  have h2 : (x - 1).toBitVec.toNat = x.toBitVec.toNat - 1 := by
    rw [Int64.toBitVec_sub]
    have h3 := x.toBitVec.isLt
    rw [BitVec.toNat_sub]
    have h4 : (1 : Int64).toBitVec.toNat = 1 := by decide
    rw [h4]
    omega
  rw [Int64.toBitVec_and, BitVec.toNat_and, h2]
  exact ⟨rfl, by omega⟩
theorem pc_kern {x : Int64} (h : x ≠ 0) : pc (x &&& (x - 1)) + 1 = pc x := by
  obtain ⟨a, b⟩ := kern_tn h
  unfold pc
  rw [a]
  exact pcf_kern 64 _ b x.toBitVec.isLt
theorem pc_0 : pc 0 = 0 := pcf_0 64
theorem sumN_front (f : Nat → Nat) : ∀ k, sumN f (k + 1) = f 0 + sumN (fun i => f (i + 1)) k
  | 0 => by
    show 0 + f 0 = f 0 + 0
    omega
  | k + 1 => by
    have ih := sumN_front f k
    have e : sumN (fun i => f (i + 1)) (k + 1) = sumN (fun i => f (i + 1)) k + f (k + 1) := rfl
    have e2 : sumN f (k + 1 + 1) = sumN f (k + 1) + f (k + 1) := rfl
    omega
theorem sumN_cong {f g : Nat → Nat} : ∀ {n : Nat}, (∀ i, i < n → f i = g i) → sumN f n = sumN g n
  | 0, _ => rfl
  | n + 1, h => by
    rw [sumN, sumN, sumN_cong (fun i hi => h i (by omega)), h n (by omega)]
theorem sumN_add (f g : Nat → Nat) : ∀ n, sumN (fun i => f i + g i) n = sumN f n + sumN g n
  | 0 => rfl
  | n + 1 => by
    have ih := sumN_add f g n
    have e : sumN (fun i => f i + g i) (n + 1) = sumN (fun i => f i + g i) n + (f n + g n) := rfl
    rw [e, sumN, sumN]
    omega
theorem sumN_z {f : Nat → Nat} : ∀ {n : Nat}, (∀ i, i < n → f i = 0) → sumN f n = 0
  | 0, _ => rfl
  | n + 1, h => by
    rw [sumN, sumN_z (fun i hi => h i (by omega)), h n (by omega)]
theorem pcf_sum : ∀ k n, pcf k n = sumN (fun i => b01 (n.testBit i)) k
  | 0, _ => rfl
  | k + 1, n => by
    have a : n % 2 = b01 (n.testBit 0) := by
      rw [Nat.testBit_zero]
      rcases Nat.mod_two_eq_zero_or_one n with q | q
      · rw [q]; rfl
      · rw [q]; rfl
    have c : sumN (fun i => b01 (n.testBit i)) (k + 1) = b01 (n.testBit 0) + sumN (fun i => b01 (n.testBit (i + 1))) k := sumN_front _ k
    have b : sumN (fun i => b01 ((n / 2).testBit i)) k = sumN (fun i => b01 (n.testBit (i + 1))) k := sumN_cong (fun i _ => by rw [Nat.testBit_add_one])
    rw [c, pcf, pcf_sum k (n / 2), b, a]
theorem pc_sum (x : Int64) : pc x = sumN (fun i => b01 (tb x i)) 64 := pcf_sum 64 _
theorem tb_0 (i : Nat) : tb 0 i = false := BitVec.getLsbD_zero
theorem pc_not (x s : Int64) : pc (x &&& (s ^^^ (-1))) + sumN (fun i => b01 (tb x i && tb s i)) 64 = pc x := by
  rw [pc_sum, pc_sum, ← sumN_add]
  refine sumN_cong (fun i hi => ?_)
  have e : tb (x &&& (s ^^^ (-1))) i = (tb x i && !tb s i) := by
    unfold tb
    rw [Int64.toBitVec_and, Int64.toBitVec_xor, BitVec.getLsbD_and, BitVec.getLsbD_xor, show (-1 : Int64).toBitVec = BitVec.allOnes 64 from by decide, BitVec.getLsbD_allOnes, decide_eq_true hi, Bool.xor_true]
  rw [e]
  cases tb x i <;> cases tb s i <;> rfl
theorem pc_not0 (x : Int64) : pc (x &&& (0 ^^^ (-1))) = pc x := by
  have q := pc_not x 0
  rw [sumN_z (fun i _ => by rw [tb_0, Bool.and_false]; rfl), Nat.add_zero] at q
  exact q
theorem tb_bw {a i : Nat} (ha : a < 64) (hi : i < 64) : tb ((1 : Int64) <<< ((nI a).toInt64 &&& 63)) i = decide (i = a) := by
  unfold tb
  rw [tb_c a ha, Int64.toBitVec_shiftLeft, show (lN a).toBitVec = BitVec.ofNat 64 a from rfl, show (64 : BitVec 64) = 64 from rfl, tb_sm a ha, BitVec.shiftLeft_eq', BitVec.getLsbD_shiftLeft, show (1 : Int64).toBitVec = 1#64 from rfl, BitVec.toNat_ofNat, Nat.mod_eq_of_lt (show a < 2 ^ 64 by omega), decide_eq_true hi, Bool.true_and, BitVec.getLsbD_one]
  by_cases q : i = a
  · rw [decide_eq_true q, q, Nat.sub_self, decide_eq_false (Nat.lt_irrefl a)]
    rfl
  · rw [decide_eq_false q]
    by_cases z : i < a
    · rw [decide_eq_true z]; rfl
    · rw [decide_eq_false (p := i - a = 0) (by omega), Bool.and_false, Bool.and_false]
theorem sumN_at (p : Nat → Bool) {a : Nat} : ∀ N, a < N → sumN (fun i => b01 (p i && decide (i = a))) N = b01 (p a)
  | 0, h => absurd h (Nat.not_lt_zero a)
  | N + 1, h => by
    have e : sumN (fun i => b01 (p i && decide (i = a))) (N + 1) = sumN (fun i => b01 (p i && decide (i = a))) N + b01 (p N && decide (N = a)) := rfl
    rw [e]
    by_cases q : N = a
    · rw [decide_eq_true q, Bool.and_true, q, sumN_z (fun i hi => by rw [decide_eq_false (by omega), Bool.and_false]; rfl), Nat.zero_add]
    · rw [decide_eq_false q, Bool.and_false, sumN_at p N (by omega)]
      rfl
/-- a set of at most two, and how many of it a shot has -/
def two (f : Nat → Nat) (a b : Nat) : Nat := if a = b then f a else f a + f b
theorem pc_not2 (x : Int64) {a b : Nat} (ha : a < 64) (hb : b < 64) : pc (x &&& (((1 : Int64) <<< ((nI a).toInt64 &&& 63) ||| (1 : Int64) <<< ((nI b).toInt64 &&& 63)) ^^^ (-1))) + two (fun m => b01 (tb x m)) a b = pc x := by
  have q := pc_not x ((1 : Int64) <<< ((nI a).toInt64 &&& 63) ||| (1 : Int64) <<< ((nI b).toInt64 &&& 63))
  have e : ∀ i, i < 64 → tb ((1 : Int64) <<< ((nI a).toInt64 &&& 63) ||| (1 : Int64) <<< ((nI b).toInt64 &&& 63)) i = (decide (i = a) || decide (i = b)) := fun i hi => by
    rw [← tb_bw ha hi, ← tb_bw hb hi]
    unfold tb
    rw [Int64.toBitVec_or, BitVec.getLsbD_or]
  have r : sumN (fun i => b01 (tb x i && tb ((1 : Int64) <<< ((nI a).toInt64 &&& 63) ||| (1 : Int64) <<< ((nI b).toInt64 &&& 63)) i)) 64 = two (fun m => b01 (tb x m)) a b := by
    show _ = (if a = b then b01 (tb x a) else b01 (tb x a) + b01 (tb x b))
    by_cases z : a = b
    · subst z
      rw [if_pos rfl, ← sumN_at (fun i => tb x i) 64 ha]
      exact sumN_cong (fun i hi => by rw [e i hi, Bool.or_self])
    · rw [if_neg z, ← sumN_at (fun i => tb x i) 64 ha, ← sumN_at (fun i => tb x i) 64 hb, ← sumN_add]
      refine sumN_cong (fun i hi => ?_)
      rw [e i hi]
      by_cases y : i = a
      · rw [decide_eq_true y, decide_eq_false (p := i = b) (by omega)]
        cases tb x i <;> rfl
      · rw [decide_eq_false y]
        cases tb x i <;> cases decide (i = b) <;> rfl
  rw [r] at q
  exact q
/-- digits of four -/
def dig (f : Nat → Nat) : Nat → Nat
  | 0 => 0
  | k + 1 => dig f k + 4 ^ k * f k
theorem dig_lt {f : Nat → Nat} : ∀ {k : Nat}, (∀ i, i < k → f i < 4) → dig f k < 4 ^ k
  | 0, _ => Nat.one_pos
  | k + 1, h => by
    have a := dig_lt (fun i hi => h i (Nat.lt_succ_of_lt hi))
    have b : 4 ^ k * f k ≤ 4 ^ k * 3 := Nat.mul_le_mul_left _ (by have := h k (by omega); omega)
    rw [dig, Nat.pow_succ]
    omega
theorem dig_cong {f g : Nat → Nat} : ∀ {k : Nat}, (∀ i, i < k → f i = g i) → dig f k = dig g k
  | 0, _ => rfl
  | k + 1, h => by
    rw [dig, dig, dig_cong (fun i hi => h i (by omega)), h k (by omega)]
theorem dig_add (f g : Nat → Nat) : ∀ k, dig f k + dig g k = dig (fun i => f i + g i) k
  | 0 => rfl
  | k + 1 => by
    have ih := dig_add f g k
    have e : dig (fun i => f i + g i) (k + 1) = dig (fun i => f i + g i) k + 4 ^ k * (f k + g k) := rfl
    rw [e, dig, dig, Nat.mul_add]
    omega
theorem dig_inj {f g : Nat → Nat} : ∀ {k : Nat}, (∀ i, i < k → f i < 4) → (∀ i, i < k → g i < 4) → (dig f k = dig g k ↔ ∀ i, i < k → f i = g i)
  | 0, _, _ => ⟨fun _ i hi => absurd hi (Nat.not_lt_zero i), fun _ => rfl⟩
  | k + 1, hf, hg => by
    have ih := dig_inj (k := k) (fun i hi => hf i (by omega)) (fun i hi => hg i (by omega))
    have a := dig_lt (f := f) (k := k) (fun i hi => hf i (by omega))
    have b := dig_lt (f := g) (k := k) (fun i hi => hg i (by omega))
    refine ⟨fun e i hi => ?_, fun h => dig_cong h⟩
    rw [dig, dig] at e
    have p : 0 < 4 ^ k := Nat.pow_pos (by decide)
    have m1 : (dig f k + 4 ^ k * f k) % 4 ^ k = dig f k := by rw [Nat.add_mul_mod_self_left, Nat.mod_eq_of_lt a]
    have m2 : (dig g k + 4 ^ k * g k) % 4 ^ k = dig g k := by rw [Nat.add_mul_mod_self_left, Nat.mod_eq_of_lt b]
    have c : dig f k = dig g k := by rw [← m1, ← m2, e]
    by_cases q : i = k
    · rw [q]
      have d : 4 ^ k * f k = 4 ^ k * g k := by omega
      exact Nat.eq_of_mul_eq_mul_left p d
    · exact ih.mp c i (by omega)
def mkD (Sw : Nat → Int64) (sh m : Nat) : Nat := dig (fun k => b01 (tb (Sw k) m)) sh
def msD (ms : Nat → Nat) (sh : Nat) : Nat := dig (fun k => min 3 (ms k)) sh
theorem four12 {k : Nat} (h : k ≤ 12) : 4 ^ k ≤ 16777216 := Nat.pow_le_pow_right (n := 4) (by decide) h
theorem mkD_le (Sw : Nat → Int64) {sh : Nat} (m : Nat) (h : sh ≤ 12) : mkD Sw sh m < 16777216 :=
  Nat.lt_of_lt_of_le (dig_lt (fun i _ => Nat.lt_of_le_of_lt (b01_le _) (by decide))) (four12 h)
theorem msD_le (ms : Nat → Nat) {sh : Nat} (h : sh ≤ 12) : msD ms sh < 16777216 :=
  Nat.lt_of_lt_of_le (dig_lt (fun i _ => by omega)) (four12 h)
/-- the sets that agree -/
def ag0 (ms : Nat → Nat) (sh : Nat) : Bool := decide (∀ k, k < sh → ms k = 0)
def ag2 (Sw : Nat → Int64) (ms : Nat → Nat) (sh a b : Nat) : Bool := decide (∀ k, k < sh → two (fun m => b01 (tb (Sw k) m)) a b = ms k)
theorem ag0_eq {ms : Nat → Nat} {sh : Nat} : msD ms sh = 0 ↔ ag0 ms sh = true := by
  unfold ag0 msD
  rw [decide_eq_true_iff]
  have z : ∀ k, dig (fun _ => 0) k = 0 := fun k => by
    induction k with
    | zero => rfl
    | succ k ih => rw [dig, ih, Nat.mul_zero]
  have d := dig_inj (f := fun k => min 3 (ms k)) (g := fun _ => 0) (k := sh) (fun i _ => by show min 3 (ms i) < 4; omega) (fun i _ => by show 0 < 4; omega)
  rw [z] at d
  rw [d]
  refine ⟨fun h k hk => ?_, fun h k hk => ?_⟩
  · have q : min 3 (ms k) = 0 := h k hk
    omega
  · have q := h k hk
    show min 3 (ms k) = 0
    omega
theorem ag1_eq {Sw : Nat → Int64} {ms : Nat → Nat} {sh a : Nat} : mkD Sw sh a = msD ms sh ↔ ag2 Sw ms sh a a = true := by
  unfold ag2 mkD msD
  have d := dig_inj (f := fun k => b01 (tb (Sw k) a)) (g := fun k => min 3 (ms k)) (k := sh) (fun i _ => Nat.lt_of_le_of_lt (b01_le _) (by decide)) (fun i _ => by show min 3 (ms i) < 4; omega)
  rw [decide_eq_true_iff, d]
  refine ⟨fun h k hk => ?_, fun h k hk => ?_⟩
  · have q : b01 (tb (Sw k) a) = min 3 (ms k) := h k hk
    have l := b01_le (tb (Sw k) a)
    show (if a = a then b01 (tb (Sw k) a) else b01 (tb (Sw k) a) + b01 (tb (Sw k) a)) = ms k
    rw [if_pos rfl]
    omega
  · have q : (if a = a then b01 (tb (Sw k) a) else b01 (tb (Sw k) a) + b01 (tb (Sw k) a)) = ms k := h k hk
    have l := b01_le (tb (Sw k) a)
    rw [if_pos rfl] at q
    show b01 (tb (Sw k) a) = min 3 (ms k)
    omega
theorem ag2_eq {Sw : Nat → Int64} {ms : Nat → Nat} {sh a b : Nat} (hab : a ≠ b) : mkD Sw sh a + mkD Sw sh b = msD ms sh ↔ ag2 Sw ms sh a b = true := by
  unfold ag2 mkD msD
  have d := dig_inj (f := fun k => b01 (tb (Sw k) a) + b01 (tb (Sw k) b)) (g := fun k => min 3 (ms k)) (k := sh) (fun i _ => by have := b01_le (tb (Sw i) a); have := b01_le (tb (Sw i) b); show b01 (tb (Sw i) a) + b01 (tb (Sw i) b) < 4; omega) (fun i _ => by show min 3 (ms i) < 4; omega)
  rw [decide_eq_true_iff, dig_add, d]
  refine ⟨fun h k hk => ?_, fun h k hk => ?_⟩
  · have q : b01 (tb (Sw k) a) + b01 (tb (Sw k) b) = min 3 (ms k) := h k hk
    have l := b01_le (tb (Sw k) a)
    have l2 := b01_le (tb (Sw k) b)
    show (if a = b then b01 (tb (Sw k) a) else b01 (tb (Sw k) a) + b01 (tb (Sw k) b)) = ms k
    rw [if_neg hab]
    omega
  · have q : (if a = b then b01 (tb (Sw k) a) else b01 (tb (Sw k) a) + b01 (tb (Sw k) b)) = ms k := h k hk
    have l := b01_le (tb (Sw k) a)
    have l2 := b01_le (tb (Sw k) b)
    rw [if_neg hab] at q
    show b01 (tb (Sw k) a) + b01 (tb (Sw k) b) = min 3 (ms k)
    omega
theorem two_comm (f : Nat → Nat) (a b : Nat) : two f a b = two f b a := by
  unfold two
  by_cases h : a = b
  · rw [if_pos h, if_pos h.symm, h]
  · rw [if_neg h, if_neg (fun q => h q.symm), Nat.add_comm]
theorem ag2_comm (Sw : Nat → Int64) (ms : Nat → Nat) (sh a b : Nat) : ag2 Sw ms sh a b = ag2 Sw ms sh b a := by
  unfold ag2
  rw [decide_eq_decide]
  exact ⟨fun h k hk => (two_comm _ b a).trans (h k hk), fun h k hk => (two_comm _ a b).trans (h k hk)⟩
/-- counted: sets with m among the first n; all sets of two or one -/
def agW (Sw : Nat → Int64) (ms : Nat → Nat) (sh m n : Nat) : Nat := sumN (fun i => b01 (ag2 Sw ms sh i m)) n
def agT (Sw : Nat → Int64) (ms : Nat → Nat) (sh n : Nat) : Nat := sumN (fun o => agW Sw ms sh o (o + 1)) n
theorem agW_s (Sw : Nat → Int64) (ms : Nat → Nat) (sh m n : Nat) : agW Sw ms sh m (n + 1) = agW Sw ms sh m n + b01 (ag2 Sw ms sh n m) := rfl
theorem agT_s (Sw : Nat → Int64) (ms : Nat → Nat) (sh n : Nat) : agT Sw ms sh (n + 1) = agT Sw ms sh n + agW Sw ms sh n (n + 1) := rfl
theorem agW_le {Sw : Nat → Int64} {ms : Nat → Nat} {sh m : Nat} : ∀ {n : Nat}, m < n → agW Sw ms sh m n ≤ agT Sw ms sh n
  | 0, h => absurd h (Nat.not_lt_zero m)
  | n + 1, h => by
    rw [agT_s]
    by_cases e : m = n
    · rw [e]; omega
    · have ih := agW_le (Sw := Sw) (ms := ms) (sh := sh) (m := m) (n := n) (by omega)
      have q : b01 (ag2 Sw ms sh m n) ≤ agW Sw ms sh n (n + 1) := sumN_mem (g := fun i => b01 (ag2 Sw ms sh i n)) (c := m) (n := n + 1) (by omega)
      rw [agW_s, ag2_comm]
      omega
theorem agW_n (Sw : Nat → Int64) (ms : Nat → Nat) (sh m : Nat) : ∀ n, agW Sw ms sh m n ≤ n
  | 0 => Nat.le_refl 0
  | n + 1 => by
    have := agW_n Sw ms sh m n
    have := b01_le (ag2 Sw ms sh n m)
    rw [agW_s]
    omega
theorem agT_n {Sw : Nat → Int64} {ms : Nat → Nat} {sh : Nat} : ∀ {n : Nat}, n ≤ 40 → agT Sw ms sh n ≤ n * 41
  | 0, _ => Nat.le_refl 0
  | n + 1, h => by
    have a := agT_n (Sw := Sw) (ms := ms) (sh := sh) (n := n) (by omega)
    have b := agW_n Sw ms sh n (n + 1)
    rw [agT_s]
    omega
/-- the reference's rows: a with those from a on -/
def agR (Sw : Nat → Int64) (ms : Nat → Nat) (sh a b : Nat) : Nat := sumN (fun i => if a ≤ i then b01 (ag2 Sw ms sh a i) else 0) b
theorem agR_0 (Sw : Nat → Int64) (ms : Nat → Nat) (sh a : Nat) : agR Sw ms sh a a = 0 := sumN_z (fun i hi => if_neg (by omega))
theorem agR_s {Sw : Nat → Int64} {ms : Nat → Nat} {sh a b : Nat} (h : a ≤ b) : agR Sw ms sh a (b + 1) = agR Sw ms sh a b + b01 (ag2 Sw ms sh a b) := by
  have e : agR Sw ms sh a (b + 1) = agR Sw ms sh a b + (if a ≤ b then b01 (ag2 Sw ms sh a b) else 0) := rfl
  rw [e, if_pos h]
theorem sumN_swap (g : Nat → Nat → Nat) (m : Nat) : ∀ n, sumN (fun a => sumN (fun i => g a i) m) n = sumN (fun i => sumN (fun a => g a i) n) m
  | 0 => (sumN_z (fun _ _ => rfl)).symm
  | n + 1 => by
    have ih := sumN_swap g m n
    have e : sumN (fun a => sumN (fun i => g a i) m) (n + 1) = sumN (fun a => sumN (fun i => g a i) m) n + sumN (fun i => g n i) m := rfl
    have e2 : sumN (fun i => sumN (fun a => g a i) (n + 1)) m = sumN (fun i => sumN (fun a => g a i) n + g n i) m := rfl
    rw [e, ih, e2, sumN_add]
theorem sumN_cut {f : Nat → Nat} {k : Nat} : ∀ n, k ≤ n → (∀ i, k ≤ i → i < n → f i = 0) → sumN f n = sumN f k
  | 0, h, _ => by rw [show k = 0 by omega]
  | n + 1, h, h0 => by
    by_cases e : k = n + 1
    · rw [e]
    · rw [sumN, h0 n (by omega) (by omega), sumN_cut n (by omega) (fun i h1 h2 => h0 i h1 (by omega))]
      rfl
theorem agR_T (Sw : Nat → Int64) (ms : Nat → Nat) (sh n : Nat) : sumN (fun a => agR Sw ms sh a n) n = agT Sw ms sh n := by
  have s := sumN_swap (fun a i => if a ≤ i then b01 (ag2 Sw ms sh a i) else 0) n n
  refine Eq.trans s (sumN_cong (fun i hi => ?_))
  rw [sumN_cut (k := i + 1) n (by omega) (fun a h1 h2 => if_neg (by omega))]
  exact sumN_cong (fun a ha => if_pos (by omega))
/-- a verdict -/
def vdt (w t : Nat) : Int32 := if t = 0 then 2 else if w = 0 then 0 else if w = t then 1 else 2
def uns (w t : Nat) : Nat := b01 (decide (t = 0 ∨ ¬ (w = 0 ∨ w = t)))

