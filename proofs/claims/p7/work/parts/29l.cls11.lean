def bt (x : Int32) (i : Nat) : Bool := x.toBitVec.getLsbD i
theorem b_ext {x y : Int32} (h : ∀ i, i < 32 → bt x i = bt y i) : x = y := Int32.toBitVec_inj.mp (BitVec.eq_of_getLsbD_eq (fun i hi => h i hi))
theorem b_or (x y : Int32) (i : Nat) : bt (x ||| y) i = (bt x i || bt y i) := by unfold bt; rw [Int32.toBitVec_or, BitVec.getLsbD_or]
theorem b_and (x y : Int32) (i : Nat) : bt (x &&& y) i = (bt x i && bt y i) := by unfold bt; rw [Int32.toBitVec_and, BitVec.getLsbD_and]
theorem b_xor (x y : Int32) (i : Nat) : bt (x ^^^ y) i = (bt x i ^^ bt y i) := by unfold bt; rw [Int32.toBitVec_xor, BitVec.getLsbD_xor]
theorem b_big {x : Int32} {i : Nat} (h : 32 ≤ i) : bt x i = false := BitVec.getLsbD_of_ge _ _ h
theorem b_255 (i : Nat) : bt 255 i = decide (i < 8) := by
  rcases Nat.lt_or_ge i 32 with h | h
  · exact (by decide +kernel : ∀ i, i < 32 → bt 255 i = decide (i < 8)) i h
  · rw [b_big h, decide_eq_false (by omega)]
theorem b_65535 (i : Nat) : bt 65535 i = decide (i < 16) := by
  rcases Nat.lt_or_ge i 32 with h | h
  · exact (by decide +kernel : ∀ i, i < 32 → bt 65535 i = decide (i < 16)) i h
  · rw [b_big h, decide_eq_false (by omega)]
theorem b_m1 : ∀ i, i < 32 → bt (-1) i = true := by decide +kernel
theorem b_0 (i : Nat) : bt 0 i = false := BitVec.getLsbD_zero
theorem s_l : ∀ n, n < 32 → ((nI n &&& 31).toBitVec.smod 32).toNat = n := by decide +kernel
theorem s_u : ∀ n, n < 32 → (((nI n).toUInt32 &&& Int32.toUInt32 31).toBitVec % 32).toNat = n := by decide +kernel
theorem b_shl (n : Nat) (hn : n < 32) (x : Int32) {i : Nat} (hi : i < 32) : bt (x <<< (nI n &&& 31)) i = (decide (n ≤ i) && bt x (i - n)) := by
  unfold bt
  rw [Int32.toBitVec_shiftLeft]
  show (x.toBitVec <<< ((nI n &&& 31).toBitVec.smod 32).toNat).getLsbD i = _
  rw [s_l n hn, BitVec.getLsbD_shiftLeft]
  rcases Nat.lt_or_ge i n with h | h
  · simp [h, Nat.not_le.mpr h]
  · simp [hi, h, Nat.not_lt.mpr h]
theorem b_ushr (n : Nat) (hn : n < 32) (x : Int32) (i : Nat) : bt ((x.toUInt32 >>> ((nI n).toUInt32 &&& Int32.toUInt32 31)).toInt32) i = bt x (n + i) := by
  show (x.toUInt32 >>> ((nI n).toUInt32 &&& Int32.toUInt32 31)).toBitVec.getLsbD i = x.toUInt32.toBitVec.getLsbD (n + i)
  rw [UInt32.toBitVec_shiftRight]
  show (x.toUInt32.toBitVec >>> (((nI n).toUInt32 &&& Int32.toUInt32 31).toBitVec % 32).toNat).getLsbD i = _
  rw [s_u n hn, BitVec.getLsbD_ushiftRight]
theorem b_sshr (n : Nat) (hn : n < 32) (x : Int32) {i : Nat} (hi : i < 32) : bt (x >>> (nI n &&& 31)) i = if n + i < 32 then bt x (n + i) else bt x 31 := by
  unfold bt
  rw [Int32.toBitVec_shiftRight]
  show (x.toBitVec.sshiftRight ((nI n &&& 31).toBitVec.smod 32).toNat).getLsbD i = _
  rw [s_l n hn, BitVec.getLsbD_sshiftRight, BitVec.msb_eq_getLsbD_last]
  simp [hi]
theorem tkb_bt {x : Int32} {h : Nat} (hh : h < 31) : tkb x h = bt x h := by
  have k0 : bt (x >>> (nI h &&& 31)) 0 = bt x h := by rw [b_sshr h (by omega) x (by omega), if_pos (by omega)]; rfl
  have k1 : (x >>> (nI h &&& 31)) &&& 1 = 0 ↔ bt x h = false := by
    constructor
    · intro e
      have q := congrArg (fun z => bt z 0) e
      simp only [b_and, b_0, k0] at q
      rw [show bt 1 0 = true from by decide] at q
      simpa using q
    · intro e
      apply b_ext
      intro i hi
      rw [b_and, b_0]
      by_cases h0 : i = 0
      · rw [h0, k0, e]; rfl
      · rw [(by decide : ∀ i, i < 32 → i ≠ 0 → bt 1 i = false) i hi h0, Bool.and_false]
  unfold tkb eqI
  cases hb : bt x h with
  | false => rw [decide_eq_true (k1.mpr hb)]; rfl
  | true => rw [decide_eq_false (fun q => by rw [k1.mp q] at hb; cases hb)]; rfl
theorem tkb_or {x : Int32} {h k : Nat} (hh : h < 31) (hk : k < 31) : tkb (x ||| ((1 : Int32) <<< (nI k &&& 31))) h = (tkb x h || decide (h = k)) := by
  rw [tkb_bt hh, tkb_bt hh, b_or, b_shl k (by omega) 1 (by omega)]
  congr 1
  by_cases e : h = k
  · rw [e, decide_eq_true (Nat.le_refl k), Nat.sub_self, decide_eq_true rfl]; decide
  · by_cases l : k ≤ h
    · rw [decide_eq_true l, decide_eq_false e, (by decide : ∀ i, i < 32 → i ≠ 0 → bt 1 i = false) (h - k) (by omega) (by omega)]; rfl
    · rw [decide_eq_false l, decide_eq_false e]; rfl
theorem tkb_chE {x : Int32} {r : Bool} {h k : Nat} (hh : h < 31) (hk : k < 31) : tkb (chE x r k) h = (tkb x h || (r && decide (h = k))) := by
  unfold chE
  cases r with
  | true => rw [if_pos rfl, tkb_or hh hk]; rfl
  | false => rw [if_neg (by decide)]; simp
theorem tkb_0 (h : Nat) : tkb 0 h = false := by
  unfold tkb eqI
  rw [zshr]
  rfl
theorem wval_cong {L M : Nat → Int32} {g hd nd : Nat} (h1 : L (2 * hd) = M (2 * hd)) (h2 : L (2 * (hd - nd) + 1) = M (2 * (hd - nd) + 1)) : wval L g hd nd = wval M g hd nd ∧ wrun L g hd nd = wrun M g hd nd := by
  have e : wrun L g hd nd = wrun M g hd nd := by unfold wrun; rw [h1, h2]
  refine ⟨?_, e⟩
  unfold wval
  rw [e, h1, h2]
/-- what is still to be earned from an hour on, by units and warmth (2 u + w): row j is that of hour 24 - j -/
def rowf (Pr cm : Nat → Nat) : Nat → Nat → Int32
  | 0 => fun _ => 0
  | j + 1 => fun i => wval (rowf Pr cm j) (5 * Pr (23 - j)) (min 200 (i / 2 + cm (23 - j))) (7 - 2 * (i % 2))
theorem rowf_at (Pr cm : Nat → Nat) {j a b : Nat} (hj : j < 24) (hb : b ≤ 1) : rowf Pr cm (24 - j) (2 * a + b) = wval (rowf Pr cm (23 - j)) (5 * Pr j) (min 200 (a + cm j)) (7 - 2 * b) := by
  rw [show 24 - j = (23 - j) + 1 by omega, rowf]
  show wval _ (5 * Pr (23 - (23 - j))) (min 200 ((2 * a + b) / 2 + cm (23 - (23 - j)))) (7 - 2 * ((2 * a + b) % 2)) = _
  rw [show 23 - (23 - j) = j by omega, show (2 * a + b) / 2 = a by omega, show (2 * a + b) % 2 = b by omega]
theorem pred_lt {n : Nat} (h : n < 2 ^ 30) : nI n - 1 < nI n := by
  rw [Int32.lt_iff_toInt_lt, show (nI n - 1).toInt = (n : Int) - 1 from pk_sub_toInt (a := n) (b := 1) h (by decide), nI_toInt (by omega)]
  omega
theorem cmF_le {F : Nat → Nat → Int32} {H S W Lm : Nat → Nat} {d n nw k : Nat} (hn : n ≤ 40) (hH : H k ≤ 9) : cmF F H S W Lm d n nw k ≤ 40 := by
  have := ahF_le (F := F) (S := S) (W := W) (Lm := Lm) (d := d) (mo := k - nw) hn hH
  unfold cmF
  omega
theorem mhF_le {c : Nat → Nat} {nw un : Nat} (hu : un ≤ 200) : ∀ h, mhF c nw un h ≤ 200
  | 0 => hu
  | h + 1 => by
    unfold mhF
    split <;> omega
