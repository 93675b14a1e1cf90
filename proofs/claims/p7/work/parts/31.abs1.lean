/-! the plain picture of the field: positions, shades, blocks, power (my own) -/
def b01 (b : Bool) : Nat := if b then 1 else 0
theorem b01_le (b : Bool) : b01 b ≤ 1 := by cases b <;> decide
/-- how many of the first n stand at x, y -/
def cnt (X Y : Nat → Nat) : Nat → Int32 → Int32 → Nat
  | 0, _, _ => 0
  | n + 1, x, y => cnt X Y n x y + b01 (eqI (nI (X n)) x && eqI (nI (Y n)) y)
/-- how many stand on the sun's way, k steps of it -/
def shS (X Y : Nat → Nat) (n : Nat) (sx sy x y : Int32) : Nat → Nat
  | 0 => 0
  | k + 1 => shS X Y n sx sy x y k + cnt X Y n (x + nI (k + 1) * sx) (y + nI (k + 1) * sy)
theorem go1 (x s : Int32) : x + nI (0 + 1) * s = x + s := by
  rw [show nI (0 + 1) = 1 from rfl, Int32.one_mul]
theorem go2 (x s : Int32) (k : Nat) : x + nI (k + 1 + 1) * s = (x + s) + nI (k + 1) * s := by
  rw [nI_succ (k + 1), Int32.add_mul, Int32.one_mul, Int32.add_comm (nI (k + 1) * s) s, ← Int32.add_assoc]
theorem shS_front (X Y : Nat → Nat) (n : Nat) (sx sy x y : Int32) : ∀ k, shS X Y n sx sy x y (k + 1) = cnt X Y n (x + sx) (y + sy) + shS X Y n sx sy (x + sx) (y + sy) k
  | 0 => by
    show 0 + cnt X Y n (x + nI (0 + 1) * sx) (y + nI (0 + 1) * sy) = _ + 0
    rw [go1, go1]
    omega
  | k + 1 => by
    have ih := shS_front X Y n sx sy x y k
    rw [shS, ih, shS, go2, go2]
    omega
theorem eqI_t {a b : Int32} : eqI a b = true ↔ a = b := by unfold eqI; exact decide_eq_true_iff
theorem eqI_nI {a b : Nat} (ha : a < 2 ^ 31) (hb : b < 2 ^ 31) : eqI (nI a) (nI b) = decide (a = b) := by
  unfold eqI
  rw [decide_eq_decide]
  exact nI_eq ha hb
theorem cnt_0x {X Y : Nat → Nat} {x y : Int32} (hx : ¬ (0 ≤ x.toInt ∧ x.toInt ≤ 14)) : ∀ {n : Nat}, (∀ i, i < n → X i ≤ 14) → cnt X Y n x y = 0
  | 0, _ => rfl
  | n + 1, hX => by
    have ih := cnt_0x (Y := Y) (y := y) hx (n := n) (fun i hi => hX i (by omega))
    have e : eqI (nI (X n)) x = false := by
      unfold eqI
      refine decide_eq_false (fun h => hx ?_)
      have := hX n (by omega)
      rw [← h, nI_toInt (by omega)]
      omega
    rw [cnt, ih, e]
    rfl
theorem cnt_0y {X Y : Nat → Nat} {x y : Int32} (hy : ¬ (0 ≤ y.toInt ∧ y.toInt ≤ 14)) : ∀ {n : Nat}, (∀ i, i < n → Y i ≤ 14) → cnt X Y n x y = 0
  | 0, _ => rfl
  | n + 1, hY => by
    have ih := cnt_0y (X := X) (x := x) hy (n := n) (fun i hi => hY i (by omega))
    have e : eqI (nI (Y n)) y = false := by
      unfold eqI
      refine decide_eq_false (fun h => hy ?_)
      have := hY n (by omega)
      rw [← h, nI_toInt (by omega)]
      omega
    rw [cnt, ih, e, Bool.and_false]
    rfl
theorem bm {x : Int} (h1 : -2147483648 ≤ x) (h2 : x < 2147483648) : x.bmod (2 ^ 32) = x := by
  rw [Int.bmod_def]
  split <;> omega
theorem mulT {x y : Int32} (hx : x.toInt.natAbs ≤ 40) (hy : y.toInt.natAbs ≤ 40) : (x * y).toInt = x.toInt * y.toInt ∧ (x.toInt * y.toInt).natAbs ≤ 1600 := by
  have q : (x.toInt * y.toInt).natAbs ≤ 1600 := by
    rw [Int.natAbs_mul]
    exact Nat.le_trans (Nat.mul_le_mul hx hy) (by decide)
  refine ⟨?_, q⟩
  rw [Int32.toInt_mul]
  exact bm (by omega) (by omega)
theorem addT {x y : Int32} (hx : x.toInt.natAbs ≤ 100000) (hy : y.toInt.natAbs ≤ 100000) : (x + y).toInt = x.toInt + y.toInt := by
  rw [Int32.toInt_add]
  exact bm (by omega) (by omega)
theorem subT {x y : Int32} (hx : x.toInt.natAbs ≤ 100000) (hy : y.toInt.natAbs ≤ 100000) : (x - y).toInt = x.toInt - y.toInt := by
  rw [Int32.toInt_sub]
  exact bm (by omega) (by omega)
theorem negT {x : Int32} (hx : x.toInt.natAbs ≤ 100000) : (-x).toInt = -x.toInt := by
  rw [Int32.toInt_neg]
  exact bm (by omega) (by omega)
theorem co1 {a j : Nat} {s : Int32} (ha : a ≤ 14) (hj : j ≤ 20) (h1 : -2 ≤ s.toInt) (h2 : s.toInt ≤ 2) : (nI a + nI j * s).toInt = (a : Int) + (j : Int) * s.toInt := by
  have ea := nI_toInt (n := a) (by omega)
  have ej := nI_toInt (n := j) (by omega)
  have m := mulT (x := nI j) (y := s) (by rw [ej]; omega) (by omega)
  rw [ej] at m
  rw [addT (by rw [ea]; omega) (by rw [m.1]; omega), ea, m.1]
theorem lt0 (x : Int32) : ltI x 0 = decide (x.toInt < 0) := by
  unfold ltI
  rw [decide_eq_decide, Int32.lt_iff_toInt_lt]
  rfl
theorem lt15 (x : Int32) : ltI x 15 = decide (x.toInt < 15) := by
  unfold ltI
  rw [decide_eq_decide, Int32.lt_iff_toInt_lt]
  rfl
theorem off_in (x : Int32) : (ltI x 0 || !ltI x 15) = !decide (0 ≤ x.toInt ∧ x.toInt ≤ 14) := by
  rw [lt0, lt15, ← decide_not, ← Bool.decide_or, ← decide_not, decide_eq_decide]
  omega
theorem in_nI {x : Int32} (h : 0 ≤ x.toInt ∧ x.toInt ≤ 14) : ∃ a : Nat, a ≤ 14 ∧ x = nI a := by
  refine ⟨x.toInt.toNat, by omega, ?_⟩
  apply Int32.toInt_inj.mp
  rw [nI_toInt (by omega)]
  omega
theorem far_out {a j : Nat} {s : Int32} (ha : a ≤ 14) (hj1 : 1 ≤ j) (hj : j ≤ 20) (h1 : -2 ≤ s.toInt) (h2 : s.toInt ≤ 2) (ho : ¬ (0 ≤ (nI a + s).toInt ∧ (nI a + s).toInt ≤ 14)) : ¬ (0 ≤ (nI a + nI j * s).toInt ∧ (nI a + nI j * s).toInt ≤ 14) := by
  have e1 := co1 (a := a) (j := 1) ha (by omega) h1 h2
  rw [show nI 1 = 1 from rfl, Int32.one_mul] at e1
  rw [e1] at ho
  rw [co1 ha hj h1 h2]
  have hc : s.toInt = -2 ∨ s.toInt = -1 ∨ s.toInt = 0 ∨ s.toInt = 1 ∨ s.toInt = 2 := by omega
  rcases hc with q | q | q | q | q <;> rw [q] at ho ⊢ <;> omega
theorem shS_out {X Y : Nat → Nat} {n a b : Nat} {sx sy : Int32} (hX : ∀ i, i < n → X i ≤ 14) (hY : ∀ i, i < n → Y i ≤ 14) (ha : a ≤ 14) (hb : b ≤ 14) (h1 : -2 ≤ sx.toInt) (h2 : sx.toInt ≤ 2) (h3 : -2 ≤ sy.toInt) (h4 : sy.toInt ≤ 2)
    (ho : ¬ (0 ≤ (nI a + sx).toInt ∧ (nI a + sx).toInt ≤ 14) ∨ ¬ (0 ≤ (nI b + sy).toInt ∧ (nI b + sy).toInt ≤ 14)) : ∀ k, k ≤ 20 → shS X Y n sx sy (nI a) (nI b) k = 0
  | 0, _ => rfl
  | k + 1, hk => by
    rw [shS, shS_out hX hY ha hb h1 h2 h3 h4 ho k (by omega), Nat.zero_add]
    rcases ho with q | q
    · exact cnt_0x (far_out ha (by omega) hk h1 h2 q) hX
    · exact cnt_0y (far_out hb (by omega) hk h3 h4 q) hY
theorem bit01 (x : Int32) (i : Nat) : (x >>> (nI i &&& 31)) &&& 1 = bI (tkb x i) := by
  obtain ⟨j, hj, e⟩ := pk_andE (x >>> (nI i &&& 31)) (m := 1) 1 (by decide)
  unfold tkb
  rw [e]
  match j, hj with
  | 0, _ => rfl
  | 1, _ => rfl
  | j + 2, hj => exact absurd hj (by omega)
/-- the class's loop over the sun's way -/
theorem shl_eq {T : Nat → Int32} {X Y : Nat → Nat} {n : Nat} {sx sy : Int32} (hX : ∀ i, i < n → X i ≤ 14) (hY : ∀ i, i < n → Y i ≤ 14) (hT : ∀ x y, x < 15 → y < 15 → bI (tkb (T y) x) = nI (cnt X Y n (nI x) (nI y))) (h1 : -2 ≤ sx.toInt) (h2 : sx.toInt ≤ 2) (h3 : -2 ≤ sy.toInt) (h4 : sy.toInt ≤ 2) :
    ∀ k a b acc, k ≤ 20 → a ≤ 14 → b ≤ 14 → shl T sx sy k (nI a) (nI b) acc = acc + nI (shS X Y n sx sy (nI a) (nI b) k)
  | 0, a, b, acc, _, _, _ => by
    show acc = acc + nI 0
    rw [nI_0, Int32.add_zero]
  | k + 1, a, b, acc, hk, ha, hb => by
    have e : (ltI (nI a + sx) 0 || !ltI (nI a + sx) 15 || ltI (nI b + sy) 0 || !ltI (nI b + sy) 15) = (!decide (0 ≤ (nI a + sx).toInt ∧ (nI a + sx).toInt ≤ 14) || !decide (0 ≤ (nI b + sy).toInt ∧ (nI b + sy).toInt ≤ 14)) := by
      rw [Bool.or_assoc, off_in, off_in]
    rw [shl, e]
    by_cases qx : 0 ≤ (nI a + sx).toInt ∧ (nI a + sx).toInt ≤ 14
    · by_cases qy : 0 ≤ (nI b + sy).toInt ∧ (nI b + sy).toInt ≤ 14
      · rw [if_neg (by rw [decide_eq_true qx, decide_eq_true qy]; decide)]
        rw [shS_front]
        obtain ⟨a', ha', ea⟩ := in_nI qx
        obtain ⟨b', hb', eb⟩ := in_nI qy
        rw [ea, eb, nI_clamp (by omega), bit01, hT a' b' (by omega) (by omega)]
        rw [shl_eq hX hY hT h1 h2 h3 h4 k a' b' _ (by omega) ha' hb', Int32.add_assoc, nI_add]
      · rw [if_pos (by rw [decide_eq_false qy]; simp), shS_out hX hY ha hb h1 h2 h3 h4 (Or.inr qy) (k + 1) (by omega), nI_0, Int32.add_zero]
    · rw [if_pos (by rw [decide_eq_false qx]; rfl), shS_out hX hY ha hb h1 h2 h3 h4 (Or.inl qx) (k + 1) (by omega), nI_0, Int32.add_zero]
/-- one between another and the tower, in plain numbers -/
def btwN (nx ny fx fy : Nat) : Bool := decide (nx * fy + 7 * ny = ny * fx + 7 * fy) && (decide (7 * (nx + fx) < nx * fx + 49 + ny * fy) && decide (nx * fx + ny * fy + 14 * fx < 7 * (nx + fx) + fx * fx + fy * fy))
/-- the reference's words for it -/
def btr (ox oy mx my : Int32) : Bool := eqI ((ox - mx) * (-my)) ((oy - my) * (7 - mx)) && (ltI 0 ((ox - mx) * (7 - mx) + (oy - my) * (-my)) && ltI ((ox - mx) * (7 - mx) + (oy - my) * (-my)) ((7 - mx) * (7 - mx) + (-my) * (-my)))
theorem eqI_int (a b : Int32) : eqI a b = decide (a.toInt = b.toInt) := by
  unfold eqI
  rw [decide_eq_decide]
  exact Int32.toInt_inj.symm
theorem ltI_int (a b : Int32) : ltI a b = decide (a.toInt < b.toInt) := by
  unfold ltI
  rw [decide_eq_decide]
  exact Int32.lt_iff_toInt_lt
theorem btw_N {nx ny fx fy : Nat} (h1 : nx ≤ 14) (h2 : ny ≤ 14) (h3 : fx ≤ 14) (h4 : fy ≤ 14) : btw (nI nx) (nI ny) (nI fx) (nI fy) = btwN nx ny fx fy := by
  have a1 : (nI nx - 7).toInt = (nx : Int) - 7 := pk_sub_toInt (a := nx) (b := 7) (by omega) (by decide)
  have a2 : (nI ny - 0).toInt = (ny : Int) - 0 := pk_sub_toInt (a := ny) (b := 0) (by omega) (by decide)
  have a3 : (nI fx - 7).toInt = (fx : Int) - 7 := pk_sub_toInt (a := fx) (b := 7) (by omega) (by decide)
  have a4 : (nI fy - 0).toInt = (fy : Int) - 0 := pk_sub_toInt (a := fy) (b := 0) (by omega) (by decide)
  unfold btw btwN
  generalize nI nx - 7 = x1 at a1 ⊢
  generalize nI ny - 0 = x2 at a2 ⊢
  generalize nI fx - 7 = x3 at a3 ⊢
  generalize nI fy - 0 = x4 at a4 ⊢
  have m14 := mulT (x := x1) (y := x4) (by omega) (by omega)
  have m23 := mulT (x := x2) (y := x3) (by omega) (by omega)
  have m13 := mulT (x := x1) (y := x3) (by omega) (by omega)
  have m24 := mulT (x := x2) (y := x4) (by omega) (by omega)
  have m33 := mulT (x := x3) (y := x3) (by omega) (by omega)
  have m44 := mulT (x := x4) (y := x4) (by omega) (by omega)
  have s1 := addT (x := x1 * x3) (y := x2 * x4) (by omega) (by omega)
  have s2 := addT (x := x3 * x3) (y := x4 * x4) (by omega) (by omega)
  rw [eqI_int, ltI_int, ltI_int, s1, s2, m14.1, m23.1, m13.1, m24.1, m33.1, m44.1, a1, a2, a3, a4]
  have e1 : ((nx : Int) - 7) * ((fy : Int) - 0) = (nx : Int) * fy - 7 * fy := by rw [Int.sub_zero, Int.sub_mul]
  have e2 : ((ny : Int) - 0) * ((fx : Int) - 7) = (ny : Int) * fx - 7 * ny := by rw [Int.sub_zero, Int.mul_sub, Int.mul_comm (ny : Int) 7]
  have e3 : ((nx : Int) - 7) * ((fx : Int) - 7) = (nx : Int) * fx - 7 * nx - 7 * fx + 49 := by rw [Int.sub_mul, Int.mul_sub, Int.mul_sub, Int.mul_comm (nx : Int) 7]; omega
  have e4 : ((ny : Int) - 0) * ((fy : Int) - 0) = (ny : Int) * fy := by rw [Int.sub_zero, Int.sub_zero]
  have e5 : ((fx : Int) - 7) * ((fx : Int) - 7) = (fx : Int) * fx - 14 * fx + 49 := by rw [Int.sub_mul, Int.mul_sub, Int.mul_sub, Int.mul_comm (fx : Int) 7]; omega
  have e6 : ((fy : Int) - 0) * ((fy : Int) - 0) = (fy : Int) * fy := by rw [Int.sub_zero]
  rw [e1, e2, e3, e4, e5, e6]
  have c1 : ((nx * fy : Nat) : Int) = (nx : Int) * fy := Int.natCast_mul _ _
  have c2 : ((ny * fx : Nat) : Int) = (ny : Int) * fx := Int.natCast_mul _ _
  have c3 : ((nx * fx : Nat) : Int) = (nx : Int) * fx := Int.natCast_mul _ _
  have c4 : ((ny * fy : Nat) : Int) = (ny : Int) * fy := Int.natCast_mul _ _
  have c5 : ((fx * fx : Nat) : Int) = (fx : Int) * fx := Int.natCast_mul _ _
  have c6 : ((fy * fy : Nat) : Int) = (fy : Int) * fy := Int.natCast_mul _ _
  rw [← c1, ← c2, ← c3, ← c4, ← c5, ← c6, show (0 : Int32).toInt = 0 from by decide]
  generalize nx * fy = p1
  generalize ny * fx = p2
  generalize nx * fx = p3
  generalize ny * fy = p4
  generalize fx * fx = p5
  generalize fy * fy = p6
  congr 1
  · rw [decide_eq_decide]; omega
  · congr 1
    · rw [decide_eq_decide]; omega
    · rw [decide_eq_decide]; omega
theorem btr_N {nx ny fx fy : Nat} (h1 : nx ≤ 14) (h2 : ny ≤ 14) (h3 : fx ≤ 14) (h4 : fy ≤ 14) : btr (nI nx) (nI ny) (nI fx) (nI fy) = btwN nx ny fx fy := by
  have a1 : (nI nx - nI fx).toInt = (nx : Int) - fx := pk_sub_toInt (by omega) (by omega)
  have a2 : (nI ny - nI fy).toInt = (ny : Int) - fy := pk_sub_toInt (by omega) (by omega)
  have a3 : ((7 : Int32) - nI fx).toInt = (7 : Int) - fx := pk_sub_toInt (a := 7) (b := fx) (by omega) (by omega)
  have a4 : (-nI fy).toInt = -(fy : Int) := by rw [negT (by rw [nI_toInt (by omega)]; omega), nI_toInt (by omega)]
  unfold btr btwN
  generalize nI nx - nI fx = x1 at a1 ⊢
  generalize nI ny - nI fy = x2 at a2 ⊢
  generalize (7 : Int32) - nI fx = x3 at a3 ⊢
  generalize -nI fy = x4 at a4 ⊢
  have m14 := mulT (x := x1) (y := x4) (by omega) (by omega)
  have m23 := mulT (x := x2) (y := x3) (by omega) (by omega)
  have m13 := mulT (x := x1) (y := x3) (by omega) (by omega)
  have m24 := mulT (x := x2) (y := x4) (by omega) (by omega)
  have m33 := mulT (x := x3) (y := x3) (by omega) (by omega)
  have m44 := mulT (x := x4) (y := x4) (by omega) (by omega)
  have s1 := addT (x := x1 * x3) (y := x2 * x4) (by omega) (by omega)
  have s2 := addT (x := x3 * x3) (y := x4 * x4) (by omega) (by omega)
  rw [eqI_int, ltI_int, ltI_int, s1, s2, m14.1, m23.1, m13.1, m24.1, m33.1, m44.1, a1, a2, a3, a4]
  have e1 : ((nx : Int) - fx) * (-(fy : Int)) = (fx : Int) * fy - (nx : Int) * fy := by rw [Int.mul_neg, Int.sub_mul]; omega
  have e2 : ((ny : Int) - fy) * ((7 : Int) - fx) = 7 * ny - 7 * fy - (ny : Int) * fx + (fx : Int) * fy := by rw [Int.sub_mul, Int.mul_sub, Int.mul_sub, Int.mul_comm (ny : Int) 7, Int.mul_comm (fy : Int) 7, Int.mul_comm (fy : Int) fx]; omega
  have e3 : ((nx : Int) - fx) * ((7 : Int) - fx) = 7 * nx - 7 * fx - (nx : Int) * fx + (fx : Int) * fx := by rw [Int.sub_mul, Int.mul_sub, Int.mul_sub, Int.mul_comm (nx : Int) 7, Int.mul_comm (fx : Int) 7]; omega
  have e4 : ((ny : Int) - fy) * (-(fy : Int)) = (fy : Int) * fy - (ny : Int) * fy := by rw [Int.mul_neg, Int.sub_mul]; omega
  have e5 : ((7 : Int) - fx) * ((7 : Int) - fx) = 49 - 14 * fx + (fx : Int) * fx := by rw [Int.sub_mul, Int.mul_sub, Int.mul_sub, Int.mul_comm (fx : Int) 7]; omega
  have e6 : (-(fy : Int)) * (-(fy : Int)) = (fy : Int) * fy := by rw [Int.neg_mul_neg]
  rw [e1, e2, e3, e4, e5, e6]
  have c0 : ((fx * fy : Nat) : Int) = (fx : Int) * fy := Int.natCast_mul _ _
  have c1 : ((nx * fy : Nat) : Int) = (nx : Int) * fy := Int.natCast_mul _ _
  have c2 : ((ny * fx : Nat) : Int) = (ny : Int) * fx := Int.natCast_mul _ _
  have c3 : ((nx * fx : Nat) : Int) = (nx : Int) * fx := Int.natCast_mul _ _
  have c4 : ((ny * fy : Nat) : Int) = (ny : Int) * fy := Int.natCast_mul _ _
  have c5 : ((fx * fx : Nat) : Int) = (fx : Int) * fx := Int.natCast_mul _ _
  have c6 : ((fy * fy : Nat) : Int) = (fy : Int) * fy := Int.natCast_mul _ _
  rw [← c0, ← c1, ← c2, ← c3, ← c4, ← c5, ← c6, show (0 : Int32).toInt = 0 from by decide]
  generalize fx * fy = p0
  generalize nx * fy = p1
  generalize ny * fx = p2
  generalize nx * fx = p3
  generalize ny * fy = p4
  generalize fx * fx = p5
  generalize fy * fy = p6
  rw [show (decide (7 * (nx + fx) < p3 + 49 + p4) && decide (p3 + p4 + 14 * fx < 7 * (nx + fx) + p5 + p6)) = (decide (p3 + p4 + 14 * fx < 7 * (nx + fx) + p5 + p6) && decide (7 * (nx + fx) < p3 + 49 + p4)) from Bool.and_comm _ _]
  congr 1
  · rw [decide_eq_decide]; omega
  · congr 1
    · rw [decide_eq_decide]; omega
    · rw [decide_eq_decide]; omega
theorem btwN_self (fx fy : Nat) : btwN fx fy fx fy = false := by
  unfold btwN
  rw [decide_eq_false (p := fx * fx + fy * fy + 14 * fx < 7 * (fx + fx) + fx * fx + fy * fy) (by omega), Bool.and_false, Bool.and_false]
/-- how many of the first k block one at fx, fy -/
def blS (X Y : Nat → Nat) (fx fy : Nat) : Nat → Nat
  | 0 => 0
  | o + 1 => blS X Y fx fy o + b01 (btwN (X o) (Y o) fx fy)
def blA (X Y : Nat → Nat) (n m : Nat) : Nat := blS X Y (X m) (Y m) n
theorem sumN_nup (g : Nat → Nat) {c : Nat} : ∀ N, c < N → sumN (nup g c 0) N + g c = sumN g N
  | 0, h => absurd h (Nat.not_lt_zero c)
  | N + 1, h => by
    have hn : ∀ M, M ≤ c → sumN (nup g c 0) M = sumN g M := by
      intro M
      induction M with
      | zero => intro _; rfl
      | succ M ih =>
        intro hM
        rw [sumN, sumN, ih (by omega)]
        congr 1
        exact if_neg (by omega)
    by_cases e : c = N
    · subst e
      rw [sumN, sumN, hn c (Nat.le_refl c), show nup g c 0 c = 0 from if_pos rfl]
      omega
    · have ih := sumN_nup g (c := c) N (by omega)
      rw [sumN, sumN, show nup g c 0 N = g N from if_neg (by omega)]
      omega
theorem inj_sum {Q : Nat → Nat} {N : Nat} : ∀ n (g : Nat → Nat), (∀ i j, i < j → j < n → Q i ≠ Q j) → (∀ i, i < n → Q i < N) → sumN (fun o => g (Q o)) n ≤ sumN g N
  | 0, g, _, _ => Nat.zero_le _
  | n + 1, g, hi, hl => by
    have ih := inj_sum (N := N) n (nup g (Q n) 0) (fun i j h1 h2 => hi i j h1 (by omega)) (fun i h => hl i (by omega))
    have e : ∀ M, M ≤ n → sumN (fun o => nup g (Q n) 0 (Q o)) M = sumN (fun o => g (Q o)) M := by
      intro M
      induction M with
      | zero => intro _; rfl
      | succ M ih2 =>
        intro hM
        rw [sumN, sumN, ih2 (by omega)]
        congr 1
        exact if_neg (hi M n (by omega) (by omega))
    rw [e n (Nat.le_refl n)] at ih
    have s := sumN_nup g N (hl n (by omega))
    rw [sumN]
    show sumN (fun o => g (Q o)) n + g (Q n) ≤ _
    omega
set_option maxRecDepth 100000 in
theorem bl_grid : ∀ fx, fx < 15 → ∀ fy, fy < 15 → sumN (fun q => b01 (btwN (q / 15) (q % 15) fx fy)) 225 ≤ 20 := by decide +kernel
theorem blS_sum (X Y : Nat → Nat) (fx fy : Nat) (hY : ∀ i, Y i ≤ 14 ∨ True) : ∀ n, (∀ i, i < n → Y i ≤ 14) → blS X Y fx fy n = sumN (fun o => (fun q => b01 (btwN (q / 15) (q % 15) fx fy)) (15 * X o + Y o)) n
  | 0, _ => rfl
  | n + 1, h => by
    have q := h n (by omega)
    rw [blS, sumN, blS_sum X Y fx fy hY n (fun i hi => h i (by omega))]
    congr 1
    show _ = b01 (btwN ((15 * X n + Y n) / 15) ((15 * X n + Y n) % 15) fx fy)
    rw [show (15 * X n + Y n) / 15 = X n by omega, show (15 * X n + Y n) % 15 = Y n by omega]
theorem bl_le {X Y : Nat → Nat} {n m : Nat} (hX : ∀ i, i < n → X i ≤ 14) (hY : ∀ i, i < n → Y i ≤ 14) (hd : ∀ i j, i < j → j < n → ¬ (X i = X j ∧ Y i = Y j)) (hm : m < n) : blA X Y n m ≤ 20 := by
  unfold blA
  rw [blS_sum X Y _ _ (fun _ => Or.inr trivial) n hY]
  refine Nat.le_trans (inj_sum (Q := fun o => 15 * X o + Y o) (N := 225) n (fun q => b01 (btwN (q / 15) (q % 15) (X m) (Y m))) (fun i j h1 h2 => ?_) (fun i hi => ?_)) (bl_grid (X m) (by have := hX m hm; omega) (Y m) (by have := hY m hm; omega))
  · have a := hd i j h1 h2
    have b := hY i (by omega)
    have c := hY j h2
    show 15 * X i + Y i ≠ 15 * X j + Y j
    omega
  · have a := hX i hi
    have b := hY i hi
    show 15 * X i + Y i < 225
    omega
theorem cnt_free {X Y : Nat → Nat} {x y : Nat} (hx : x ≤ 14) (hy : y ≤ 14) : ∀ {n : Nat}, (∀ i, i < n → X i ≤ 14) → (∀ i, i < n → Y i ≤ 14) → (cnt X Y n (nI x) (nI y) = 0 ↔ ∀ i, i < n → ¬ (X i = x ∧ Y i = y))
  | 0, _, _ => ⟨fun _ i hi => absurd hi (Nat.not_lt_zero i), fun _ => rfl⟩
  | n + 1, hX, hY => by
    have ih := cnt_free hx hy (n := n) (fun i hi => hX i (by omega)) (fun i hi => hY i (by omega))
    have a := hX n (by omega)
    have b := hY n (by omega)
    rw [cnt, eqI_nI (by omega) (by omega), eqI_nI (by omega) (by omega), ← Bool.decide_and]
    constructor
    · intro e i hi
      by_cases q : i = n
      · subst q
        intro h
        rw [decide_eq_true h] at e
        exact absurd e (by unfold b01; simp)
      · exact ih.mp (by omega) i (by omega)
    · intro h
      rw [ih.mpr (fun i hi => h i (by omega)), decide_eq_false (h n (by omega))]
      rfl
theorem cnt_one {X Y : Nat → Nat} : ∀ {n : Nat}, (∀ i, i < n → X i ≤ 14) → (∀ i, i < n → Y i ≤ 14) → (∀ i j, i < j → j < n → ¬ (X i = X j ∧ Y i = Y j)) → ∀ x y, cnt X Y n x y ≤ 1
  | 0, _, _, _, _, _ => Nat.zero_le 1
  | n + 1, hX, hY, hd, x, y => by
    have ih := cnt_one (n := n) (fun i hi => hX i (by omega)) (fun i hi => hY i (by omega)) (fun i j h1 h2 => hd i j h1 (by omega)) x y
    rw [cnt]
    by_cases e : (eqI (nI (X n)) x && eqI (nI (Y n)) y) = true
    · rw [e]
      rw [Bool.and_eq_true, eqI_t, eqI_t] at e
      have z := (cnt_free (hX n (by omega)) (hY n (by omega)) (n := n) (fun i hi => hX i (by omega)) (fun i hi => hY i (by omega))).mpr (fun i hi => hd i n hi (by omega))
      rw [← e.1, ← e.2, z]
      decide
    · rw [Bool.not_eq_true] at e
      rw [e]
      exact ih
theorem shS_le {X Y : Nat → Nat} {n : Nat} {sx sy x y : Int32} (h : ∀ x y, cnt X Y n x y ≤ 1) : ∀ k, shS X Y n sx sy x y k ≤ k
  | 0 => Nat.le_refl 0
  | k + 1 => by
    have ih := shS_le (sx := sx) (sy := sy) (x := x) (y := y) h k
    have q := h (x + nI (k + 1) * sx) (y + nI (k + 1) * sy)
    rw [shS]
    omega
def shA (X Y : Nat → Nat) (n : Nat) (SX SY : Nat → Int32) (H : Nat → Nat) (m h : Nat) : Nat := if H h = 0 then 0 else shS X Y n (SX h) (SY h) (nI (X m)) (nI (Y m)) (10 - H h)
/-- the power that a mirror has in an hour, so much more soil on it -/
def pwA (X Y : Nat → Nat) (n : Nat) (SX SY : Nat → Int32) (H S W : Nat → Nat) (h mo : Nat) : Nat → Nat := fun m => if H h = 0 then 0 else if stow W h then 0 else (10 * H h + 10 - min 90 (S m + mo)) / 2 ^ (shA X Y n SX SY H m h + blA X Y n m)
theorem pwA_le {X Y : Nat → Nat} {n : Nat} {SX SY : Nat → Int32} {H S W : Nat → Nat} {h mo m : Nat} (hH : H h ≤ 9) : pwA X Y n SX SY H S W h mo m ≤ 100 := by
  unfold pwA
  split
  · omega
  · split
    · omega
    · refine Nat.le_trans (Nat.div_le_self _ _) ?_
      omega
/-- what the class's field holds -/
def GC (n : Nat) (X Y : Nat → Nat) (F : Nat → Nat → Int32) : Prop :=
  (∀ i, i < n → F 6 i = nI (X i)) ∧ (∀ i, i < n → F 7 i = nI (Y i)) ∧ (∀ x y, x < 15 → y < 15 → bI (tkb (F 5 y) x) = nI (cnt X Y n (nI x) (nI y))) ∧ (∀ i, i < n → F 8 i = nI (blA X Y n i)) ∧ (∀ i, n ≤ i → i < 40 → F 8 i = 0)
/-- the positions: on the field, no two at one place -/
def GP (n : Nat) (X Y : Nat → Nat) : Prop := (∀ i, i < n → X i ≤ 14) ∧ (∀ i, i < n → Y i ≤ 14) ∧ (∀ i j, i < j → j < n → ¬ (X i = X j ∧ Y i = Y j))
/-- the sun's steps -/
def SUN (SX SY : Nat → Int32) : Prop := ∀ h, h < 24 → (-2 ≤ (SX h).toInt ∧ (SX h).toInt ≤ 2) ∧ (-2 ≤ (SY h).toInt ∧ (SY h).toInt ≤ 2)
theorem sh_abs {F : Nat → Nat → Int32} {n : Nat} {X Y : Nat → Nat} {SX SY : Nat → Int32} {H : Nat → Nat} {m h : Nat} (hG : GC n X Y F) (hP : GP n X Y) (hS : SUN SX SY) (h10 : ∀ i, i < 24 → F 10 i = SX i) (h11 : ∀ i, i < 24 → F 11 i = SY i) (hm : m < n) (hh : h < 24) : shC F H m h = nI (shA X Y n SX SY H m h) := by
  unfold shC shA
  split
  · rfl
  · obtain ⟨g6, g7, g5, -, -⟩ := hG
    obtain ⟨p1, p2, p3⟩ := hP
    have q := hS h hh
    rw [h10 h hh, h11 h hh, g6 m hm, g7 m hm]
    rw [shl_eq p1 p2 g5 q.1.1 q.1.2 q.2.1 q.2.2 (10 - H h) (X m) (Y m) 0 (by omega) (p1 m hm) (p2 m hm), Int32.zero_add]
theorem shA_le {n : Nat} {X Y : Nat → Nat} {SX SY : Nat → Int32} {H : Nat → Nat} {m h : Nat} (hP : GP n X Y) : shA X Y n SX SY H m h ≤ 9 := by
  unfold shA
  split
  · omega
  · have := shS_le (sx := SX h) (sy := SY h) (x := nI (X m)) (y := nI (Y m)) (cnt_one hP.1 hP.2.1 hP.2.2) (10 - H h)
    omega
theorem pw_abs {F : Nat → Nat → Int32} {n : Nat} {X Y : Nat → Nat} {SX SY : Nat → Int32} {H S W : Nat → Nat} {d m h k : Nat} (hG : GC n X Y F) (hP : GP n X Y) (hS : SUN SX SY) (h10 : ∀ i, i < 24 → F 10 i = SX i) (h11 : ∀ i, i < 24 → F 11 i = SY i) (hH : H h ≤ 9) (hm : m < n) (hh : h < 24) : pwN F H S W d m h k = pwA X Y n SX SY H S W h (k * d) m := by
  have e1 := sh_abs (H := H) hG hP hS h10 h11 hm hh
  have e2 := shA_le (SX := SX) (SY := SY) (H := H) (m := m) (h := h) hP
  have e3 := bl_le hP.1 hP.2.1 hP.2.2 hm
  unfold pwN pwC pwA
  split
  · rfl
  · split
    · rfl
    · rw [e1, hG.2.2.2.1 m hm, nI_add]
      have hc : shA X Y n SX SY H m h + blA X Y n m < 32 := by omega
      generalize shA X Y n SX SY H m h + blA X Y n m = c at hc ⊢
      rw [pk_andN (n := c) (by omega) (m := 31) 5 (by decide), Nat.mod_eq_of_lt (by omega)]
      rw [pk_shrN (by omega) (nI c) c ((by decide : ∀ j, j < 32 → ((nI j).toBitVec.smod 32).toNat = j) c hc)]
      refine nI_clamp ?_
      exact Nat.lt_of_le_of_lt (Nat.div_le_self _ _) (by omega)

