/-! what class and reference hold, by one plain picture (my own) -/
theorem ah_abs {F : Nat → Nat → Int32} {n : Nat} {X Y : Nat → Nat} {SX SY : Nat → Int32} {H S W Lm : Nat → Nat} {d h k : Nat} (hG : GC n X Y F) (hP : GP n X Y) (hS : SUN SX SY) (h10 : ∀ i, i < 24 → F 10 i = SX i) (h11 : ∀ i, i < 24 → F 11 i = SY i) (hH : H h ≤ 9) (hh : h < 24) :
    ahF F H S W Lm d n h k = htA (pwA X Y n SX SY H S W h (k * d)) Lm n ∧ alF F H S W Lm d n h k = lA (pwA X Y n SX SY H S W h (k * d)) Lm n ∧ ∀ i, i < n → acF F H S W Lm d n h k i = cA (pwA X Y n SX SY H S W h (k * d)) Lm n i := by
  have e : ∀ i, i < n → pwF F H S W d h k i = pwA X Y n SX SY H S W h (k * d) i := fun i hi => pw_abs hG hP hS h10 h11 hH hi hh
  obtain ⟨a, b, c⟩ := hlc_cong (Lm := Lm) e
  exact ⟨a, b, fun i hi => c (F 17) i hi⟩
theorem GC_cong {n : Nat} {X Y : Nat → Nat} {F F' : Nat → Nat → Int32} (h : GC n X Y F) (e5 : F' 5 = F 5) (e6 : F' 6 = F 6) (e7 : F' 7 = F 7) (e8 : F' 8 = F 8) : GC n X Y F' := by
  unfold GC
  rw [e5, e6, e7, e8]
  exact h
def KC (ks : Nat) (Kc Kp : Nat → Int32) (F : Nat → Nat → Int32) : Prop := (∀ i, i < ks → F 19 i = Kc i) ∧ (∀ i, i < 4 → F 20 i = Kp i)
theorem KC_cong {ks : Nat} {Kc Kp : Nat → Int32} {F F' : Nat → Nat → Int32} (h : KC ks Kc Kp F) (e1 : F' 19 = F 19) (e2 : F' 20 = F 20) : KC ks Kc Kp F' := by
  unfold KC
  rw [e1, e2]
  exact h
def PLC (pf : Nat) (rb : Nat → Bool) (V : Nat → Int32) : Prop := ∀ h, pf ≤ h → h < 24 → tkb (V 8) h = rb h
theorem PLC_cong {pf : Nat} {rb : Nat → Bool} {V V' : Nat → Int32} (h : PLC pf rb V) (e : V' 8 = V 8) : PLC pf rb V' := by
  unfold PLC
  rw [e]
  exact h
theorem up_cong {f g : Nat → Int32} {n k : Nat} {x : Int32} (h : ∀ i, i < n → f i = g i) : ∀ i, i < n → upd f k x i = upd g k x i := by
  intro i hi
  unfold upd
  split
  · rfl
  · exact h i hi
theorem isW_2 {x : Int32} (h : isW x (-2) 2 = true) : -2 ≤ x.toInt ∧ x.toInt ≤ 2 := by
  simp only [isW, ltI, Bool.and_eq_true, Bool.not_eq_true', decide_eq_false_iff_not, Int32.lt_iff_toInt_lt] at h
  rw [show (-2 : Int32).toInt = -2 from by decide, show (2 : Int32).toInt = 2 from by decide] at h
  omega
theorem SUN_up {SX SY : Nat → Int32} {k : Nat} {x y : Int32} (h : SUN SX SY) (hx : isW x (-2) 2 = true) (hy : isW y (-2) 2 = true) : SUN (upd SX k x) (upd SY k y) := by
  intro i hi
  have q := h i hi
  unfold upd
  split
  · exact ⟨isW_2 hx, isW_2 hy⟩
  · exact q
/-- a call's test of a mirror's number -/
def inN (v : Int32) (n : Nat) : Bool := !ltI v 0 && ltI v (nI n)
theorem inN_W {v : Int32} {n : Nat} (hn : n ≤ 40) : isW v 0 (nI n - 1) = inN v n := by
  unfold isW inN
  congr 1
  unfold ltI
  rw [← decide_not, decide_eq_decide, Int32.not_lt, Int32.le_iff_toInt_le, Int32.lt_iff_toInt_lt, show (nI n - 1).toInt = (n : Int) - 1 from pk_sub_toInt (a := n) (b := 1) (by omega) (by decide), nI_toInt (by omega)]
  omega
theorem inN_nI {k n : Nat} (hk : k < 2 ^ 31) (hn : n < 2 ^ 31) : inN (nI k) n = decide (k < n) := by
  unfold inN ltI
  rw [decide_eq_false (nI_pos hk), Bool.not_false, Bool.true_and, decide_eq_decide]
  exact nI_ltI hk hn
theorem isW_hi {v : Int32} {a b : Int32} (h : isW v a b = true) : ¬ v < a ∧ ¬ b < v := by
  simp only [isW, ltI, Bool.and_eq_true, Bool.not_eq_true', decide_eq_false_iff_not] at h
  exact h
theorem isW_nI {k a b : Nat} (hk : k < 2 ^ 31) (ha : a < 2 ^ 31) (hb : b < 2 ^ 31) : isW (nI k) (nI a) (nI b) = decide (a ≤ k ∧ k ≤ b) := by
  unfold isW ltI
  rw [← decide_not, ← decide_not, ← Bool.decide_and, decide_eq_decide, nI_ltI hk ha, nI_ltI hb hk]
  omega
def okS (p0 p1 p2 p3 : Int32) : Bool := isW p0 0 23 && isW p1 (-2) 2 && isW p2 (-2) 2 && !(eqI p1 0 && eqI p2 0) && isW p3 0 9
def mOK (p0 p1 : Int32) (n : Nat) (X Y : Nat → Nat) : Bool := isW p0 0 14 && isW p1 0 14 && !(eqI p0 7 && eqI p1 0) && decide (cnt X Y n p0 p1 = 0) && decide (n < 40)
/-- what comes in from an hour on, in units -/
def cmA (X Y : Nat → Nat) (n : Nat) (SX SY : Nat → Int32) (H S W Lm : Nat → Nat) (d nw : Nat) : Nat → Nat := fun h => htA (pwA X Y n SX SY H S W h ((h - nw) * d)) Lm n / 100
theorem cm_abs {F : Nat → Nat → Int32} {n : Nat} {X Y : Nat → Nat} {SX SY : Nat → Int32} {H S W Lm : Nat → Nat} {d nw h : Nat} (hG : GC n X Y F) (hP : GP n X Y) (hS : SUN SX SY) (h10 : ∀ i, i < 24 → F 10 i = SX i) (h11 : ∀ i, i < 24 → F 11 i = SY i) (hH : ∀ i, i < 24 → H i ≤ 9) (hh : h < 24) : cmF F H S W Lm d n nw h = cmA X Y n SX SY H S W Lm d nw h := by
  unfold cmF cmA
  rw [(ah_abs hG hP hS h10 h11 (hH h hh) hh).1]
/-- the blockers as the class counts them when one comes -/
def plB1 (A B : Nat → Int32) (m : Nat) (C : Nat → Int32) (k : Nat) : Nat → Int32 := if btw (A k) (B k) (A m) (B m) then upd C m (C m + 1) else C
def plB2 (A B : Nat → Int32) (m : Nat) (C : Nat → Int32) (k : Nat) : Nat → Int32 := if btw (A m) (B m) (A k) (B k) then upd C k (C k + 1) else C
def plB (A B : Nat → Int32) (m : Nat) (C0 : Nat → Int32) : Nat → Nat → Int32
  | 0 => C0
  | k + 1 => plB2 A B m (plB1 A B m (plB A B m C0 k) k) k
theorem plB_eq {A B : Nat → Int32} {X Y : Nat → Nat} {m : Nat} {C0 : Nat → Int32} (htA : ∀ i, i < m + 1 → A i = nI (X i)) (hB : ∀ i, i < m + 1 → B i = nI (Y i)) (hX : ∀ i, i < m + 1 → X i ≤ 14) (hY : ∀ i, i < m + 1 → Y i ≤ 14) (h0 : C0 m = 0) :
    ∀ k, k ≤ m → (plB A B m C0 k m = nI (blS X Y (X m) (Y m) k)) ∧ (∀ i, i < k → plB A B m C0 k i = C0 i + nI (b01 (btwN (X m) (Y m) (X i) (Y i)))) ∧ (∀ i, k ≤ i → i ≠ m → plB A B m C0 k i = C0 i)
  | 0, _ => ⟨by rw [show plB A B m C0 0 = C0 from rfl, h0]; rfl, fun i hi => absurd hi (Nat.not_lt_zero i), fun i _ _ => rfl⟩
  | k + 1, hk => by
    obtain ⟨a, b, c⟩ := plB_eq htA hB hX hY h0 k (by omega)
    have e1 : btw (A k) (B k) (A m) (B m) = btwN (X k) (Y k) (X m) (Y m) := by
      rw [htA k (by omega), hB k (by omega), htA m (by omega), hB m (by omega)]
      exact btw_N (hX k (by omega)) (hY k (by omega)) (hX m (by omega)) (hY m (by omega))
    have e2 : btw (A m) (B m) (A k) (B k) = btwN (X m) (Y m) (X k) (Y k) := by
      rw [htA k (by omega), hB k (by omega), htA m (by omega), hB m (by omega)]
      exact btw_N (hX m (by omega)) (hY m (by omega)) (hX k (by omega)) (hY k (by omega))
    have hkm : k ≠ m := by omega
    have d1 : plB1 A B m (plB A B m C0 k) k m = nI (blS X Y (X m) (Y m) (k + 1)) := by
      unfold plB1
      rw [e1, blS]
      cases btwN (X k) (Y k) (X m) (Y m) with
      | true => rw [if_pos rfl, pk_us, a, nI_1]; rfl
      | false => rw [if_neg (by decide), a]; rfl
    have d2 : ∀ i, i ≠ m → plB1 A B m (plB A B m C0 k) k i = plB A B m C0 k i := fun i hi => by
      unfold plB1
      split
      · exact pk_un hi
      · rfl
    have d3 : plB A B m C0 (k + 1) = plB2 A B m (plB1 A B m (plB A B m C0 k) k) k := rfl
    generalize plB1 A B m (plB A B m C0 k) k = C1 at d1 d2 d3
    unfold plB2 at d3
    rw [d3, e2]
    cases q : btwN (X m) (Y m) (X k) (Y k) with
    | true =>
      rw [if_pos rfl]
      refine ⟨?_, fun i hi => ?_, fun i h1 h2 => ?_⟩
      · rw [pk_un (Ne.symm hkm)]; exact d1
      · by_cases z : i = k
        · rw [z, pk_us, d2 k hkm, c k (Nat.le_refl k) hkm, q]; rfl
        · rw [pk_un z, d2 i (by omega)]; exact b i (by omega)
      · rw [pk_un (by omega), d2 i h2]; exact c i (by omega) h2
    | false =>
      rw [if_neg (by decide)]
      refine ⟨d1, fun i hi => ?_, fun i h1 h2 => ?_⟩
      · by_cases z : i = k
        · rw [z, d2 k hkm, c k (Nat.le_refl k) hkm, q]
          show _ = _ + nI 0
          rw [nI_0, Int32.add_zero]
        · rw [d2 i (by omega)]; exact b i (by omega)
      · rw [d2 i h2]; exact c i (by omega) h2
theorem blS_cong {X X2 Y Y2 : Nat → Nat} {fx fy : Nat} : ∀ k, (∀ i, i < k → X i = X2 i) → (∀ i, i < k → Y i = Y2 i) → blS X Y fx fy k = blS X2 Y2 fx fy k
  | 0, _, _ => rfl
  | k + 1, h1, h2 => by
    rw [blS, blS, blS_cong k (fun i hi => h1 i (by omega)) (fun i hi => h2 i (by omega)), h1 k (by omega), h2 k (by omega)]
theorem cnt_cong {X X2 Y Y2 : Nat → Nat} {x y : Int32} : ∀ k, (∀ i, i < k → X i = X2 i) → (∀ i, i < k → Y i = Y2 i) → cnt X Y k x y = cnt X2 Y2 k x y
  | 0, _, _ => rfl
  | k + 1, h1, h2 => by
    rw [cnt, cnt, cnt_cong k (fun i hi => h1 i (by omega)) (fun i hi => h2 i (by omega)), h1 k (by omega), h2 k (by omega)]
theorem nup_s (S : Nat → Nat) (k v : Nat) : nup S k v k = v := if_pos rfl
theorem nup_n {S : Nat → Nat} {k v i : Nat} (h : i ≠ k) : nup S k v i = S i := if_neg h
theorem GP_up {n : Nat} {X Y : Nat → Nat} {a b : Nat} (hP : GP n X Y) (ha : a ≤ 14) (hb : b ≤ 14) (h0 : cnt X Y n (nI a) (nI b) = 0) : GP (n + 1) (nup X n a) (nup Y n b) := by
  obtain ⟨p1, p2, p3⟩ := hP
  have fr := (cnt_free ha hb p1 p2).mp h0
  refine ⟨fun i hi => ?_, fun i hi => ?_, fun i j h1 h2 => ?_⟩
  · by_cases e : i = n
    · rw [e, nup_s]; exact ha
    · rw [nup_n e]; exact p1 i (by omega)
  · by_cases e : i = n
    · rw [e, nup_s]; exact hb
    · rw [nup_n e]; exact p2 i (by omega)
  · have hi : i ≠ n := by omega
    rw [nup_n hi, nup_n hi]
    by_cases e : j = n
    · rw [e, nup_s, nup_s]; exact fr i (by omega)
    · rw [nup_n e, nup_n e]; exact p3 i j h1 (by omega)
theorem GC_up {n : Nat} {X Y : Nat → Nat} {a b : Nat} {F F' : Nat → Nat → Int32} (hG : GC n X Y F) (hP : GP n X Y) (hn : n < 40) (ha : a ≤ 14) (hb : b ≤ 14) (h0 : cnt X Y n (nI a) (nI b) = 0)
    (e6 : F' 6 = upd (F 6) n (nI a)) (e7 : F' 7 = upd (F 7) n (nI b)) (e5 : F' 5 = upd (F 5) b (F 5 b ||| ((1 : Int32) <<< (nI a &&& 31)))) (e8 : F' 8 = plB (F' 6) (F' 7) n (F 8) n) : GC (n + 1) (nup X n a) (nup Y n b) F' := by
  obtain ⟨g6, g7, g5, g8, g9⟩ := hG
  obtain ⟨p1, p2, p3⟩ := GP_up hP ha hb h0
  have q6 : ∀ i, i < n + 1 → F' 6 i = nI (nup X n a i) := fun i hi => by
    rw [e6]
    by_cases e : i = n
    · rw [e, pk_us, nup_s]
    · rw [pk_un e, nup_n e]; exact g6 i (by omega)
  have q7 : ∀ i, i < n + 1 → F' 7 i = nI (nup Y n b i) := fun i hi => by
    rw [e7]
    by_cases e : i = n
    · rw [e, pk_us, nup_s]
    · rw [pk_un e, nup_n e]; exact g7 i (by omega)
  have cc : ∀ x y, cnt (nup X n a) (nup Y n b) (n + 1) x y = cnt X Y n x y + b01 (eqI (nI a) x && eqI (nI b) y) := fun x y => by
    rw [cnt, nup_s, nup_s, cnt_cong (X2 := X) (Y2 := Y) n (fun i hi => nup_n (by omega)) (fun i hi => nup_n (by omega))]
  obtain ⟨b1, b2, b3⟩ := plB_eq (A := F' 6) (B := F' 7) (X := nup X n a) (Y := nup Y n b) (m := n) (C0 := F 8) q6 q7 p1 p2 (g9 n (Nat.le_refl n) hn) n (Nat.le_refl n)
  refine ⟨q6, q7, fun x y hx hy => ?_, fun i hi => ?_, fun i h1 h2 => ?_⟩
  · rw [cc, e5, eqI_nI (by omega) (by omega), eqI_nI (by omega) (by omega)]
    have old := g5 x y hx hy
    by_cases ey : y = b
    · subst ey
      rw [pk_us, tkb_or (by omega) (by omega)]
      by_cases ex : x = a
      · subst ex
        rw [h0, decide_eq_true rfl, decide_eq_true rfl, Bool.or_true]
        rfl
      · rw [decide_eq_false ex, decide_eq_false (Ne.symm ex), Bool.or_false, old]
        rfl
    · rw [pk_un ey, old, decide_eq_false (p := b = y) (Ne.symm ey), Bool.and_false]
      rfl
  · rw [e8]
    unfold blA
    by_cases e : i = n
    · rw [e, b1, blS, btwN_self]; rfl
    · rw [b2 i (by omega), g8 i (by omega)]
      unfold blA
      rw [nI_add, blS, nup_s, nup_s, nup_n e, nup_n e, blS_cong (X := nup X n a) (X2 := X) (Y := nup Y n b) (Y2 := Y) n (fun j hj => nup_n (by omega)) (fun j hj => nup_n (by omega))]
  · rw [e8, b3 i (by omega) (by omega)]
    exact g9 i (by omega) h2

