def rm_X5_state : Room := { frames := 0, cells := 0, slots := 0, locals := 0 }
set_option maxHeartbeats 4000000 in
set_option maxRecDepth 100000 in
theorem c_X5_state (l : Launch) (dC : Nat → ClassId) (dI : Nat → Nat → Nat) (cI cZ cJ : ClassId) (w : va_W)  (a0 a1 a2 : Nat) (ha : a2 ≤ 1)   : CtI l (dC, dI) vwCl (tys3 cI cZ cJ) yX5_state wsX5_state rm_X5_state [.int (nI a0), .int (nI a1), .int (nI a2)] (w) (S := Unit) (fun r _ => r = nI ((201 * a0 + a1) * 2 + a2)) (fun _ => w) 0 0 := by
  refine ct_I (cc := cX5_state) (maxL := 3) (ty := .int) (own := RX5) (by decide) rfl rfl (Nat.le_of_ble_eq_true rfl) (lv := [(0, .int (nI a0)), (1, .int (nI a1)), (2, .int (nI a2))]) rfl ?_
  intro p e s m args below meth c A Q ls fx hK hP hD hA hl hret
  obtain ⟨hx, hb, hml, hown, hts⟩ := id fx
  have hS : va_S A s.heap s.heap [] := va_S.rf
  obtain ⟨H, hH⟩ : ∃ H, H = s.heap := ⟨_, rfl⟩
  rw [← hH] at hP ⊢
  have hS : va_S A s.heap H [] := by rw [hH]; exact hS
  generalize ([] : List Loc) = locs at hS ⊢
  refine lv_sipush (v := 201) hx hb dX5_state_0 (by decide) ?_
  refine lv_iload_n hx hb dX5_state_3 rfl (lv_at hl 0 rfl) ?_
  refine lv_imul hx hb dX5_state_4 ?_
  refine lv_topi (fun x_1 ex_1 => ?_)
  obtain rfl : x_1 = nI (201 * a0) := ex_1.trans (pk_mul 201 a0)
  refine lv_iload_n hx hb dX5_state_5 rfl (lv_at hl 1 rfl) ?_
  refine lv_iadd hx hb dX5_state_6 ?_
  refine lv_topi (fun x_2 ex_2 => ?_)
  obtain rfl : x_2 = nI ((201 * a0) + a1) := ex_2.trans (nI_add (201 * a0) a1)
  refine lv_iconst (v := 2) hx hb dX5_state_7 (by decide) ?_
  refine lv_imul hx hb dX5_state_8 ?_
  refine lv_topi (fun x_3 ex_3 => ?_)
  obtain rfl : x_3 = nI (((201 * a0) + a1) * 2) := ex_3.trans (pk_mul ((201 * a0) + a1) 2)
  refine lv_iload_n hx hb dX5_state_9 rfl (lv_at hl 2 rfl) ?_
  refine lv_if_eq (tgt := 17) hx hb dX5_state_10 (by decide) (fun c_4 => ?_) (fun c_4 => ?_)
  · have c_4 : a2 = 0 := (nI_eq (a := a2) (b := 0) (by omega) (by omega)).mp c_4
    refine lv_iconst (v := 0) hx hb dX5_state_17 (by decide) ?_
    refine lv_iadd hx hb dX5_state_18 ?_
    refine lv_topi (fun x_5 ex_5 => ?_)
    obtain rfl : x_5 = nI ((((201 * a0) + a1) * 2) + 0) := ex_5.trans (nI_add (((201 * a0) + a1) * 2) 0)
    exact hret (nI ((((201 * a0) + a1) * 2) + 0)) () H locs 19 ls rfl dX5_state_19 (by first | rw [show a2 = 0 by omega] | rw [show a2 = 1 by omega]) (hP) (hD) hS
  · have c_4 : ¬ a2 = 0 := fun h => c_4 ((nI_eq (a := a2) (b := 0) (by omega) (by omega)).mpr h)
    refine lv_iconst (v := 1) hx hb dX5_state_13 (by decide) ?_
    refine lv_goto (tgt := 18) hx hb dX5_state_14 (by decide) ?_
    refine lv_iadd hx hb dX5_state_18 ?_
    refine lv_topi (fun x_6 ex_6 => ?_)
    obtain rfl : x_6 = nI ((((201 * a0) + a1) * 2) + 1) := ex_6.trans (nI_add (((201 * a0) + a1) * 2) 1)
    exact hret (nI ((((201 * a0) + a1) * 2) + 1)) () H locs 19 ls rfl dX5_state_19 (by first | rw [show a2 = 0 by omega] | rw [show a2 = 1 by omega]) (hP) (hD) hS
def rm_X5_takes : Room := { frames := 0, cells := 0, slots := 0, locals := 0 }
set_option maxHeartbeats 4000000 in
set_option maxRecDepth 100000 in
theorem c_X5_takes (l : Launch) (dC : Nat → ClassId) (dI : Nat → Nat → Nat) (cI cZ cJ : ClassId) (w : va_W)  (a0 : Nat) (ha : a0 ≤ 1)   : CtI l (dC, dI) vwCl (tys3 cI cZ cJ) yX5_takes wsX5_takes rm_X5_takes [.int (nI a0)] (w) (S := Unit) (fun r _ => r = nI (7 - 2 * a0)) (fun _ => w) 0 0 := by
  refine ct_I (cc := cX5_takes) (maxL := 1) (ty := .int) (own := RX5) (by decide) rfl rfl (Nat.le_of_ble_eq_true rfl) (lv := [(0, .int (nI a0))]) rfl ?_
  intro p e s m args below meth c A Q ls fx hK hP hD hA hl hret
  obtain ⟨hx, hb, hml, hown, hts⟩ := id fx
  have hS : va_S A s.heap s.heap [] := va_S.rf
  obtain ⟨H, hH⟩ : ∃ H, H = s.heap := ⟨_, rfl⟩
  rw [← hH] at hP ⊢
  have hS : va_S A s.heap H [] := by rw [hH]; exact hS
  generalize ([] : List Loc) = locs at hS ⊢
  refine lv_iload_n hx hb dX5_takes_0 rfl (lv_at hl 0 rfl) ?_
  refine lv_if_eq (tgt := 8) hx hb dX5_takes_1 (by decide) (fun c_1 => ?_) (fun c_1 => ?_)
  · have c_1 : a0 = 0 := (nI_eq (a := a0) (b := 0) (by omega) (by omega)).mp c_1
    refine lv_bipush (v := 7) hx hb dX5_takes_8 (by decide) ?_
    exact hret 7 () H locs 10 ls rfl dX5_takes_10 (by rw [show a0 = 0 by omega]; rfl) (hP) (hD) hS
  · have c_1 : ¬ a0 = 0 := fun h => c_1 ((nI_eq (a := a0) (b := 0) (by omega) (by omega)).mpr h)
    refine lv_iconst (v := 5) hx hb dX5_takes_4 (by decide) ?_
    refine lv_goto (tgt := 10) hx hb dX5_takes_5 (by decide) ?_
    exact hret 5 () H locs 10 ls rfl dX5_takes_10 (by rw [show a0 = 1 by omega]; rfl) (hP) (hD) hS
def rm_X5_filled : Room := { frames := 1, cells := 0, slots := 0, locals := 13 }
set_option maxHeartbeats 4000000 in
set_option maxRecDepth 100000 in
theorem c_X5_filled (l : Launch) (dC : Nat → ClassId) (dI : Nat → Nat → Nat) (cI cZ cJ : ClassId) (w : va_W)  (a0 a1 : Nat) (ha : a0 + a1 < 1000000)   : CtI l (dC, dI) vwCl (tys3 cI cZ cJ) yX5_filled wsX5_filled rm_X5_filled [.int (nI a0), .int (nI a1)] (w) (S := Unit) (fun r _ => r = nI (min 200 (a0 + a1))) (fun _ => w) 0 0 := by
  refine ct_I (cc := cX5_filled) (maxL := 2) (ty := .int) (own := RX5) (by decide) rfl rfl (Nat.le_of_ble_eq_true rfl) (lv := [(0, .int (nI a0)), (1, .int (nI a1))]) rfl ?_
  intro p e s m args below meth c A Q ls fx hK hP hD hA hl hret
  obtain ⟨hx, hb, hml, hown, hts⟩ := id fx
  have hS : va_S A s.heap s.heap [] := va_S.rf
  have hw0 := hts (.methodLink RX5 129 Lib.Math.min.name) (by decide +kernel)
  have hw1 := hts (.static Lib.Math.min.name) (by decide +kernel)
  have hw2 := hts (.initialized "java/lang/Math") (by decide +kernel)
  have hw3 := hts (.code Lib.Math.min.name Lib.Math.min.code 2 (some .int)) (by decide +kernel)
  obtain ⟨H, hH⟩ : ∃ H, H = s.heap := ⟨_, rfl⟩
  rw [← hH] at hP ⊢
  have hS : va_S A s.heap H [] := by rw [hH]; exact hS
  generalize ([] : List Loc) = locs at hS ⊢
  refine lv_sipush (v := 200) hx hb dX5_filled_0 (by decide) ?_
  refine lv_iload_n hx hb dX5_filled_3 rfl (lv_at hl 0 rfl) ?_
  refine lv_iload_n hx hb dX5_filled_4 rfl (lv_at hl 1 rfl) ?_
  refine lv_iadd hx hb dX5_filled_5 ?_
  refine lv_topi (fun x_1 ex_1 => ?_)
  obtain rfl : x_1 = nI (a0 + a1) := ex_1.trans (nI_add a0 a1)
  refine va_mmin hx hb (hml.trans hl.1.symm) hown hw0 hw1 hw2 hw3 (Nat.le_of_ble_eq_true rfl) (Nat.le_of_ble_eq_true rfl) (Nat.le_of_ble_eq_true rfl) (Nat.le_of_ble_eq_true rfl) dX5_filled_6 ?_
  refine lv_topi (fun x_2 ex_2 => ?_)
  obtain rfl : x_2 = nI (min 200 (a0 + a1)) := ex_2.trans (mm_min (a := 200) (b := a0 + a1) (by omega) (by omega))
  exact hret (nI (min 200 (a0 + a1))) () H locs 9 ls rfl dX5_filled_9 (by first | rfl | (simp []; done) | (exfalso; omega)) (hP) (hD) hS
theorem lg_eq0 {x y : Int64} (h : lg_cmp x y = 0) : x = y := by
  unfold lg_cmp at h
  split at h
  · exact absurd h (by decide)
  · split at h
    · assumption
    · exact absurd h (by decide)
theorem lg_self (x : Int64) : lg_cmp x x = 0 := by
  unfold lg_cmp
  rw [if_neg (fun h => Int64.lt_irrefl h), if_pos rfl]
theorem bits_less {x : Int64} (h : x ≠ 0) : (x &&& (x - 1)).toBitVec.toNat < x.toBitVec.toNat := by
  have h0 : x.toBitVec ≠ 0#64 := fun q => h (Int64.toBitVec_inj.mp q)
  have h1 : x.toBitVec.toNat ≠ 0 := fun q => h0 (BitVec.eq_of_toNat_eq q)
  have h2 : (x - 1).toBitVec.toNat = x.toBitVec.toNat - 1 := by
    rw [Int64.toBitVec_sub]
    have h3 := x.toBitVec.isLt
    rw [BitVec.toNat_sub]
    have h4 : (1 : Int64).toBitVec.toNat = 1 := by decide
    rw [h4]
    omega
  rw [Int64.toBitVec_and, BitVec.toNat_and]
  have h5 : x.toBitVec.toNat &&& (x - 1).toBitVec.toNat ≤ (x - 1).toBitVec.toNat := Nat.and_le_right
  omega
def rm_X5_bits : Room := { frames := 0, cells := 0, slots := 0, locals := 0 }
set_option maxHeartbeats 4000000 in
set_option maxRecDepth 100000 in
theorem c_X5_bits (l : Launch) (dC : Nat → ClassId) (dI : Nat → Nat → Nat) (cI cZ cJ : ClassId) (w : va_W)  (q0 : Int64)   : CtI l (dC, dI) vwCl (tys3 cI cZ cJ) yX5_bits wsX5_bits rm_X5_bits [.long q0] (w) (S := Unit) (fun _ _ => True) (fun _ => w) 0 0 := by
  refine ct_I (cc := cX5_bits) (maxL := 5) (ty := .int) (own := RX5) (by decide) rfl rfl (Nat.le_of_ble_eq_true rfl) (lv := [(0, .long q0)]) rfl ?_
  intro p e s m args below meth c A Q ls fx hK hP hD hA hl hret
  obtain ⟨hx, hb, hml, hown, hts⟩ := id fx
  have hS : va_S A s.heap s.heap [] := va_S.rf
  obtain ⟨H, hH⟩ : ∃ H, H = s.heap := ⟨_, rfl⟩
  rw [← hH] at hP ⊢
  have hS : va_S A s.heap H [] := by rw [hH]; exact hS
  generalize ([] : List Loc) = locs at hS ⊢
  refine lv_iconst (v := 0) hx hb dX5_bits_0 (by decide) ?_
  refine lv_istore_n (lv' := [(2, .int 0), (0, .long q0)]) hx hb dX5_bits_1 rfl hl (by decide) rfl (fun ls hl => ?_)
  refine lv_lload_n hx hb dX5_bits_2 rfl (lv_at hl 1 rfl) ?_
  refine lv_lstore_n (lv' := [(3, .long q0), (2, .int 0), (0, .long q0)]) hx hb dX5_bits_3 rfl hl (by decide) rfl (fun ls hl => ?_)
  have loop4 : ∀ (fu : Nat) (n_ : Int32) (x_ : Int64), (x_.toBitVec.toNat) < fu → ∀ (H : Heap) (locs : List Loc) (ls : Array Slot), va_P (dC, dI) vwCl (w) H → va_D A (w) → va_S A s.heap H locs → lv_has ls 5 [(0, .long q0), (2, .int n_), (3, .long x_)] → W p l e rm_X5_bits s m args below meth c H locs 0 0 Q (F0 m 4 ls []) := by
    intro fu
    induction fu with
    | zero => intro n_ x_  hn_; exact absurd hn_ (Nat.not_lt_zero _)
    | succ fu ih4 =>
      intro n_ x_  hn_ H locs ls hP hD hS hl
      refine lv_lload_n hx hb dX5_bits_4 rfl (lv_at hl 2 rfl) ?_
      refine lv_lconst (v := 0) hx hb dX5_bits_5 (by decide) ?_
      refine W.lcmp hx hb dX5_bits_6 ?_
      refine lv_if_eq (tgt := 22) hx hb dX5_bits_7 (by decide) (fun c_1 => ?_) (fun c_1 => ?_)
      · have c_1 : eqI (lg_cmp x_ 0) 0 = true := decide_eq_true c_1
        refine lv_iload_n hx hb dX5_bits_22 rfl (lv_at hl 1 rfl) ?_
        exact hret n_ () H locs 23 ls rfl dX5_bits_23 (trivial) (hP) (hD) hS
      · have c_1 : eqI (lg_cmp x_ 0) 0 = false := decide_eq_false c_1
        obtain ⟨x_2, ex_2⟩ : ∃ z : Int32, z = n_ + 1 := ⟨_, rfl⟩
        refine lv_iinc (v := x_2) (lv' := [(2, .int x_2), (0, .long q0), (3, .long x_)]) hx hb dX5_bits_10 hl (k := 1) rfl (by rw [ex_2]; rfl) (by decide) rfl (fun ls hl => ?_)
        refine lv_lload_n hx hb dX5_bits_13 rfl (lv_at hl 2 rfl) ?_
        refine lv_lload_n hx hb dX5_bits_14 rfl (lv_at hl 2 rfl) ?_
        refine lv_lconst (v := 1) hx hb dX5_bits_15 (by decide) ?_
        refine lv_lsub hx hb dX5_bits_16 ?_
        refine lv_topl (fun z_3 ez_3 => ?_)
        refine lv_land hx hb dX5_bits_17 ?_
        refine lv_topl (fun z_4 ez_4 => ?_)
        refine lv_lstore_n (lv' := [(3, .long z_4), (2, .int x_2), (0, .long q0)]) hx hb dX5_bits_18 rfl hl (by decide) rfl (fun ls hl => ?_)
        refine lv_goto (tgt := 4) hx hb dX5_bits_19 (by decide) ?_
        exact ih4 x_2 z_4  (Nat.lt_of_lt_of_le (by rw [ez_4, ez_3]; exact bits_less (fun q => (of_decide_eq_false c_1) (by rw [q]; exact lg_self 0))) (Nat.le_of_lt_succ hn_)) H locs ls hP hD hS (lv_sub hl [2, 1, 0] rfl)
  exact loop4 _ 0 q0  (Nat.lt_succ_self _) H locs ls hP hD hS (lv_sub hl [2, 1, 0] rfl)
def rm_X5_agrees : Room := { frames := 1, cells := 0, slots := 0, locals := 24 }
set_option maxHeartbeats 4000000 in
set_option maxRecDepth 100000 in
theorem c_X5_agrees (l : Launch) (dC : Nat → ClassId) (dI : Nat → Nat → Nat) (cI cZ cJ : ClassId) (h : Nat → Nat) (F : Nat → Nat → Int32) (G : Nat → Int64) (V : Nat → Int32) (sh : Nat) (hV11 : V 11 = nI sh) (bV11 : sh ≤ 12) (q0 : Int64)   : CtI l (dC, dI) vwCl (tys3 cI cZ cJ) yX5_agrees wsX5_agrees rm_X5_agrees [.ref (h 0), .long q0] (wM cI cZ cJ h F G V) (S := Unit) (fun r _ => ∃ a, a ≤ 1 ∧ r = nI a) (fun _ => wM cI cZ cJ h F G V) 0 0 := by
  refine ct_I (cc := cX5_agrees) (maxL := 5) (ty := .boolean) (own := RX5) (by decide) rfl rfl (Nat.le_of_ble_eq_true rfl) (lv := [(0, .ref (h 0)), (1, .long q0)]) rfl ?_
  intro p e s m args below meth c A Q ls fx hK hP hD hA hl hret
  obtain ⟨hx, hb, hml, hown, hts⟩ := id fx
  have hS : va_S A s.heap s.heap [] := va_S.rf
  have hw0 := hts (.fieldLink RX5 186 "MirrorTowerModel" "shots" "I") (by decide +kernel)
  have hin_X5 : ∀ w ∈ u_ws RX5 TX5 33, w ∈ wsX5_agrees := by decide +kernel
  have hw2 := hts (.fieldLink RX5 81 "MirrorTowerModel" "shot" "[J") (by decide +kernel)
  have hw3 := hts (.constantLong RX5 184 (-1)) (by decide +kernel)
  have hw4 := hts (.fieldLink RX5 85 "MirrorTowerModel" "hits" "[I") (by decide +kernel)
  obtain ⟨H, hH⟩ : ∃ H, H = s.heap := ⟨_, rfl⟩
  rw [← hH] at hP ⊢
  have hS : va_S A s.heap H [] := by rw [hH]; exact hS
  generalize ([] : List Loc) = locs at hS ⊢
  refine lv_iconst (v := 1) hx hb dX5_agrees_0 (by decide) ?_
  refine lv_istore_n (lv' := [(3, .int 1), (0, .ref (h 0)), (1, .long q0)]) hx hb dX5_agrees_1 rfl hl (by decide) rfl (fun ls hl => ?_)
  refine lv_iconst (v := 0) hx hb dX5_agrees_2 (by decide) ?_
  refine lv_istore (lv' := [(4, .int 0), (3, .int 1), (0, .ref (h 0)), (1, .long q0)]) hx hb dX5_agrees_3 hl (by decide) rfl (fun ls hl => ?_)
  have loop5 : ∀ (fu : Nat) (a : Nat) (k : Nat), (a ≤ 1) → (k ≤ sh) → (sh - k) < fu → ∀ (H : Heap) (locs : List Loc) (ls : Array Slot), va_P (dC, dI) vwCl (wM cI cZ cJ h F G V) H → va_D A (wM cI cZ cJ h F G V) → va_S A s.heap H locs → lv_has ls 5 [(0, .ref (h 0)), (1, .long q0), (3, .int (nI a)), (4, .int (nI k))] → W p l e rm_X5_agrees s m args below meth c H locs 0 0 Q (F0 m 5 ls []) := by
    intro fu
    induction fu with
    | zero => intro a k ha hk hn_; exact absurd hn_ (Nat.not_lt_zero _)
    | succ fu ih5 =>
      intro a k ha hk hn_ H locs ls hP hD hS hl
      refine lv_iload hx hb dX5_agrees_5 (lv_at hl 3 rfl) ?_
      refine lv_aload_n hx hb dX5_agrees_7 rfl (lv_at hl 0 rfl) ?_
      refine va_get (D := (dC, dI)) (ci := 5) (v := .int (V 11)) (C := RX5) (T := TX5) (N := 33) hx hb hts hin_X5 hown hK hP 0 rfl rfl 31 (by decide) hw0 (fun _ h9 => h9) rfl dX5_agrees_8 ?_
      refine lv_topi (fun x_1 ex_1 => ?_)
      obtain rfl : x_1 = nI sh := ex_1.trans (hV11)
      refine lv_icmp_ge (tgt := 56) hx hb dX5_agrees_11 (by decide) (fun c_2 => ?_) (fun c_2 => ?_)
      · have c_2 : sh ≤ k := (nI_leI (a := sh) (b := k) (by omega) (by omega)).mp c_2
        refine lv_iload_n hx hb dX5_agrees_56 rfl (lv_at hl 2 rfl) ?_
        exact hret (nI a) () H locs 57 ls (nz_narrow (by omega)) dX5_agrees_57 (⟨a, ha, rfl⟩) (hP) (hD) hS
      · have c_2 : ¬ sh ≤ k := fun h => c_2 ((nI_leI (a := sh) (b := k) (by omega) (by omega)).mpr h)
        refine lv_iload_n hx hb dX5_agrees_14 rfl (lv_at hl 2 rfl) ?_
        refine lv_if_eq (tgt := 48) hx hb dX5_agrees_15 (by decide) (fun c_3 => ?_) (fun c_3 => ?_)
        · have c_3 : a = 0 := (nI_eq (a := a) (b := 0) (by omega) (by omega)).mp c_3
          refine lv_iconst (v := 0) hx hb dX5_agrees_48 (by decide) ?_
          refine lv_istore_n (lv' := [(3, .int 0), (0, .ref (h 0)), (1, .long q0), (4, .int (nI k))]) hx hb dX5_agrees_49 rfl hl (by decide) rfl (fun ls hl => ?_)
          refine lv_iinc (v := nI (k + 1)) (lv' := [(4, .int (nI (k + 1))), (3, .int 0), (0, .ref (h 0)), (1, .long q0)]) hx hb dX5_agrees_50 hl (k := 3) rfl (nI_1 _) (by decide) rfl (fun ls hl => ?_)
          refine lv_goto (tgt := 5) hx hb dX5_agrees_53 (by decide) ?_
          exact ih5 0 (k + 1) (by omega) (by omega) (by omega) H locs ls hP hD hS (lv_sub hl [2, 3, 1, 0] rfl)
        · have c_3 : ¬ a = 0 := fun h => c_3 ((nI_eq (a := a) (b := 0) (by omega) (by omega)).mpr h)
          refine lv_aload_n hx hb dX5_agrees_18 rfl (lv_at hl 0 rfl) ?_
          refine va_get (D := (dC, dI)) (ci := 5) (v := .ref (h 19)) (C := RX5) (T := TX5) (N := 33) hx hb hts hin_X5 hown hK hP 0 rfl rfl 29 (by decide) hw2 (fun _ h9 => h9) rfl dX5_agrees_19 ?_
          refine lv_iload hx hb dX5_agrees_22 (lv_at hl 3 rfl) ?_
          refine va_lald hx hb hK hP 19 2 rfl rfl (vp_in_nI (n := k) (N := 12) (by omega) (by decide)) dX5_agrees_24 ?_
          refine lv_lload_n hx hb dX5_agrees_25 rfl (lv_at hl 1 rfl) ?_
          refine lv_ldc2 hx hb hown hw3 dX5_agrees_26 ?_
          refine lv_lxor hx hb dX5_agrees_29 ?_
          refine lv_topl (fun z_4 ez_4 => ?_)
          refine lv_land hx hb dX5_agrees_30 ?_
          refine lv_topl (fun z_5 ez_5 => ?_)
          refine cw_Si (As := [.long z_5]) (rest := []) (c_X5_bits l dC dI cI cZ cJ (wM cI cZ cJ h F G V) z_5) fx (va_cwS 1 hts gX5_agrees_X5_bits rfl rfl rfl (by decide +kernel) ⟨Nat.le_of_ble_eq_true rfl, Nat.le_of_ble_eq_true rfl⟩) hK hP hD hS hA rfl hl.1 rfl (Nat.le_of_ble_eq_true rfl) dX5_agrees_31 ⟨Nat.le_of_ble_eq_true rfl, Nat.le_of_ble_eq_true rfl⟩ (fun r_6 u_7 H locs hw_8 hP hD hS => ?_)
          have hP : va_P (dC, dI) vwCl (wM cI cZ cJ h F G V) H := hP
          have hD : va_D A (wM cI cZ cJ h F G V) := hD
          refine lv_aload_n hx hb dX5_agrees_34 rfl (lv_at hl 0 rfl) ?_
          refine va_get (D := (dC, dI)) (ci := 5) (v := .ref (h 20)) (C := RX5) (T := TX5) (N := 33) hx hb hts hin_X5 hown hK hP 0 rfl rfl 30 (by decide) hw4 (fun _ h9 => h9) rfl dX5_agrees_35 ?_
          refine lv_iload hx hb dX5_agrees_38 (lv_at hl 3 rfl) ?_
          refine va_iald hx hb hK hP 20 0 rfl rfl (vp_in_nI (n := k) (N := 12) (by omega) (by decide)) dX5_agrees_40 ?_
          refine lv_topi (fun x_9 ex_9 => ?_)
          rw [nI_clamp (n := k) (by omega)] at ex_9
          refine lv_icmp_ne (tgt := 48) hx hb dX5_agrees_41 (by decide) (fun c_10 => ?_) (fun c_10 => ?_)
          · have c_10 : eqI r_6 x_9 = false := decide_eq_false c_10
            refine lv_iconst (v := 0) hx hb dX5_agrees_48 (by decide) ?_
            refine lv_istore_n (lv' := [(3, .int 0), (0, .ref (h 0)), (1, .long q0), (4, .int (nI k))]) hx hb dX5_agrees_49 rfl hl (by decide) rfl (fun ls hl => ?_)
            refine lv_iinc (v := nI (k + 1)) (lv' := [(4, .int (nI (k + 1))), (3, .int 0), (0, .ref (h 0)), (1, .long q0)]) hx hb dX5_agrees_50 hl (k := 3) rfl (nI_1 _) (by decide) rfl (fun ls hl => ?_)
            refine lv_goto (tgt := 5) hx hb dX5_agrees_53 (by decide) ?_
            exact ih5 0 (k + 1) (by omega) (by omega) (by omega) H locs ls hP hD hS (lv_sub hl [2, 3, 1, 0] rfl)
          · have c_10 : eqI r_6 x_9 = true := decide_eq_true c_10
            refine lv_iconst (v := 1) hx hb dX5_agrees_44 (by decide) ?_
            refine lv_goto (tgt := 49) hx hb dX5_agrees_45 (by decide) ?_
            refine lv_istore_n (lv' := [(3, .int 1), (0, .ref (h 0)), (1, .long q0), (4, .int (nI k))]) hx hb dX5_agrees_49 rfl hl (by decide) rfl (fun ls hl => ?_)
            refine lv_iinc (v := nI (k + 1)) (lv' := [(4, .int (nI (k + 1))), (3, .int 1), (0, .ref (h 0)), (1, .long q0)]) hx hb dX5_agrees_50 hl (k := 3) rfl (nI_1 _) (by decide) rfl (fun ls hl => ?_)
            refine lv_goto (tgt := 5) hx hb dX5_agrees_53 (by decide) ?_
            exact ih5 1 (k + 1) (by omega) (by omega) (by omega) H locs ls hP hD hS (lv_sub hl [2, 3, 1, 0] rfl)
  exact loop5 _ 1 0 (by omega) (by omega) (Nat.lt_succ_self _) H locs ls hP hD hS (lv_sub hl [2, 3, 1, 0] rfl)
def rm_X5_agreeing : Room := { frames := 2, cells := 0, slots := 0, locals := 48 }
set_option maxHeartbeats 4000000 in
set_option maxRecDepth 100000 in
theorem c_X5_agreeing (l : Launch) (dC : Nat → ClassId) (dI : Nat → Nat → Nat) (cI cZ cJ : ClassId) (h : Nat → Nat) (F : Nat → Nat → Int32) (G : Nat → Int64) (V : Nat → Int32) (n : Nat) (hV2 : V 2 = nI n) (bV2 : n ≤ 40) (sh : Nat) (hV11 : V 11 = nI sh) (bV11 : sh ≤ 12)    : CtI l (dC, dI) vwCl (tys3 cI cZ cJ) yX5_agreeing wsX5_agreeing rm_X5_agreeing [.ref (h 0)] (wM cI cZ cJ h F G V) (S := Nat → Nat → Int32) (fun r u => (True) ∧ (∀ j, j ∉ ([21] : List Nat) → u j = F j) ∧ (True)) (fun u => wM cI cZ cJ h u G V) 0 0 := by
  refine ct_I (cc := cX5_agreeing) (maxL := 4) (ty := .int) (own := RX5) (by decide) rfl rfl (Nat.le_of_ble_eq_true rfl) (lv := [(0, .ref (h 0))]) rfl ?_
  intro p e s m args below meth c A Q ls fx hK hP hD hA hl hret
  obtain ⟨hx, hb, hml, hown, hts⟩ := id fx
  have hS : va_S A s.heap s.heap [] := va_S.rf
  have hw0 := hts (.fieldLink RX5 91 "MirrorTowerModel" "mirrors" "I") (by decide +kernel)
  have hin_X5 : ∀ w ∈ u_ws RX5 TX5 33, w ∈ wsX5_agreeing := by decide +kernel
  have hw2 := hts (.fieldLink RX5 88 "MirrorTowerModel" "inSets" "[I") (by decide +kernel)
  obtain ⟨H, hH⟩ : ∃ H, H = s.heap := ⟨_, rfl⟩
  rw [← hH] at hP ⊢
  have hS : va_S A s.heap H [] := by rw [hH]; exact hS
  generalize ([] : List Loc) = locs at hS ⊢
  refine lv_iconst (v := 0) hx hb dX5_agreeing_0 (by decide) ?_
  refine lv_istore_n (lv' := [(1, .int 0), (0, .ref (h 0))]) hx hb dX5_agreeing_1 rfl hl (by decide) rfl (fun ls hl => ?_)
  have loop2 : ∀ (fu : Nat) (k : Nat) (F1 : Nat → Nat → Int32), (k ≤ 40) → (∀ j, j ∉ ([21] : List Nat) → F1 j = F j) → (40 - k) < fu → ∀ (H : Heap) (locs : List Loc) (ls : Array Slot), va_P (dC, dI) vwCl (wM cI cZ cJ h F1 G V) H → va_D A (wM cI cZ cJ h F1 G V) → va_S A s.heap H locs → lv_has ls 4 [(0, .ref (h 0)), (1, .int (nI k))] → W p l e rm_X5_agreeing s m args below meth c H locs 0 0 Q (F0 m 2 ls []) := by
    intro fu
    induction fu with
    | zero => intro k F1 hk hfr hn_; exact absurd hn_ (Nat.not_lt_zero _)
    | succ fu ih2 =>
      intro k F1 hk hfr hn_ H locs ls hP hD hS hl
      refine lv_iload_n hx hb dX5_agreeing_2 rfl (lv_at hl 1 rfl) ?_
      refine lv_bipush (v := 40) hx hb dX5_agreeing_3 (by decide) ?_
      refine lv_icmp_ge (tgt := 21) hx hb dX5_agreeing_5 (by decide) (fun c_1 => ?_) (fun c_1 => ?_)
      · have c_1 : 40 ≤ k := (nI_leI (a := 40) (b := k) (by omega) (by omega)).mp c_1
        refine lv_aload_n hx hb dX5_agreeing_21 rfl (lv_at hl 0 rfl) ?_
        refine lv_lconst (v := 0) hx hb dX5_agreeing_22 (by decide) ?_
        refine cw_Vi (As := [.long 0]) (rest := []) (c_X5_agrees l dC dI cI cZ cJ h F1 G V sh hV11 (by omega) 0) fx (cwV 1 hts gX5_agreeing_X5_agrees rfl rfl rfl (by decide +kernel) ⟨Nat.le_of_ble_eq_true rfl, Nat.le_of_ble_eq_true rfl⟩) hK hP hD hS hA 0 rfl rfl rfl rfl hl.1 rfl (Nat.le_of_ble_eq_true rfl) dX5_agreeing_23 ⟨Nat.le_of_ble_eq_true rfl, Nat.le_of_ble_eq_true rfl⟩ (fun r_2 u_3 H locs hw_4 hP hD hS => ?_)
        have hP : va_P (dC, dI) vwCl (wM cI cZ cJ h F1 G V) H := hP
        have hD : va_D A (wM cI cZ cJ h F1 G V) := hD
        obtain ⟨ag_5, hag_5, eag_5⟩ := hw_4
        subst eag_5
        refine lv_if_eq (tgt := 33) hx hb dX5_agreeing_26 (by decide) (fun c_6 => ?_) (fun c_6 => ?_)
        · have c_6 : ag_5 = 0 := (nI_eq (a := ag_5) (b := 0) (by omega) (by omega)).mp c_6
          refine lv_iconst (v := 0) hx hb dX5_agreeing_33 (by decide) ?_
          refine lv_istore_n (lv' := [(1, .int 0), (0, .ref (h 0))]) hx hb dX5_agreeing_34 rfl hl (by decide) rfl (fun ls hl => ?_)
          refine lv_iconst (v := 0) hx hb dX5_agreeing_35 (by decide) ?_
          refine lv_istore_n (lv' := [(2, .int 0), (1, .int 0), (0, .ref (h 0))]) hx hb dX5_agreeing_36 rfl hl (by decide) rfl (fun ls hl => ?_)
          have loop37 : ∀ (fu : Nat) (x : Int32) (a : Nat) (F2 : Nat → Nat → Int32), (a ≤ n) → (∀ j, j ∉ ([21] : List Nat) → F2 j = F j) → (n - a) < fu → ∀ (H : Heap) (locs : List Loc) (ls : Array Slot), va_P (dC, dI) vwCl (wM cI cZ cJ h F2 G V) H → va_D A (wM cI cZ cJ h F2 G V) → va_S A s.heap H locs → lv_has ls 4 [(0, .ref (h 0)), (1, .int x), (2, .int (nI a))] → W p l e rm_X5_agreeing s m args below meth c H locs 0 0 Q (F0 m 37 ls []) := by
            intro fu
            induction fu with
            | zero => intro x a F2 ha hfr2 hn_; exact absurd hn_ (Nat.not_lt_zero _)
            | succ fu ih37 =>
              intro x a F2 ha hfr2 hn_ H locs ls hP hD hS hl
              refine lv_iload_n hx hb dX5_agreeing_37 rfl (lv_at hl 2 rfl) ?_
              refine lv_aload_n hx hb dX5_agreeing_38 rfl (lv_at hl 0 rfl) ?_
              refine va_get (D := (dC, dI)) (ci := 5) (v := .int (V 2)) (C := RX5) (T := TX5) (N := 33) hx hb hts hin_X5 hown hK hP 0 rfl rfl 2 (by decide) hw0 (fun _ h9 => h9) rfl dX5_agreeing_39 ?_
              refine lv_topi (fun x_7 ex_7 => ?_)
              obtain rfl : x_7 = nI n := ex_7.trans (hV2)
              refine lv_icmp_ge (tgt := 112) hx hb dX5_agreeing_42 (by decide) (fun c_8 => ?_) (fun c_8 => ?_)
              · have c_8 : n ≤ a := (nI_leI (a := n) (b := a) (by omega) (by omega)).mp c_8
                refine lv_iload_n hx hb dX5_agreeing_112 rfl (lv_at hl 1 rfl) ?_
                exact hret x F2 H locs 113 ls rfl dX5_agreeing_113 (⟨trivial, hfr2, trivial⟩) (hP) (hD) hS
              · have c_8 : ¬ n ≤ a := fun h => c_8 ((nI_leI (a := n) (b := a) (by omega) (by omega)).mpr h)
                refine lv_iload_n hx hb dX5_agreeing_45 rfl (lv_at hl 2 rfl) ?_
                refine lv_istore_n (lv' := [(3, .int (nI a)), (0, .ref (h 0)), (1, .int x), (2, .int (nI a))]) hx hb dX5_agreeing_46 rfl hl (by decide) rfl (fun ls hl => ?_)
                have loop47 : ∀ (fu : Nat) (x3 : Int32) (b : Nat) (F3 : Nat → Nat → Int32), (b ≤ n) → (a ≤ b) → (∀ j, j ∉ ([21] : List Nat) → F3 j = F j) → (n - b) < fu → ∀ (H : Heap) (locs : List Loc) (ls : Array Slot), va_P (dC, dI) vwCl (wM cI cZ cJ h F3 G V) H → va_D A (wM cI cZ cJ h F3 G V) → va_S A s.heap H locs → lv_has ls 4 [(0, .ref (h 0)), (1, .int x3), (2, .int (nI a)), (3, .int (nI b))] → W p l e rm_X5_agreeing s m args below meth c H locs 0 0 Q (F0 m 47 ls []) := by
                  intro fu
                  induction fu with
                  | zero => intro x3 b F3 hb_ hb2 hfr3 hn_; exact absurd hn_ (Nat.not_lt_zero _)
                  | succ fu ih47 =>
                    intro x3 b F3 hb_ hb2 hfr3 hn_ H locs ls hP hD hS hl
                    refine lv_iload_n hx hb dX5_agreeing_47 rfl (lv_at hl 3 rfl) ?_
                    refine lv_aload_n hx hb dX5_agreeing_48 rfl (lv_at hl 0 rfl) ?_
                    refine va_get (D := (dC, dI)) (ci := 5) (v := .int (V 2)) (C := RX5) (T := TX5) (N := 33) hx hb hts hin_X5 hown hK hP 0 rfl rfl 2 (by decide) hw0 (fun _ h9 => h9) rfl dX5_agreeing_49 ?_
                    refine lv_topi (fun x_9 ex_9 => ?_)
                    obtain rfl : x_9 = nI n := ex_9.trans (hV2)
                    refine lv_icmp_ge (tgt := 106) hx hb dX5_agreeing_52 (by decide) (fun c_10 => ?_) (fun c_10 => ?_)
                    · have c_10 : n ≤ b := (nI_leI (a := n) (b := b) (by omega) (by omega)).mp c_10
                      refine lv_iinc (v := nI (a + 1)) (lv' := [(2, .int (nI (a + 1))), (0, .ref (h 0)), (1, .int x3), (3, .int (nI b))]) hx hb dX5_agreeing_106 hl (k := 2) rfl (nI_1 _) (by decide) rfl (fun ls hl => ?_)
                      refine lv_goto (tgt := 37) hx hb dX5_agreeing_109 (by decide) ?_
                      exact ih37 x3 (a + 1) F3 (by omega) (fun j hj => (hfr3 j hj)) (by omega) H locs ls hP hD hS (lv_sub hl [1, 2, 0] rfl)
                    · have c_10 : ¬ n ≤ b := fun h => c_10 ((nI_leI (a := n) (b := b) (by omega) (by omega)).mpr h)
                      refine lv_aload_n hx hb dX5_agreeing_55 rfl (lv_at hl 0 rfl) ?_
                      refine lv_lconst (v := 1) hx hb dX5_agreeing_56 (by decide) ?_
                      refine lv_iload_n hx hb dX5_agreeing_57 rfl (lv_at hl 2 rfl) ?_
                      refine lv_lshl hx hb dX5_agreeing_58 rfl ?_
                      refine lv_topl (fun z_11 ez_11 => ?_)
                      refine lv_lconst (v := 1) hx hb dX5_agreeing_59 (by decide) ?_
                      refine lv_iload_n hx hb dX5_agreeing_60 rfl (lv_at hl 3 rfl) ?_
                      refine lv_lshl hx hb dX5_agreeing_61 rfl ?_
                      refine lv_topl (fun z_12 ez_12 => ?_)
                      refine lv_lor hx hb dX5_agreeing_62 ?_
                      refine lv_topl (fun z_13 ez_13 => ?_)
                      refine cw_Vi (As := [.long z_13]) (rest := []) (c_X5_agrees l dC dI cI cZ cJ h F3 G V sh hV11 (by omega) z_13) fx (cwV 1 hts gX5_agreeing_X5_agrees rfl rfl rfl (by decide +kernel) ⟨Nat.le_of_ble_eq_true rfl, Nat.le_of_ble_eq_true rfl⟩) hK hP hD hS hA 0 rfl rfl rfl rfl hl.1 rfl (Nat.le_of_ble_eq_true rfl) dX5_agreeing_63 ⟨Nat.le_of_ble_eq_true rfl, Nat.le_of_ble_eq_true rfl⟩ (fun r_14 u_15 H locs hw_16 hP hD hS => ?_)
                      have hP : va_P (dC, dI) vwCl (wM cI cZ cJ h F3 G V) H := hP
                      have hD : va_D A (wM cI cZ cJ h F3 G V) := hD
                      obtain ⟨ag_17, hag_17, eag_17⟩ := hw_16
                      subst eag_17
                      refine lv_if_ne (tgt := 72) hx hb dX5_agreeing_66 (by decide) (fun c_18 => ?_) (fun c_18 => ?_)
                      · have c_18 : ¬ ag_17 = 0 := fun h => c_18 ((nI_eq (a := ag_17) (b := 0) (by omega) (by omega)).mpr h)
                        obtain ⟨x_19, ex_19⟩ : ∃ z : Int32, z = x3 + 1 := ⟨_, rfl⟩
                        refine lv_iinc (v := x_19) (lv' := [(1, .int x_19), (0, .ref (h 0)), (2, .int (nI a)), (3, .int (nI b))]) hx hb dX5_agreeing_72 hl (k := 1) rfl (by rw [ex_19]; rfl) (by decide) rfl (fun ls hl => ?_)
                        refine lv_aload_n hx hb dX5_agreeing_75 rfl (lv_at hl 1 rfl) ?_
                        refine va_get (D := (dC, dI)) (ci := 5) (v := .ref (h 21)) (C := RX5) (T := TX5) (N := 33) hx hb hts hin_X5 hown hK hP 0 rfl rfl 32 (by decide) hw2 (fun _ h9 => h9) rfl dX5_agreeing_76 ?_
                        refine lv_iload_n hx hb dX5_agreeing_79 rfl (lv_at hl 2 rfl) ?_
                        refine lv_dup2_11 hx hb dX5_agreeing_80 rfl rfl ?_
                        refine va_iald hx hb hK hP 21 0 rfl rfl (vp_in_nI (n := a) (N := 40) (by omega) (by decide)) dX5_agreeing_81 ?_
                        refine lv_topi (fun x_20 ex_20 => ?_)
                        rw [nI_clamp (n := a) (by omega)] at ex_20
                        refine lv_iconst (v := 1) hx hb dX5_agreeing_82 (by decide) ?_
                        refine lv_iadd hx hb dX5_agreeing_83 ?_
                        refine va_iast hx hb hK hP hD hS 21 0 rfl rfl (vp_in_nI (n := a) (N := 40) (by omega) (by decide)) dX5_agreeing_84 (fun H locs hP hD hS => ?_)
                        obtain ⟨F_21, eF_21⟩ : ∃ z : Nat → Nat → Int32, z = va_up F3 21 (upd (F3 21) (nI a).toNatClampNeg (x_20 + 1)) := ⟨_, rfl⟩
                        have hP : va_P (dC, dI) vwCl (wM cI cZ cJ h F_21 G V) H := by rw [eF_21]; exact hP
                        have hD : va_D A (wM cI cZ cJ h F_21 G V) := by rw [eF_21]; exact hD
                        refine lv_iload_n hx hb dX5_agreeing_85 rfl (lv_at hl 3 rfl) ?_
                        refine lv_iload_n hx hb dX5_agreeing_86 rfl (lv_at hl 2 rfl) ?_
                        refine lv_icmp_le (tgt := 100) hx hb dX5_agreeing_87 (by decide) (fun c_22 => ?_) (fun c_22 => ?_)
                        · have c_22 : b ≤ a := (nI_leI (a := b) (b := a) (by omega) (by omega)).mp c_22
                          refine lv_iinc (v := nI (b + 1)) (lv' := [(3, .int (nI (b + 1))), (1, .int x_19), (0, .ref (h 0)), (2, .int (nI a))]) hx hb dX5_agreeing_100 hl (k := 3) rfl (nI_1 _) (by decide) rfl (fun ls hl => ?_)
                          refine lv_goto (tgt := 47) hx hb dX5_agreeing_103 (by decide) ?_
                          exact ih47 x_19 (b + 1) F_21 (by omega) (by omega) (fun j hj => ((va_ne eF_21 (fun h => hj (by rw [h]; decide))).trans (hfr3 j hj))) (by omega) H locs ls hP hD hS (lv_sub hl [2, 1, 3, 0] rfl)
                        · have c_22 : ¬ b ≤ a := fun h => c_22 ((nI_leI (a := b) (b := a) (by omega) (by omega)).mpr h)
                          refine lv_aload_n hx hb dX5_agreeing_90 rfl (lv_at hl 1 rfl) ?_
                          refine va_get (D := (dC, dI)) (ci := 5) (v := .ref (h 21)) (C := RX5) (T := TX5) (N := 33) hx hb hts hin_X5 hown hK hP 0 rfl rfl 32 (by decide) hw2 (fun _ h9 => h9) rfl dX5_agreeing_91 ?_
                          refine lv_iload_n hx hb dX5_agreeing_94 rfl (lv_at hl 3 rfl) ?_
                          refine lv_dup2_11 hx hb dX5_agreeing_95 rfl rfl ?_
                          refine va_iald hx hb hK hP 21 0 rfl rfl (vp_in_nI (n := b) (N := 40) (by omega) (by decide)) dX5_agreeing_96 ?_
                          refine lv_topi (fun x_23 ex_23 => ?_)
                          rw [nI_clamp (n := b) (by omega)] at ex_23
                          refine lv_iconst (v := 1) hx hb dX5_agreeing_97 (by decide) ?_
                          refine lv_iadd hx hb dX5_agreeing_98 ?_
                          refine va_iast hx hb hK hP hD hS 21 0 rfl rfl (vp_in_nI (n := b) (N := 40) (by omega) (by decide)) dX5_agreeing_99 (fun H locs hP hD hS => ?_)
                          obtain ⟨F_24, eF_24⟩ : ∃ z : Nat → Nat → Int32, z = va_up F_21 21 (upd (F_21 21) (nI b).toNatClampNeg (x_23 + 1)) := ⟨_, rfl⟩
                          have hP : va_P (dC, dI) vwCl (wM cI cZ cJ h F_24 G V) H := by rw [eF_24]; exact hP
                          have hD : va_D A (wM cI cZ cJ h F_24 G V) := by rw [eF_24]; exact hD
                          refine lv_iinc (v := nI (b + 1)) (lv' := [(3, .int (nI (b + 1))), (1, .int x_19), (0, .ref (h 0)), (2, .int (nI a))]) hx hb dX5_agreeing_100 hl (k := 3) rfl (nI_1 _) (by decide) rfl (fun ls hl => ?_)
                          refine lv_goto (tgt := 47) hx hb dX5_agreeing_103 (by decide) ?_
                          exact ih47 x_19 (b + 1) F_24 (by omega) (by omega) (fun j hj => ((va_ne eF_24 (fun h => hj (by rw [h]; decide))).trans ((va_ne eF_21 (fun h => hj (by rw [h]; decide))).trans (hfr3 j hj)))) (by omega) H locs ls hP hD hS (lv_sub hl [2, 1, 3, 0] rfl)
                      · have c_18 : ag_17 = 0 := (nI_eq (a := ag_17) (b := 0) (by omega) (by omega)).mp c_18
                        refine lv_goto (tgt := 100) hx hb dX5_agreeing_69 (by decide) ?_
                        refine lv_iinc (v := nI (b + 1)) (lv' := [(3, .int (nI (b + 1))), (0, .ref (h 0)), (1, .int x3), (2, .int (nI a))]) hx hb dX5_agreeing_100 hl (k := 3) rfl (nI_1 _) (by decide) rfl (fun ls hl => ?_)
                        refine lv_goto (tgt := 47) hx hb dX5_agreeing_103 (by decide) ?_
                        exact ih47 x3 (b + 1) F3 (by omega) (by omega) (fun j hj => (hfr3 j hj)) (by omega) H locs ls hP hD hS (lv_sub hl [1, 2, 3, 0] rfl)
                exact loop47 _ x a F2 (by omega) (by omega) (fun j hj => (hfr2 j hj)) (Nat.lt_succ_self _) H locs ls hP hD hS (lv_sub hl [1, 2, 3, 0] rfl)
          exact loop37 _ 0 0 F1 (by omega) (fun j hj => (hfr j hj)) (Nat.lt_succ_self _) H locs ls hP hD hS (lv_sub hl [2, 1, 0] rfl)
        · have c_6 : ¬ ag_5 = 0 := fun h => c_6 ((nI_eq (a := ag_5) (b := 0) (by omega) (by omega)).mpr h)
          refine lv_iconst (v := 1) hx hb dX5_agreeing_29 (by decide) ?_
          refine lv_goto (tgt := 34) hx hb dX5_agreeing_30 (by decide) ?_
          refine lv_istore_n (lv' := [(1, .int 1), (0, .ref (h 0))]) hx hb dX5_agreeing_34 rfl hl (by decide) rfl (fun ls hl => ?_)
          refine lv_iconst (v := 0) hx hb dX5_agreeing_35 (by decide) ?_
          refine lv_istore_n (lv' := [(2, .int 0), (1, .int 1), (0, .ref (h 0))]) hx hb dX5_agreeing_36 rfl hl (by decide) rfl (fun ls hl => ?_)
          have loop37 : ∀ (fu : Nat) (x : Int32) (a : Nat) (F2 : Nat → Nat → Int32), (a ≤ n) → (∀ j, j ∉ ([21] : List Nat) → F2 j = F j) → (n - a) < fu → ∀ (H : Heap) (locs : List Loc) (ls : Array Slot), va_P (dC, dI) vwCl (wM cI cZ cJ h F2 G V) H → va_D A (wM cI cZ cJ h F2 G V) → va_S A s.heap H locs → lv_has ls 4 [(0, .ref (h 0)), (1, .int x), (2, .int (nI a))] → W p l e rm_X5_agreeing s m args below meth c H locs 0 0 Q (F0 m 37 ls []) := by
            intro fu
            induction fu with
            | zero => intro x a F2 ha hfr2 hn_; exact absurd hn_ (Nat.not_lt_zero _)
            | succ fu ih37 =>
              intro x a F2 ha hfr2 hn_ H locs ls hP hD hS hl
              refine lv_iload_n hx hb dX5_agreeing_37 rfl (lv_at hl 2 rfl) ?_
              refine lv_aload_n hx hb dX5_agreeing_38 rfl (lv_at hl 0 rfl) ?_
              refine va_get (D := (dC, dI)) (ci := 5) (v := .int (V 2)) (C := RX5) (T := TX5) (N := 33) hx hb hts hin_X5 hown hK hP 0 rfl rfl 2 (by decide) hw0 (fun _ h9 => h9) rfl dX5_agreeing_39 ?_
              refine lv_topi (fun x_25 ex_25 => ?_)
              obtain rfl : x_25 = nI n := ex_25.trans (hV2)
              refine lv_icmp_ge (tgt := 112) hx hb dX5_agreeing_42 (by decide) (fun c_26 => ?_) (fun c_26 => ?_)
              · have c_26 : n ≤ a := (nI_leI (a := n) (b := a) (by omega) (by omega)).mp c_26
                refine lv_iload_n hx hb dX5_agreeing_112 rfl (lv_at hl 1 rfl) ?_
                exact hret x F2 H locs 113 ls rfl dX5_agreeing_113 (⟨trivial, hfr2, trivial⟩) (hP) (hD) hS
              · have c_26 : ¬ n ≤ a := fun h => c_26 ((nI_leI (a := n) (b := a) (by omega) (by omega)).mpr h)
                refine lv_iload_n hx hb dX5_agreeing_45 rfl (lv_at hl 2 rfl) ?_
                refine lv_istore_n (lv' := [(3, .int (nI a)), (0, .ref (h 0)), (1, .int x), (2, .int (nI a))]) hx hb dX5_agreeing_46 rfl hl (by decide) rfl (fun ls hl => ?_)
                have loop47 : ∀ (fu : Nat) (x3 : Int32) (b : Nat) (F3 : Nat → Nat → Int32), (b ≤ n) → (a ≤ b) → (∀ j, j ∉ ([21] : List Nat) → F3 j = F j) → (n - b) < fu → ∀ (H : Heap) (locs : List Loc) (ls : Array Slot), va_P (dC, dI) vwCl (wM cI cZ cJ h F3 G V) H → va_D A (wM cI cZ cJ h F3 G V) → va_S A s.heap H locs → lv_has ls 4 [(0, .ref (h 0)), (1, .int x3), (2, .int (nI a)), (3, .int (nI b))] → W p l e rm_X5_agreeing s m args below meth c H locs 0 0 Q (F0 m 47 ls []) := by
                  intro fu
                  induction fu with
                  | zero => intro x3 b F3 hb_ hb2 hfr3 hn_; exact absurd hn_ (Nat.not_lt_zero _)
                  | succ fu ih47 =>
                    intro x3 b F3 hb_ hb2 hfr3 hn_ H locs ls hP hD hS hl
                    refine lv_iload_n hx hb dX5_agreeing_47 rfl (lv_at hl 3 rfl) ?_
                    refine lv_aload_n hx hb dX5_agreeing_48 rfl (lv_at hl 0 rfl) ?_
                    refine va_get (D := (dC, dI)) (ci := 5) (v := .int (V 2)) (C := RX5) (T := TX5) (N := 33) hx hb hts hin_X5 hown hK hP 0 rfl rfl 2 (by decide) hw0 (fun _ h9 => h9) rfl dX5_agreeing_49 ?_
                    refine lv_topi (fun x_27 ex_27 => ?_)
                    obtain rfl : x_27 = nI n := ex_27.trans (hV2)
                    refine lv_icmp_ge (tgt := 106) hx hb dX5_agreeing_52 (by decide) (fun c_28 => ?_) (fun c_28 => ?_)
                    · have c_28 : n ≤ b := (nI_leI (a := n) (b := b) (by omega) (by omega)).mp c_28
                      refine lv_iinc (v := nI (a + 1)) (lv' := [(2, .int (nI (a + 1))), (0, .ref (h 0)), (1, .int x3), (3, .int (nI b))]) hx hb dX5_agreeing_106 hl (k := 2) rfl (nI_1 _) (by decide) rfl (fun ls hl => ?_)
                      refine lv_goto (tgt := 37) hx hb dX5_agreeing_109 (by decide) ?_
                      exact ih37 x3 (a + 1) F3 (by omega) (fun j hj => (hfr3 j hj)) (by omega) H locs ls hP hD hS (lv_sub hl [1, 2, 0] rfl)
                    · have c_28 : ¬ n ≤ b := fun h => c_28 ((nI_leI (a := n) (b := b) (by omega) (by omega)).mpr h)
                      refine lv_aload_n hx hb dX5_agreeing_55 rfl (lv_at hl 0 rfl) ?_
                      refine lv_lconst (v := 1) hx hb dX5_agreeing_56 (by decide) ?_
                      refine lv_iload_n hx hb dX5_agreeing_57 rfl (lv_at hl 2 rfl) ?_
                      refine lv_lshl hx hb dX5_agreeing_58 rfl ?_
                      refine lv_topl (fun z_29 ez_29 => ?_)
                      refine lv_lconst (v := 1) hx hb dX5_agreeing_59 (by decide) ?_
                      refine lv_iload_n hx hb dX5_agreeing_60 rfl (lv_at hl 3 rfl) ?_
                      refine lv_lshl hx hb dX5_agreeing_61 rfl ?_
                      refine lv_topl (fun z_30 ez_30 => ?_)
                      refine lv_lor hx hb dX5_agreeing_62 ?_
                      refine lv_topl (fun z_31 ez_31 => ?_)
                      refine cw_Vi (As := [.long z_31]) (rest := []) (c_X5_agrees l dC dI cI cZ cJ h F3 G V sh hV11 (by omega) z_31) fx (cwV 1 hts gX5_agreeing_X5_agrees rfl rfl rfl (by decide +kernel) ⟨Nat.le_of_ble_eq_true rfl, Nat.le_of_ble_eq_true rfl⟩) hK hP hD hS hA 0 rfl rfl rfl rfl hl.1 rfl (Nat.le_of_ble_eq_true rfl) dX5_agreeing_63 ⟨Nat.le_of_ble_eq_true rfl, Nat.le_of_ble_eq_true rfl⟩ (fun r_32 u_33 H locs hw_34 hP hD hS => ?_)
                      have hP : va_P (dC, dI) vwCl (wM cI cZ cJ h F3 G V) H := hP
                      have hD : va_D A (wM cI cZ cJ h F3 G V) := hD
                      obtain ⟨ag_35, hag_35, eag_35⟩ := hw_34
                      subst eag_35
                      refine lv_if_ne (tgt := 72) hx hb dX5_agreeing_66 (by decide) (fun c_36 => ?_) (fun c_36 => ?_)
                      · have c_36 : ¬ ag_35 = 0 := fun h => c_36 ((nI_eq (a := ag_35) (b := 0) (by omega) (by omega)).mpr h)
                        obtain ⟨x_37, ex_37⟩ : ∃ z : Int32, z = x3 + 1 := ⟨_, rfl⟩
                        refine lv_iinc (v := x_37) (lv' := [(1, .int x_37), (0, .ref (h 0)), (2, .int (nI a)), (3, .int (nI b))]) hx hb dX5_agreeing_72 hl (k := 1) rfl (by rw [ex_37]; rfl) (by decide) rfl (fun ls hl => ?_)
                        refine lv_aload_n hx hb dX5_agreeing_75 rfl (lv_at hl 1 rfl) ?_
                        refine va_get (D := (dC, dI)) (ci := 5) (v := .ref (h 21)) (C := RX5) (T := TX5) (N := 33) hx hb hts hin_X5 hown hK hP 0 rfl rfl 32 (by decide) hw2 (fun _ h9 => h9) rfl dX5_agreeing_76 ?_
                        refine lv_iload_n hx hb dX5_agreeing_79 rfl (lv_at hl 2 rfl) ?_
                        refine lv_dup2_11 hx hb dX5_agreeing_80 rfl rfl ?_
                        refine va_iald hx hb hK hP 21 0 rfl rfl (vp_in_nI (n := a) (N := 40) (by omega) (by decide)) dX5_agreeing_81 ?_
                        refine lv_topi (fun x_38 ex_38 => ?_)
                        rw [nI_clamp (n := a) (by omega)] at ex_38
                        refine lv_iconst (v := 1) hx hb dX5_agreeing_82 (by decide) ?_
                        refine lv_iadd hx hb dX5_agreeing_83 ?_
                        refine va_iast hx hb hK hP hD hS 21 0 rfl rfl (vp_in_nI (n := a) (N := 40) (by omega) (by decide)) dX5_agreeing_84 (fun H locs hP hD hS => ?_)
                        obtain ⟨F_39, eF_39⟩ : ∃ z : Nat → Nat → Int32, z = va_up F3 21 (upd (F3 21) (nI a).toNatClampNeg (x_38 + 1)) := ⟨_, rfl⟩
                        have hP : va_P (dC, dI) vwCl (wM cI cZ cJ h F_39 G V) H := by rw [eF_39]; exact hP
                        have hD : va_D A (wM cI cZ cJ h F_39 G V) := by rw [eF_39]; exact hD
                        refine lv_iload_n hx hb dX5_agreeing_85 rfl (lv_at hl 3 rfl) ?_
                        refine lv_iload_n hx hb dX5_agreeing_86 rfl (lv_at hl 2 rfl) ?_
                        refine lv_icmp_le (tgt := 100) hx hb dX5_agreeing_87 (by decide) (fun c_40 => ?_) (fun c_40 => ?_)
                        · have c_40 : b ≤ a := (nI_leI (a := b) (b := a) (by omega) (by omega)).mp c_40
                          refine lv_iinc (v := nI (b + 1)) (lv' := [(3, .int (nI (b + 1))), (1, .int x_37), (0, .ref (h 0)), (2, .int (nI a))]) hx hb dX5_agreeing_100 hl (k := 3) rfl (nI_1 _) (by decide) rfl (fun ls hl => ?_)
                          refine lv_goto (tgt := 47) hx hb dX5_agreeing_103 (by decide) ?_
                          exact ih47 x_37 (b + 1) F_39 (by omega) (by omega) (fun j hj => ((va_ne eF_39 (fun h => hj (by rw [h]; decide))).trans (hfr3 j hj))) (by omega) H locs ls hP hD hS (lv_sub hl [2, 1, 3, 0] rfl)
                        · have c_40 : ¬ b ≤ a := fun h => c_40 ((nI_leI (a := b) (b := a) (by omega) (by omega)).mpr h)
                          refine lv_aload_n hx hb dX5_agreeing_90 rfl (lv_at hl 1 rfl) ?_
                          refine va_get (D := (dC, dI)) (ci := 5) (v := .ref (h 21)) (C := RX5) (T := TX5) (N := 33) hx hb hts hin_X5 hown hK hP 0 rfl rfl 32 (by decide) hw2 (fun _ h9 => h9) rfl dX5_agreeing_91 ?_
                          refine lv_iload_n hx hb dX5_agreeing_94 rfl (lv_at hl 3 rfl) ?_
                          refine lv_dup2_11 hx hb dX5_agreeing_95 rfl rfl ?_
                          refine va_iald hx hb hK hP 21 0 rfl rfl (vp_in_nI (n := b) (N := 40) (by omega) (by decide)) dX5_agreeing_96 ?_
                          refine lv_topi (fun x_41 ex_41 => ?_)
                          rw [nI_clamp (n := b) (by omega)] at ex_41
                          refine lv_iconst (v := 1) hx hb dX5_agreeing_97 (by decide) ?_
                          refine lv_iadd hx hb dX5_agreeing_98 ?_
                          refine va_iast hx hb hK hP hD hS 21 0 rfl rfl (vp_in_nI (n := b) (N := 40) (by omega) (by decide)) dX5_agreeing_99 (fun H locs hP hD hS => ?_)
                          obtain ⟨F_42, eF_42⟩ : ∃ z : Nat → Nat → Int32, z = va_up F_39 21 (upd (F_39 21) (nI b).toNatClampNeg (x_41 + 1)) := ⟨_, rfl⟩
                          have hP : va_P (dC, dI) vwCl (wM cI cZ cJ h F_42 G V) H := by rw [eF_42]; exact hP
                          have hD : va_D A (wM cI cZ cJ h F_42 G V) := by rw [eF_42]; exact hD
                          refine lv_iinc (v := nI (b + 1)) (lv' := [(3, .int (nI (b + 1))), (1, .int x_37), (0, .ref (h 0)), (2, .int (nI a))]) hx hb dX5_agreeing_100 hl (k := 3) rfl (nI_1 _) (by decide) rfl (fun ls hl => ?_)
                          refine lv_goto (tgt := 47) hx hb dX5_agreeing_103 (by decide) ?_
                          exact ih47 x_37 (b + 1) F_42 (by omega) (by omega) (fun j hj => ((va_ne eF_42 (fun h => hj (by rw [h]; decide))).trans ((va_ne eF_39 (fun h => hj (by rw [h]; decide))).trans (hfr3 j hj)))) (by omega) H locs ls hP hD hS (lv_sub hl [2, 1, 3, 0] rfl)
                      · have c_36 : ag_35 = 0 := (nI_eq (a := ag_35) (b := 0) (by omega) (by omega)).mp c_36
                        refine lv_goto (tgt := 100) hx hb dX5_agreeing_69 (by decide) ?_
                        refine lv_iinc (v := nI (b + 1)) (lv' := [(3, .int (nI (b + 1))), (0, .ref (h 0)), (1, .int x3), (2, .int (nI a))]) hx hb dX5_agreeing_100 hl (k := 3) rfl (nI_1 _) (by decide) rfl (fun ls hl => ?_)
                        refine lv_goto (tgt := 47) hx hb dX5_agreeing_103 (by decide) ?_
                        exact ih47 x3 (b + 1) F3 (by omega) (by omega) (fun j hj => (hfr3 j hj)) (by omega) H locs ls hP hD hS (lv_sub hl [1, 2, 3, 0] rfl)
                exact loop47 _ x a F2 (by omega) (by omega) (fun j hj => (hfr2 j hj)) (Nat.lt_succ_self _) H locs ls hP hD hS (lv_sub hl [1, 2, 3, 0] rfl)
          exact loop37 _ 1 0 F1 (by omega) (fun j hj => (hfr j hj)) (Nat.lt_succ_self _) H locs ls hP hD hS (lv_sub hl [2, 1, 0] rfl)
      · have c_1 : ¬ 40 ≤ k := fun h => c_1 ((nI_leI (a := 40) (b := k) (by omega) (by omega)).mpr h)
        refine lv_aload_n hx hb dX5_agreeing_8 rfl (lv_at hl 0 rfl) ?_
        refine va_get (D := (dC, dI)) (ci := 5) (v := .ref (h 21)) (C := RX5) (T := TX5) (N := 33) hx hb hts hin_X5 hown hK hP 0 rfl rfl 32 (by decide) hw2 (fun _ h9 => h9) rfl dX5_agreeing_9 ?_
        refine lv_iload_n hx hb dX5_agreeing_12 rfl (lv_at hl 1 rfl) ?_
        refine lv_iconst (v := 0) hx hb dX5_agreeing_13 (by decide) ?_
        refine va_iast hx hb hK hP hD hS 21 0 rfl rfl (vp_in_nI (n := k) (N := 40) (by omega) (by decide)) dX5_agreeing_14 (fun H locs hP hD hS => ?_)
        obtain ⟨F_43, eF_43⟩ : ∃ z : Nat → Nat → Int32, z = va_up F1 21 (upd (F1 21) (nI k).toNatClampNeg 0) := ⟨_, rfl⟩
        have hP : va_P (dC, dI) vwCl (wM cI cZ cJ h F_43 G V) H := by rw [eF_43]; exact hP
        have hD : va_D A (wM cI cZ cJ h F_43 G V) := by rw [eF_43]; exact hD
        have hE_44 : F_43 21 k = 0 := by rw [eF_43]; show upd _ (nI k).toNatClampNeg _ _ = _; rw [nI_clamp (by omega)]; exact pk_us
        refine lv_iinc (v := nI (k + 1)) (lv' := [(1, .int (nI (k + 1))), (0, .ref (h 0))]) hx hb dX5_agreeing_15 hl (k := 1) rfl (nI_1 _) (by decide) rfl (fun ls hl => ?_)
        refine lv_goto (tgt := 2) hx hb dX5_agreeing_18 (by decide) ?_
        exact ih2 (k + 1) F_43 (by omega) (fun j hj => ((va_ne eF_43 (fun h => hj (by rw [h]; decide))).trans (hfr j hj))) (by omega) H locs ls hP hD hS (lv_sub hl [1, 0] rfl)
  exact loop2 _ 0 F (by omega) (fun _ _ => rfl) (Nat.lt_succ_self _) H locs ls hP hD hS (lv_sub hl [1, 0] rfl)
