def rm_X5_state : Room := { frames := 0, cells := 0, slots := 0, locals := 0 }
set_option maxHeartbeats 4000000 in
set_option maxRecDepth 100000 in
theorem c_X5_state (l : Launch) (dC : Nat → ClassId) (dI : Nat → Nat → Nat) (cI cZ cJ : ClassId) (w : va_W)  (a0 a1 a2 : Nat) (ha : a2 ≤ 1)   : CtI l (dC, dI) vwCl (tys3 cI cZ cJ) yX5_state wsX5_state rm_X5_state [.int (nI a0), .int (nI a1), .int (nI a2)] (w) (S := Unit) (fun r _ => r = nI ((201 * a0 + a1) * 2 + a2)) (fun _ => w) 0 0 := by
  refine ct_I (cc := cX5_state) (maxL := 3) (ty := .int) (own := RX5) (by decide) rfl rfl (Nat.le_of_ble_eq_true rfl) (lv := [(0, .int (nI a0)), (1, .int (nI a1)), (2, .int (nI a2))]) rfl ?_
  intro p e s m args below meth c A Q ls fx hK hP hD hA hl hret
  obtain ⟨hx, hb, hml, hown, hts⟩ := id fx
  have hS : va_S A s.heap s.heap [] := va_S.rf
  obtain ⟨H, hH⟩ : ∃ H, H = s.heap := ⟨_, rfl⟩
  rw [← hH] at hP ⊢
  have hS : va_S A s.heap H [] := by rw [hH]; exact hS
  generalize ([] : List Loc) = locs at hS ⊢
  refine lv_sipush (v := 201) hx hb dX5_state_0 (by decide) ?_
  refine lv_iload_n hx hb dX5_state_3 rfl (lv_at hl 0 rfl) ?_
  refine lv_imul hx hb dX5_state_4 ?_
  refine lv_topi (fun x_1 ex_1 => ?_)
  obtain rfl : x_1 = nI (201 * a0) := ex_1.trans (pk_mul 201 a0)
  refine lv_iload_n hx hb dX5_state_5 rfl (lv_at hl 1 rfl) ?_
  refine lv_iadd hx hb dX5_state_6 ?_
  refine lv_topi (fun x_2 ex_2 => ?_)
  obtain rfl : x_2 = nI ((201 * a0) + a1) := ex_2.trans (nI_add (201 * a0) a1)
  refine lv_iconst (v := 2) hx hb dX5_state_7 (by decide) ?_
  refine lv_imul hx hb dX5_state_8 ?_
  refine lv_topi (fun x_3 ex_3 => ?_)
  obtain rfl : x_3 = nI (((201 * a0) + a1) * 2) := ex_3.trans (pk_mul ((201 * a0) + a1) 2)
  refine lv_iload_n hx hb dX5_state_9 rfl (lv_at hl 2 rfl) ?_
  refine lv_if_eq (tgt := 17) hx hb dX5_state_10 (by decide) (fun c_4 => ?_) (fun c_4 => ?_)
  · have c_4 : a2 = 0 := (nI_eq (a := a2) (b := 0) (by omega) (by omega)).mp c_4
    refine lv_iconst (v := 0) hx hb dX5_state_17 (by decide) ?_
    refine lv_iadd hx hb dX5_state_18 ?_
    refine lv_topi (fun x_5 ex_5 => ?_)
    obtain rfl : x_5 = nI ((((201 * a0) + a1) * 2) + 0) := ex_5.trans (nI_add (((201 * a0) + a1) * 2) 0)
    exact hret (nI ((((201 * a0) + a1) * 2) + 0)) () H locs 19 ls rfl dX5_state_19 (by first | rw [show a2 = 0 by omega] | rw [show a2 = 1 by omega]) (hP) (hD) hS
  · have c_4 : ¬ a2 = 0 := fun h => c_4 ((nI_eq (a := a2) (b := 0) (by omega) (by omega)).mpr h)
    refine lv_iconst (v := 1) hx hb dX5_state_13 (by decide) ?_
    refine lv_goto (tgt := 18) hx hb dX5_state_14 (by decide) ?_
    refine lv_iadd hx hb dX5_state_18 ?_
    refine lv_topi (fun x_6 ex_6 => ?_)
    obtain rfl : x_6 = nI ((((201 * a0) + a1) * 2) + 1) := ex_6.trans (nI_add (((201 * a0) + a1) * 2) 1)
    exact hret (nI ((((201 * a0) + a1) * 2) + 1)) () H locs 19 ls rfl dX5_state_19 (by first | rw [show a2 = 0 by omega] | rw [show a2 = 1 by omega]) (hP) (hD) hS
def rm_X5_takes : Room := { frames := 0, cells := 0, slots := 0, locals := 0 }
set_option maxHeartbeats 4000000 in
set_option maxRecDepth 100000 in
theorem c_X5_takes (l : Launch) (dC : Nat → ClassId) (dI : Nat → Nat → Nat) (cI cZ cJ : ClassId) (w : va_W)  (a0 : Nat) (ha : a0 ≤ 1)   : CtI l (dC, dI) vwCl (tys3 cI cZ cJ) yX5_takes wsX5_takes rm_X5_takes [.int (nI a0)] (w) (S := Unit) (fun r _ => r = nI (7 - 2 * a0)) (fun _ => w) 0 0 := by
  refine ct_I (cc := cX5_takes) (maxL := 1) (ty := .int) (own := RX5) (by decide) rfl rfl (Nat.le_of_ble_eq_true rfl) (lv := [(0, .int (nI a0))]) rfl ?_
  intro p e s m args below meth c A Q ls fx hK hP hD hA hl hret
  obtain ⟨hx, hb, hml, hown, hts⟩ := id fx
  have hS : va_S A s.heap s.heap [] := va_S.rf
  obtain ⟨H, hH⟩ : ∃ H, H = s.heap := ⟨_, rfl⟩
  rw [← hH] at hP ⊢
  have hS : va_S A s.heap H [] := by rw [hH]; exact hS
  generalize ([] : List Loc) = locs at hS ⊢
  refine lv_iload_n hx hb dX5_takes_0 rfl (lv_at hl 0 rfl) ?_
  refine lv_if_eq (tgt := 8) hx hb dX5_takes_1 (by decide) (fun c_1 => ?_) (fun c_1 => ?_)
  · have c_1 : a0 = 0 := (nI_eq (a := a0) (b := 0) (by omega) (by omega)).mp c_1
    refine lv_bipush (v := 7) hx hb dX5_takes_8 (by decide) ?_
    exact hret 7 () H locs 10 ls rfl dX5_takes_10 (by rw [show a0 = 0 by omega]; rfl) (hP) (hD) hS
  · have c_1 : ¬ a0 = 0 := fun h => c_1 ((nI_eq (a := a0) (b := 0) (by omega) (by omega)).mpr h)
    refine lv_iconst (v := 5) hx hb dX5_takes_4 (by decide) ?_
    refine lv_goto (tgt := 10) hx hb dX5_takes_5 (by decide) ?_
    exact hret 5 () H locs 10 ls rfl dX5_takes_10 (by rw [show a0 = 1 by omega]; rfl) (hP) (hD) hS
def rm_X5_filled : Room := { frames := 1, cells := 0, slots := 0, locals := 13 }
set_option maxHeartbeats 4000000 in
set_option maxRecDepth 100000 in
theorem c_X5_filled (l : Launch) (dC : Nat → ClassId) (dI : Nat → Nat → Nat) (cI cZ cJ : ClassId) (w : va_W)  (a0 a1 : Nat) (ha : a0 + a1 < 1000000)   : CtI l (dC, dI) vwCl (tys3 cI cZ cJ) yX5_filled wsX5_filled rm_X5_filled [.int (nI a0), .int (nI a1)] (w) (S := Unit) (fun r _ => r = nI (min 200 (a0 + a1))) (fun _ => w) 0 0 := by
  refine ct_I (cc := cX5_filled) (maxL := 2) (ty := .int) (own := RX5) (by decide) rfl rfl (Nat.le_of_ble_eq_true rfl) (lv := [(0, .int (nI a0)), (1, .int (nI a1))]) rfl ?_
  intro p e s m args below meth c A Q ls fx hK hP hD hA hl hret
  obtain ⟨hx, hb, hml, hown, hts⟩ := id fx
  have hS : va_S A s.heap s.heap [] := va_S.rf
  have hw0 := hts (.methodLink RX5 129 Lib.Math.min.name) (by decide +kernel)
  have hw1 := hts (.static Lib.Math.min.name) (by decide +kernel)
  have hw2 := hts (.initialized "java/lang/Math") (by decide +kernel)
  have hw3 := hts (.code Lib.Math.min.name Lib.Math.min.code 2 (some .int)) (by decide +kernel)
  obtain ⟨H, hH⟩ : ∃ H, H = s.heap := ⟨_, rfl⟩
  rw [← hH] at hP ⊢
  have hS : va_S A s.heap H [] := by rw [hH]; exact hS
  generalize ([] : List Loc) = locs at hS ⊢
  refine lv_sipush (v := 200) hx hb dX5_filled_0 (by decide) ?_
  refine lv_iload_n hx hb dX5_filled_3 rfl (lv_at hl 0 rfl) ?_
  refine lv_iload_n hx hb dX5_filled_4 rfl (lv_at hl 1 rfl) ?_
  refine lv_iadd hx hb dX5_filled_5 ?_
  refine lv_topi (fun x_1 ex_1 => ?_)
  obtain rfl : x_1 = nI (a0 + a1) := ex_1.trans (nI_add a0 a1)
  refine va_mmin hx hb (hml.trans hl.1.symm) hown hw0 hw1 hw2 hw3 (Nat.le_of_ble_eq_true rfl) (Nat.le_of_ble_eq_true rfl) (Nat.le_of_ble_eq_true rfl) (Nat.le_of_ble_eq_true rfl) dX5_filled_6 ?_
  refine lv_topi (fun x_2 ex_2 => ?_)
  obtain rfl : x_2 = nI (min 200 (a0 + a1)) := ex_2.trans (mm_min (a := 200) (b := a0 + a1) (by omega) (by omega))
  exact hret (nI (min 200 (a0 + a1))) () H locs 9 ls rfl dX5_filled_9 (by first | rfl | (simp []; done) | (exfalso; omega)) (hP) (hD) hS
theorem lg_eq0 {x y : Int64} (h : lg_cmp x y = 0) : x = y := by
  unfold lg_cmp at h
  split at h
  · exact absurd h (by decide)
  · split at h
    · assumption
    · exact absurd h (by decide)
theorem lg_self (x : Int64) : lg_cmp x x = 0 := by
  unfold lg_cmp
  rw [if_neg (fun h => Int64.lt_irrefl h), if_pos rfl]
theorem bits_less {x : Int64} (h : x ≠ 0) : (x &&& (x - 1)).toBitVec.toNat < x.toBitVec.toNat := by
  have h0 : x.toBitVec ≠ 0#64 := fun q => h (Int64.toBitVec_inj.mp q)
  have h1 : x.toBitVec.toNat ≠ 0 := fun q => h0 (BitVec.eq_of_toNat_eq q)
  have h2 : (x - 1).toBitVec.toNat = x.toBitVec.toNat - 1 := by
    rw [Int64.toBitVec_sub]
    have h3 := x.toBitVec.isLt
    rw [BitVec.toNat_sub]
    have h4 : (1 : Int64).toBitVec.toNat = 1 := by decide
    rw [h4]
    omega
  rw [Int64.toBitVec_and, BitVec.toNat_and]
  have h5 : x.toBitVec.toNat &&& (x - 1).toBitVec.toNat ≤ (x - 1).toBitVec.toNat := Nat.and_le_right
  omega
def rm_X5_bits : Room := { frames := 0, cells := 0, slots := 0, locals := 0 }
set_option maxHeartbeats 4000000 in
set_option maxRecDepth 100000 in
theorem c_X5_bits (l : Launch) (dC : Nat → ClassId) (dI : Nat → Nat → Nat) (cI cZ cJ : ClassId) (w : va_W)  (q0 : Int64)   : CtI l (dC, dI) vwCl (tys3 cI cZ cJ) yX5_bits wsX5_bits rm_X5_bits [.long q0] (w) (S := Unit) (fun r _ => r = nI (pc q0)) (fun _ => w) 0 0 := by
  refine ct_I (cc := cX5_bits) (maxL := 5) (ty := .int) (own := RX5) (by decide) rfl rfl (Nat.le_of_ble_eq_true rfl) (lv := [(0, .long q0)]) rfl ?_
  intro p e s m args below meth c A Q ls fx hK hP hD hA hl hret
  obtain ⟨hx, hb, hml, hown, hts⟩ := id fx
  have hS : va_S A s.heap s.heap [] := va_S.rf
  obtain ⟨H, hH⟩ : ∃ H, H = s.heap := ⟨_, rfl⟩
  rw [← hH] at hP ⊢
  have hS : va_S A s.heap H [] := by rw [hH]; exact hS
  generalize ([] : List Loc) = locs at hS ⊢
  refine lv_iconst (v := 0) hx hb dX5_bits_0 (by decide) ?_
  refine lv_istore_n (lv' := [(2, .int 0), (0, .long q0)]) hx hb dX5_bits_1 rfl hl (by decide) rfl (fun ls hl => ?_)
  refine lv_lload_n hx hb dX5_bits_2 rfl (lv_at hl 1 rfl) ?_
  refine lv_lstore_n (lv' := [(3, .long q0), (2, .int 0), (0, .long q0)]) hx hb dX5_bits_3 rfl hl (by decide) rfl (fun ls hl => ?_)
  have loop4 : ∀ (fu : Nat) (n_ : Nat) (x_ : Int64), (n_ + pc x_ = pc q0) → (x_.toBitVec.toNat) < fu → ∀ (H : Heap) (locs : List Loc) (ls : Array Slot), va_P (dC, dI) vwCl (w) H → va_D A (w) → va_S A s.heap H locs → lv_has ls 5 [(0, .long q0), (2, .int (nI n_)), (3, .long x_)] → W p l e rm_X5_bits s m args below meth c H locs 0 0 Q (F0 m 4 ls []) := by
    intro fu
    induction fu with
    | zero => intro n_ x_ hpc hn_; exact absurd hn_ (Nat.not_lt_zero _)
    | succ fu ih4 =>
      intro n_ x_ hpc hn_ H locs ls hP hD hS hl
      refine lv_lload_n hx hb dX5_bits_4 rfl (lv_at hl 2 rfl) ?_
      refine lv_lconst (v := 0) hx hb dX5_bits_5 (by decide) ?_
      refine W.lcmp hx hb dX5_bits_6 ?_
      refine lv_if_eq (tgt := 22) hx hb dX5_bits_7 (by decide) (fun c_1 => ?_) (fun c_1 => ?_)
      · have c_1 : eqI (lg_cmp x_ 0) 0 = true := decide_eq_true c_1
        refine lv_iload_n hx hb dX5_bits_22 rfl (lv_at hl 1 rfl) ?_
        exact hret (nI n_) () H locs 23 ls rfl dX5_bits_23 (by
                    have q_ := lg_eq0 (of_decide_eq_true c_1)
                    rw [q_, pc_0, Nat.add_zero] at hpc
                    rw [hpc]) (hP) (hD) hS
      · have c_1 : eqI (lg_cmp x_ 0) 0 = false := decide_eq_false c_1
        refine lv_iinc (v := nI (n_ + 1)) (lv' := [(2, .int (nI (n_ + 1))), (0, .long q0), (3, .long x_)]) hx hb dX5_bits_10 hl (k := 1) rfl (nI_1 _) (by decide) rfl (fun ls hl => ?_)
        refine lv_lload_n hx hb dX5_bits_13 rfl (lv_at hl 2 rfl) ?_
        refine lv_lload_n hx hb dX5_bits_14 rfl (lv_at hl 2 rfl) ?_
        refine lv_lconst (v := 1) hx hb dX5_bits_15 (by decide) ?_
        refine lv_lsub hx hb dX5_bits_16 ?_
        refine lv_topl (fun z_2 ez_2 => ?_)
        refine lv_land hx hb dX5_bits_17 ?_
        refine lv_topl (fun z_3 ez_3 => ?_)
        refine lv_lstore_n (lv' := [(3, .long z_3), (2, .int (nI (n_ + 1))), (0, .long q0)]) hx hb dX5_bits_18 rfl hl (by decide) rfl (fun ls hl => ?_)
        refine lv_goto (tgt := 4) hx hb dX5_bits_19 (by decide) ?_
        exact ih4 (n_ + 1) z_3 (by rw [ez_3, ez_2]; have z := pc_kern (x := x_) (fun q => (of_decide_eq_false c_1) (by rw [q]; exact lg_self 0)); omega) (Nat.lt_of_lt_of_le (by rw [ez_3, ez_2]; exact bits_less (fun q => (of_decide_eq_false c_1) (by rw [q]; exact lg_self 0))) (Nat.le_of_lt_succ hn_)) H locs ls hP hD hS (lv_sub hl [2, 1, 0] rfl)
  exact loop4 _ 0 q0 (Nat.zero_add _) (Nat.lt_succ_self _) H locs ls hP hD hS (lv_sub hl [2, 1, 0] rfl)
def rm_X5_agrees : Room := { frames := 1, cells := 0, slots := 0, locals := 24 }
set_option maxHeartbeats 4000000 in
set_option maxRecDepth 100000 in
theorem c_X5_agrees (l : Launch) (dC : Nat → ClassId) (dI : Nat → Nat → Nat) (cI cZ cJ : ClassId) (h : Nat → Nat) (F : Nat → Nat → Int32) (G : Nat → Int64) (V : Nat → Int32) (sh : Nat) (hV11 : V 11 = nI sh) (bV11 : sh ≤ 12) (Ht : Nat → Nat) (hHt : ∀ i, i < sh → F 20 i = nI (Ht i)) (bHt : ∀ i, i < sh → Ht i ≤ 64) (q0 : Int64)  (Sw : Nat → Int64) (hG : ∀ k, k < sh → G k = Sw k) : CtI l (dC, dI) vwCl (tys3 cI cZ cJ) yX5_agrees wsX5_agrees rm_X5_agrees [.ref (h 0), .long q0] (wM cI cZ cJ h F G V) (S := Unit) (fun r _ => r = bI (agK Sw Ht q0 sh)) (fun _ => wM cI cZ cJ h F G V) 0 0 := by
  refine ct_I (cc := cX5_agrees) (maxL := 5) (ty := .boolean) (own := RX5) (by decide) rfl rfl (Nat.le_of_ble_eq_true rfl) (lv := [(0, .ref (h 0)), (1, .long q0)]) rfl ?_
  intro p e s m args below meth c A Q ls fx hK hP hD hA hl hret
  obtain ⟨hx, hb, hml, hown, hts⟩ := id fx
  have hS : va_S A s.heap s.heap [] := va_S.rf
  have hw0 := hts (.fieldLink RX5 186 "MirrorTowerModel" "shots" "I") (by decide +kernel)
  have hin_X5 : ∀ w ∈ u_ws RX5 TX5 33, w ∈ wsX5_agrees := by decide +kernel
  have hw2 := hts (.fieldLink RX5 81 "MirrorTowerModel" "shot" "[J") (by decide +kernel)
  have hw3 := hts (.constantLong RX5 184 (-1)) (by decide +kernel)
  have hw4 := hts (.fieldLink RX5 85 "MirrorTowerModel" "hits" "[I") (by decide +kernel)
  obtain ⟨H, hH⟩ : ∃ H, H = s.heap := ⟨_, rfl⟩
  rw [← hH] at hP ⊢
  have hS : va_S A s.heap H [] := by rw [hH]; exact hS
  generalize ([] : List Loc) = locs at hS ⊢
  refine lv_iconst (v := 1) hx hb dX5_agrees_0 (by decide) ?_
  refine lv_istore_n (lv' := [(3, .int 1), (0, .ref (h 0)), (1, .long q0)]) hx hb dX5_agrees_1 rfl hl (by decide) rfl (fun ls hl => ?_)
  refine lv_iconst (v := 0) hx hb dX5_agrees_2 (by decide) ?_
  refine lv_istore (lv' := [(4, .int 0), (3, .int 1), (0, .ref (h 0)), (1, .long q0)]) hx hb dX5_agrees_3 hl (by decide) rfl (fun ls hl => ?_)
  have loop5 : ∀ (fu : Nat) (k : Nat), (k ≤ sh) → (sh - k) < fu → ∀ (H : Heap) (locs : List Loc) (ls : Array Slot), va_P (dC, dI) vwCl (wM cI cZ cJ h F G V) H → va_D A (wM cI cZ cJ h F G V) → va_S A s.heap H locs → lv_has ls 5 [(0, .ref (h 0)), (1, .long q0), (3, .int (nI (b01 (agK Sw Ht q0 k)))), (4, .int (nI k))] → W p l e rm_X5_agrees s m args below meth c H locs 0 0 Q (F0 m 5 ls []) := by
    intro fu
    induction fu with
    | zero => intro k hk hn_; exact absurd hn_ (Nat.not_lt_zero _)
    | succ fu ih5 =>
      intro k hk hn_ H locs ls hP hD hS hl
      have hb1_ := b01_le (agK Sw Ht q0 k)
      refine lv_iload hx hb dX5_agrees_5 (lv_at hl 3 rfl) ?_
      refine lv_aload_n hx hb dX5_agrees_7 rfl (lv_at hl 0 rfl) ?_
      refine va_get (D := (dC, dI)) (ci := 5) (v := .int (V 11)) (C := RX5) (T := TX5) (N := 33) hx hb hts hin_X5 hown hK hP 0 rfl rfl 31 (by decide) hw0 (fun _ h9 => h9) rfl dX5_agrees_8 ?_
      refine lv_topi (fun x_1 ex_1 => ?_)
      obtain rfl : x_1 = nI sh := ex_1.trans (hV11)
      refine lv_icmp_ge (tgt := 56) hx hb dX5_agrees_11 (by decide) (fun c_2 => ?_) (fun c_2 => ?_)
      · have c_2 : sh ≤ k := (nI_leI (a := sh) (b := k) (by omega) (by omega)).mp c_2
        refine lv_iload_n hx hb dX5_agrees_56 rfl (lv_at hl 2 rfl) ?_
        exact hret (nI (b01 (agK Sw Ht q0 k))) () H locs 57 ls (nz_narrow (by omega)) dX5_agrees_57 (by rw [show k = sh by omega]; exact b01_bI _) (hP) (hD) hS
      · have c_2 : ¬ sh ≤ k := fun h => c_2 ((nI_leI (a := sh) (b := k) (by omega) (by omega)).mpr h)
        refine lv_iload_n hx hb dX5_agrees_14 rfl (lv_at hl 2 rfl) ?_
        refine lv_if_eq (tgt := 48) hx hb dX5_agrees_15 (by decide) (fun c_3 => ?_) (fun c_3 => ?_)
        · have c_3 : (b01 (agK Sw Ht q0 k)) = 0 := (nI_eq (a := b01 (agK Sw Ht q0 k)) (b := 0) (by omega) (by omega)).mp c_3
          refine lv_iconst (v := 0) hx hb dX5_agrees_48 (by decide) ?_
          refine lv_istore_n (lv' := [(3, .int 0), (0, .ref (h 0)), (1, .long q0), (4, .int (nI k))]) hx hb dX5_agrees_49 rfl hl (by decide) rfl (fun ls hl => ?_)
          refine lv_iinc (v := nI (k + 1)) (lv' := [(4, .int (nI (k + 1))), (3, .int 0), (0, .ref (h 0)), (1, .long q0)]) hx hb dX5_agrees_50 hl (k := 3) rfl (nI_1 _) (by decide) rfl (fun ls hl => ?_)
          refine lv_goto (tgt := 5) hx hb dX5_agrees_53 (by decide) ?_
          have hq_ : agK Sw Ht q0 (k + 1) = false := by rw [agK_s, b01_0 c_3, Bool.false_and]
          have hl : lv_has ls 5 [(4, .int (nI (k + 1))), (3, .int (nI (b01 (agK Sw Ht q0 (k + 1))))), (0, .ref (h 0)), (1, .long q0)] := by rw [hq_]; exact hl
          exact ih5 (k + 1) (by omega) (by omega) H locs ls hP hD hS (lv_sub hl [2, 3, 1, 0] rfl)
        · have c_3 : ¬ (b01 (agK Sw Ht q0 k)) = 0 := fun h => c_3 ((nI_eq (a := b01 (agK Sw Ht q0 k)) (b := 0) (by omega) (by omega)).mpr h)
          refine lv_aload_n hx hb dX5_agrees_18 rfl (lv_at hl 0 rfl) ?_
          refine va_get (D := (dC, dI)) (ci := 5) (v := .ref (h 19)) (C := RX5) (T := TX5) (N := 33) hx hb hts hin_X5 hown hK hP 0 rfl rfl 29 (by decide) hw2 (fun _ h9 => h9) rfl dX5_agrees_19 ?_
          refine lv_iload hx hb dX5_agrees_22 (lv_at hl 3 rfl) ?_
          refine va_lald hx hb hK hP 19 2 rfl rfl (vp_in_nI (n := k) (N := 12) (by omega) (by decide)) dX5_agrees_24 ?_
          refine lv_lload_n hx hb dX5_agrees_25 rfl (lv_at hl 1 rfl) ?_
          refine lv_ldc2 hx hb hown hw3 dX5_agrees_26 ?_
          refine lv_lxor hx hb dX5_agrees_29 ?_
          refine lv_topl (fun z_4 ez_4 => ?_)
          refine lv_land hx hb dX5_agrees_30 ?_
          refine lv_topl (fun z_5 ez_5 => ?_)
          refine cw_Si (As := [.long z_5]) (rest := []) (c_X5_bits l dC dI cI cZ cJ (wM cI cZ cJ h F G V) z_5) fx (va_cwS 1 hts gX5_agrees_X5_bits rfl rfl rfl (by decide +kernel) ⟨Nat.le_of_ble_eq_true rfl, Nat.le_of_ble_eq_true rfl⟩) hK hP hD hS hA rfl hl.1 rfl (Nat.le_of_ble_eq_true rfl) dX5_agrees_31 ⟨Nat.le_of_ble_eq_true rfl, Nat.le_of_ble_eq_true rfl⟩ (fun r_6 u_7 H locs hw_8 hP hD hS => ?_)
          have hP : va_P (dC, dI) vwCl (wM cI cZ cJ h F G V) H := hP
          have hD : va_D A (wM cI cZ cJ h F G V) := hD
          obtain rfl : r_6 = nI (pc z_5) := hw_8
          have hb_9 : pc z_5 ≤ 64 := pc_le _
          refine lv_aload_n hx hb dX5_agrees_34 rfl (lv_at hl 0 rfl) ?_
          refine va_get (D := (dC, dI)) (ci := 5) (v := .ref (h 20)) (C := RX5) (T := TX5) (N := 33) hx hb hts hin_X5 hown hK hP 0 rfl rfl 30 (by decide) hw4 (fun _ h9 => h9) rfl dX5_agrees_35 ?_
          refine lv_iload hx hb dX5_agrees_38 (lv_at hl 3 rfl) ?_
          refine va_iald hx hb hK hP 20 0 rfl rfl (vp_in_nI (n := k) (N := 12) (by omega) (by decide)) dX5_agrees_40 ?_
          have hb_10 := bHt k (by omega)
          refine lv_topi (fun x_11 ex_11 => ?_)
          obtain rfl : x_11 = nI (Ht k) := ex_11.trans ((congrArg (F 20) (nI_clamp (n := k) (by omega))).trans (hHt k (by omega)))
          refine lv_icmp_ne (tgt := 48) hx hb dX5_agrees_41 (by decide) (fun c_12 => ?_) (fun c_12 => ?_)
          · have c_12 : ¬ (pc z_5) = (Ht k) := fun h => c_12 ((nI_eq (a := pc z_5) (b := Ht k) (by omega) (by omega)).mpr h)
            refine lv_iconst (v := 0) hx hb dX5_agrees_48 (by decide) ?_
            refine lv_istore_n (lv' := [(3, .int 0), (0, .ref (h 0)), (1, .long q0), (4, .int (nI k))]) hx hb dX5_agrees_49 rfl hl (by decide) rfl (fun ls hl => ?_)
            refine lv_iinc (v := nI (k + 1)) (lv' := [(4, .int (nI (k + 1))), (3, .int 0), (0, .ref (h 0)), (1, .long q0)]) hx hb dX5_agrees_50 hl (k := 3) rfl (nI_1 _) (by decide) rfl (fun ls hl => ?_)
            refine lv_goto (tgt := 5) hx hb dX5_agrees_53 (by decide) ?_
            have hw_ : pc z_5 = pc (Sw k &&& (q0 ^^^ (-1))) := by rw [ez_5, ez_4, nI_clamp (by omega), hG k (by omega)]
            have hq_ : agK Sw Ht q0 (k + 1) = false := by rw [agK_s, decide_eq_false (fun z => c_12 (by rw [hw_]; exact z)), Bool.and_false]
            have hl : lv_has ls 5 [(4, .int (nI (k + 1))), (3, .int (nI (b01 (agK Sw Ht q0 (k + 1))))), (0, .ref (h 0)), (1, .long q0)] := by rw [hq_]; exact hl
            exact ih5 (k + 1) (by omega) (by omega) H locs ls hP hD hS (lv_sub hl [2, 3, 1, 0] rfl)
          · have c_12 : (pc z_5) = (Ht k) := (nI_eq (a := pc z_5) (b := Ht k) (by omega) (by omega)).mp c_12
            refine lv_iconst (v := 1) hx hb dX5_agrees_44 (by decide) ?_
            refine lv_goto (tgt := 49) hx hb dX5_agrees_45 (by decide) ?_
            refine lv_istore_n (lv' := [(3, .int 1), (0, .ref (h 0)), (1, .long q0), (4, .int (nI k))]) hx hb dX5_agrees_49 rfl hl (by decide) rfl (fun ls hl => ?_)
            refine lv_iinc (v := nI (k + 1)) (lv' := [(4, .int (nI (k + 1))), (3, .int 1), (0, .ref (h 0)), (1, .long q0)]) hx hb dX5_agrees_50 hl (k := 3) rfl (nI_1 _) (by decide) rfl (fun ls hl => ?_)
            refine lv_goto (tgt := 5) hx hb dX5_agrees_53 (by decide) ?_
            have hw_ : pc z_5 = pc (Sw k &&& (q0 ^^^ (-1))) := by rw [ez_5, ez_4, nI_clamp (by omega), hG k (by omega)]
            have hq_ : agK Sw Ht q0 (k + 1) = true := by rw [agK_s, b01_n c_3, decide_eq_true (by rw [← hw_]; exact c_12), Bool.true_and]
            have hl : lv_has ls 5 [(4, .int (nI (k + 1))), (3, .int (nI (b01 (agK Sw Ht q0 (k + 1))))), (0, .ref (h 0)), (1, .long q0)] := by rw [hq_]; exact hl
            exact ih5 (k + 1) (by omega) (by omega) H locs ls hP hD hS (lv_sub hl [2, 3, 1, 0] rfl)
  have hl : lv_has ls 5 [(4, .int 0), (3, .int (nI (b01 (agK Sw Ht q0 0)))), (0, .ref (h 0)), (1, .long q0)] := by rw [agK_00]; exact hl
  exact loop5 _ 0 (by omega) (Nat.lt_succ_self _) H locs ls hP hD hS (lv_sub hl [2, 3, 1, 0] rfl)
def rm_X5_agreeing : Room := { frames := 2, cells := 0, slots := 0, locals := 48 }
set_option maxHeartbeats 4000000 in
set_option maxRecDepth 100000 in
theorem c_X5_agreeing (l : Launch) (dC : Nat → ClassId) (dI : Nat → Nat → Nat) (cI cZ cJ : ClassId) (h : Nat → Nat) (F : Nat → Nat → Int32) (G : Nat → Int64) (V : Nat → Int32) (n : Nat) (hV2 : V 2 = nI n) (bV2 : n ≤ 40) (sh : Nat) (hV11 : V 11 = nI sh) (bV11 : sh ≤ 12) (Ht : Nat → Nat) (hHt : ∀ i, i < sh → F 20 i = nI (Ht i)) (bHt : ∀ i, i < sh → Ht i ≤ 64)   (Sw : Nat → Int64) (ms : Nat → Nat) (hG : ∀ k, k < sh → G k = Sw k) (hHm : ∀ k, k < sh → Ht k + ms k = pc (Sw k)) : CtI l (dC, dI) vwCl (tys3 cI cZ cJ) yX5_agreeing wsX5_agreeing rm_X5_agreeing [.ref (h 0)] (wM cI cZ cJ h F G V) (S := Nat → Nat → Int32) (fun r u => (r = nI (agC Sw ms sh n)) ∧ (∀ j, j ∉ ([21] : List Nat) → u j = F j) ∧ (∀ m, m < n → u 21 m = nI (agM Sw ms sh n m))) (fun u => wM cI cZ cJ h u G V) 0 0 := by
  refine ct_I (cc := cX5_agreeing) (maxL := 4) (ty := .int) (own := RX5) (by decide) rfl rfl (Nat.le_of_ble_eq_true rfl) (lv := [(0, .ref (h 0))]) rfl ?_
  intro p e s m args below meth c A Q ls fx hK hP hD hA hl hret
  obtain ⟨hx, hb, hml, hown, hts⟩ := id fx
  have hS : va_S A s.heap s.heap [] := va_S.rf
  have hw0 := hts (.fieldLink RX5 91 "MirrorTowerModel" "mirrors" "I") (by decide +kernel)
  have hin_X5 : ∀ w ∈ u_ws RX5 TX5 33, w ∈ wsX5_agreeing := by decide +kernel
  have hw2 := hts (.fieldLink RX5 88 "MirrorTowerModel" "inSets" "[I") (by decide +kernel)
  obtain ⟨H, hH⟩ : ∃ H, H = s.heap := ⟨_, rfl⟩
  rw [← hH] at hP ⊢
  have hS : va_S A s.heap H [] := by rw [hH]; exact hS
  generalize ([] : List Loc) = locs at hS ⊢
  refine lv_iconst (v := 0) hx hb dX5_agreeing_0 (by decide) ?_
  refine lv_istore_n (lv' := [(1, .int 0), (0, .ref (h 0))]) hx hb dX5_agreeing_1 rfl hl (by decide) rfl (fun ls hl => ?_)
  have loop2 : ∀ (fu : Nat) (k : Nat) (F1 : Nat → Nat → Int32), (k ≤ 40) → (∀ i, i < k → F1 21 i = 0) → (∀ j, j ∉ ([21] : List Nat) → F1 j = F j) → (40 - k) < fu → ∀ (H : Heap) (locs : List Loc) (ls : Array Slot), va_P (dC, dI) vwCl (wM cI cZ cJ h F1 G V) H → va_D A (wM cI cZ cJ h F1 G V) → va_S A s.heap H locs → lv_has ls 4 [(0, .ref (h 0)), (1, .int (nI k))] → W p l e rm_X5_agreeing s m args below meth c H locs 0 0 Q (F0 m 2 ls []) := by
    intro fu
    induction fu with
    | zero => intro k F1 hk hz hfr hn_; exact absurd hn_ (Nat.not_lt_zero _)
    | succ fu ih2 =>
      intro k F1 hk hz hfr hn_ H locs ls hP hD hS hl
      have hN_1 : ∀ i, i < sh → F1 20 i = nI (Ht i) := by rw [hfr 20 (by decide)]; exact hHt
      refine lv_iload_n hx hb dX5_agreeing_2 rfl (lv_at hl 1 rfl) ?_
      refine lv_bipush (v := 40) hx hb dX5_agreeing_3 (by decide) ?_
      refine lv_icmp_ge (tgt := 21) hx hb dX5_agreeing_5 (by decide) (fun c_2 => ?_) (fun c_2 => ?_)
      · have c_2 : 40 ≤ k := (nI_leI (a := 40) (b := k) (by omega) (by omega)).mp c_2
        refine lv_aload_n hx hb dX5_agreeing_21 rfl (lv_at hl 0 rfl) ?_
        refine lv_lconst (v := 0) hx hb dX5_agreeing_22 (by decide) ?_
        refine cw_Vi (As := [.long 0]) (rest := []) (c_X5_agrees l dC dI cI cZ cJ h F1 G V sh hV11 (by omega) Ht hN_1 bHt 0 Sw hG) fx (cwV 1 hts gX5_agreeing_X5_agrees rfl rfl rfl (by decide +kernel) ⟨Nat.le_of_ble_eq_true rfl, Nat.le_of_ble_eq_true rfl⟩) hK hP hD hS hA 0 rfl rfl rfl rfl hl.1 rfl (Nat.le_of_ble_eq_true rfl) dX5_agreeing_23 ⟨Nat.le_of_ble_eq_true rfl, Nat.le_of_ble_eq_true rfl⟩ (fun r_3 u_4 H locs hw_5 hP hD hS => ?_)
        have hP : va_P (dC, dI) vwCl (wM cI cZ cJ h F1 G V) H := hP
        have hD : va_D A (wM cI cZ cJ h F1 G V) := hD
        have hw_5 : r_3 = bI (agK Sw Ht 0 sh) := hw_5
        refine lv_if_eq (tgt := 33) hx hb dX5_agreeing_26 (by decide) (fun c_6 => ?_) (fun c_6 => ?_)
        · have c_6 : agK Sw Ht 0 sh = false := bI_f hw_5 c_6
          refine lv_iconst (v := 0) hx hb dX5_agreeing_33 (by decide) ?_
          refine lv_istore_n (lv' := [(1, .int 0), (0, .ref (h 0))]) hx hb dX5_agreeing_34 rfl hl (by decide) rfl (fun ls hl => ?_)
          refine lv_iconst (v := 0) hx hb dX5_agreeing_35 (by decide) ?_
          refine lv_istore_n (lv' := [(2, .int 0), (1, .int 0), (0, .ref (h 0))]) hx hb dX5_agreeing_36 rfl hl (by decide) rfl (fun ls hl => ?_)
          have loop37 : ∀ (fu : Nat) (a : Nat) (F2 : Nat → Nat → Int32), (a ≤ n) → (∀ m, m < n → F2 21 m = nI (agI Sw ms sh n a m)) → (∀ j, j ∉ ([21] : List Nat) → F2 j = F j) → (n - a) < fu → ∀ (H : Heap) (locs : List Loc) (ls : Array Slot), va_P (dC, dI) vwCl (wM cI cZ cJ h F2 G V) H → va_D A (wM cI cZ cJ h F2 G V) → va_S A s.heap H locs → lv_has ls 4 [(0, .ref (h 0)), (1, .int (nI (b01 (ag0 ms sh) + sumN (fun q => agR Sw ms sh q n) a))), (2, .int (nI a))] → W p l e rm_X5_agreeing s m args below meth c H locs 0 0 Q (F0 m 37 ls []) := by
            intro fu
            induction fu with
            | zero => intro a F2 ha hI hfr2 hn_; exact absurd hn_ (Nat.not_lt_zero _)
            | succ fu ih37 =>
              intro a F2 ha hI hfr2 hn_ H locs ls hP hD hS hl
              have hN_7 : ∀ i, i < sh → F2 20 i = nI (Ht i) := by rw [hfr2 20 (by decide)]; exact hHt
              refine lv_iload_n hx hb dX5_agreeing_37 rfl (lv_at hl 2 rfl) ?_
              refine lv_aload_n hx hb dX5_agreeing_38 rfl (lv_at hl 0 rfl) ?_
              refine va_get (D := (dC, dI)) (ci := 5) (v := .int (V 2)) (C := RX5) (T := TX5) (N := 33) hx hb hts hin_X5 hown hK hP 0 rfl rfl 2 (by decide) hw0 (fun _ h9 => h9) rfl dX5_agreeing_39 ?_
              refine lv_topi (fun x_8 ex_8 => ?_)
              obtain rfl : x_8 = nI n := ex_8.trans (hV2)
              refine lv_icmp_ge (tgt := 112) hx hb dX5_agreeing_42 (by decide) (fun c_9 => ?_) (fun c_9 => ?_)
              · have c_9 : n ≤ a := (nI_leI (a := n) (b := a) (by omega) (by omega)).mp c_9
                refine lv_iload_n hx hb dX5_agreeing_112 rfl (lv_at hl 1 rfl) ?_
                exact hret (nI (b01 (ag0 ms sh) + sumN (fun q => agR Sw ms sh q n) a)) F2 H locs 113 ls rfl dX5_agreeing_113 (by
                            have e_ : a = n := by omega
                            rw [e_] at hI
                            refine ⟨?_, hfr2, fun m hm_ => (hI m hm_).trans (by rw [agI_end hm_, agM_in hm_])⟩
                            rw [e_, agR_T]
                            rfl) (hP) (hD) hS
              · have c_9 : ¬ n ≤ a := fun h => c_9 ((nI_leI (a := n) (b := a) (by omega) (by omega)).mpr h)
                refine lv_iload_n hx hb dX5_agreeing_45 rfl (lv_at hl 2 rfl) ?_
                refine lv_istore_n (lv' := [(3, .int (nI a)), (0, .ref (h 0)), (1, .int (nI (b01 (ag0 ms sh) + sumN (fun q => agR Sw ms sh q n) a))), (2, .int (nI a))]) hx hb dX5_agreeing_46 rfl hl (by decide) rfl (fun ls hl => ?_)
                have loop47 : ∀ (fu : Nat) (b : Nat) (F3 : Nat → Nat → Int32), (b ≤ n) → (a ≤ b) → (∀ m, m < n → F3 21 m = nI (agJ Sw ms sh n a b m)) → (∀ j, j ∉ ([21] : List Nat) → F3 j = F j) → (n - b) < fu → ∀ (H : Heap) (locs : List Loc) (ls : Array Slot), va_P (dC, dI) vwCl (wM cI cZ cJ h F3 G V) H → va_D A (wM cI cZ cJ h F3 G V) → va_S A s.heap H locs → lv_has ls 4 [(0, .ref (h 0)), (1, .int (nI (b01 (ag0 ms sh) + sumN (fun q => agR Sw ms sh q n) a + agR Sw ms sh a b))), (2, .int (nI a)), (3, .int (nI b))] → W p l e rm_X5_agreeing s m args below meth c H locs 0 0 Q (F0 m 47 ls []) := by
                  intro fu
                  induction fu with
                  | zero => intro b F3 hb_ hb2 hJ hfr3 hn_; exact absurd hn_ (Nat.not_lt_zero _)
                  | succ fu ih47 =>
                    intro b F3 hb_ hb2 hJ hfr3 hn_ H locs ls hP hD hS hl
                    have hN_10 : ∀ i, i < sh → F3 20 i = nI (Ht i) := by rw [hfr3 20 (by decide)]; exact hHt
                    refine lv_iload_n hx hb dX5_agreeing_47 rfl (lv_at hl 3 rfl) ?_
                    refine lv_aload_n hx hb dX5_agreeing_48 rfl (lv_at hl 0 rfl) ?_
                    refine va_get (D := (dC, dI)) (ci := 5) (v := .int (V 2)) (C := RX5) (T := TX5) (N := 33) hx hb hts hin_X5 hown hK hP 0 rfl rfl 2 (by decide) hw0 (fun _ h9 => h9) rfl dX5_agreeing_49 ?_
                    refine lv_topi (fun x_11 ex_11 => ?_)
                    obtain rfl : x_11 = nI n := ex_11.trans (hV2)
                    refine lv_icmp_ge (tgt := 106) hx hb dX5_agreeing_52 (by decide) (fun c_12 => ?_) (fun c_12 => ?_)
                    · have c_12 : n ≤ b := (nI_leI (a := n) (b := b) (by omega) (by omega)).mp c_12
                      refine lv_iinc (v := nI (a + 1)) (lv' := [(2, .int (nI (a + 1))), (0, .ref (h 0)), (1, .int (nI (b01 (ag0 ms sh) + sumN (fun q => agR Sw ms sh q n) a + agR Sw ms sh a b))), (3, .int (nI b))]) hx hb dX5_agreeing_106 hl (k := 2) rfl (nI_1 _) (by decide) rfl (fun ls hl => ?_)
                      refine lv_goto (tgt := 37) hx hb dX5_agreeing_109 (by decide) ?_
                      have hs_ : b01 (ag0 ms sh) + sumN (fun q => agR Sw ms sh q n) (a + 1) = b01 (ag0 ms sh) + sumN (fun q => agR Sw ms sh q n) a + agR Sw ms sh a b := by
                        show b01 (ag0 ms sh) + (sumN (fun q => agR Sw ms sh q n) a + agR Sw ms sh a n) = _
                        rw [← Nat.add_assoc, show b = n by omega]
                      have hl : lv_has ls 4 [(2, .int (nI (a + 1))), (0, .ref (h 0)), (1, .int (nI (b01 (ag0 ms sh) + sumN (fun q => agR Sw ms sh q n) (a + 1)))), (3, .int (nI b))] := by rw [hs_]; exact hl
                      exact ih37 (a + 1) F3 (by omega) (fun m hm_ => by have z := hJ m hm_; rw [show b = n by omega, agJ_end hm_] at z; exact z) (fun j hj => (hfr3 j hj)) (by omega) H locs ls hP hD hS (lv_sub hl [1, 2, 0] rfl)
                    · have c_12 : ¬ n ≤ b := fun h => c_12 ((nI_leI (a := n) (b := b) (by omega) (by omega)).mpr h)
                      refine lv_aload_n hx hb dX5_agreeing_55 rfl (lv_at hl 0 rfl) ?_
                      refine lv_lconst (v := 1) hx hb dX5_agreeing_56 (by decide) ?_
                      refine lv_iload_n hx hb dX5_agreeing_57 rfl (lv_at hl 2 rfl) ?_
                      refine lv_lshl hx hb dX5_agreeing_58 rfl ?_
                      refine lv_topl (fun z_13 ez_13 => ?_)
                      refine lv_lconst (v := 1) hx hb dX5_agreeing_59 (by decide) ?_
                      refine lv_iload_n hx hb dX5_agreeing_60 rfl (lv_at hl 3 rfl) ?_
                      refine lv_lshl hx hb dX5_agreeing_61 rfl ?_
                      refine lv_topl (fun z_14 ez_14 => ?_)
                      refine lv_lor hx hb dX5_agreeing_62 ?_
                      refine lv_topl (fun z_15 ez_15 => ?_)
                      obtain rfl : z_15 = (1 : Int64) <<< ((nI a).toInt64 &&& 63) ||| (1 : Int64) <<< ((nI b).toInt64 &&& 63) := by rw [ez_15, ez_13, ez_14]
                      refine cw_Vi (As := [.long ((1 : Int64) <<< ((nI a).toInt64 &&& 63) ||| (1 : Int64) <<< ((nI b).toInt64 &&& 63))]) (rest := []) (c_X5_agrees l dC dI cI cZ cJ h F3 G V sh hV11 (by omega) Ht hN_10 bHt ((1 : Int64) <<< ((nI a).toInt64 &&& 63) ||| (1 : Int64) <<< ((nI b).toInt64 &&& 63)) Sw hG) fx (cwV 1 hts gX5_agreeing_X5_agrees rfl rfl rfl (by decide +kernel) ⟨Nat.le_of_ble_eq_true rfl, Nat.le_of_ble_eq_true rfl⟩) hK hP hD hS hA 0 rfl rfl rfl rfl hl.1 rfl (Nat.le_of_ble_eq_true rfl) dX5_agreeing_63 ⟨Nat.le_of_ble_eq_true rfl, Nat.le_of_ble_eq_true rfl⟩ (fun r_16 u_17 H locs hw_18 hP hD hS => ?_)
                      have hP : va_P (dC, dI) vwCl (wM cI cZ cJ h F3 G V) H := hP
                      have hD : va_D A (wM cI cZ cJ h F3 G V) := hD
                      have hw_18 : r_16 = bI (agK Sw Ht ((1 : Int64) <<< ((nI a).toInt64 &&& 63) ||| (1 : Int64) <<< ((nI b).toInt64 &&& 63)) sh) := hw_18
                      refine lv_if_ne (tgt := 72) hx hb dX5_agreeing_66 (by decide) (fun c_19 => ?_) (fun c_19 => ?_)
                      · have c_19 : agK Sw Ht ((1 : Int64) <<< ((nI a).toInt64 &&& 63) ||| (1 : Int64) <<< ((nI b).toInt64 &&& 63)) sh = true := bI_t hw_18 c_19
                        refine lv_iinc (v := nI ((b01 (ag0 ms sh) + sumN (fun q => agR Sw ms sh q n) a + agR Sw ms sh a b) + 1)) (lv' := [(1, .int (nI ((b01 (ag0 ms sh) + sumN (fun q => agR Sw ms sh q n) a + agR Sw ms sh a b) + 1))), (0, .ref (h 0)), (2, .int (nI a)), (3, .int (nI b))]) hx hb dX5_agreeing_72 hl (k := 1) rfl (nI_1 _) (by decide) rfl (fun ls hl => ?_)
                        refine lv_aload_n hx hb dX5_agreeing_75 rfl (lv_at hl 1 rfl) ?_
                        refine va_get (D := (dC, dI)) (ci := 5) (v := .ref (h 21)) (C := RX5) (T := TX5) (N := 33) hx hb hts hin_X5 hown hK hP 0 rfl rfl 32 (by decide) hw2 (fun _ h9 => h9) rfl dX5_agreeing_76 ?_
                        refine lv_iload_n hx hb dX5_agreeing_79 rfl (lv_at hl 2 rfl) ?_
                        refine lv_dup2_11 hx hb dX5_agreeing_80 rfl rfl ?_
                        refine va_iald hx hb hK hP 21 0 rfl rfl (vp_in_nI (n := a) (N := 40) (by omega) (by decide)) dX5_agreeing_81 ?_
                        refine lv_topi (fun x_20 ex_20 => ?_)
                        rw [nI_clamp (n := a) (by omega)] at ex_20
                        refine lv_iconst (v := 1) hx hb dX5_agreeing_82 (by decide) ?_
                        refine lv_iadd hx hb dX5_agreeing_83 ?_
                        refine va_iast hx hb hK hP hD hS 21 0 rfl rfl (vp_in_nI (n := a) (N := 40) (by omega) (by decide)) dX5_agreeing_84 (fun H locs hP hD hS => ?_)
                        obtain ⟨F_21, eF_21⟩ : ∃ z : Nat → Nat → Int32, z = va_up F3 21 (upd (F3 21) (nI a).toNatClampNeg (x_20 + 1)) := ⟨_, rfl⟩
                        have hP : va_P (dC, dI) vwCl (wM cI cZ cJ h F_21 G V) H := by rw [eF_21]; exact hP
                        have hD : va_D A (wM cI cZ cJ h F_21 G V) := by rw [eF_21]; exact hD
                        have hN_22 : ∀ i, i < sh → F_21 20 i = nI (Ht i) := by rw [eF_21]; exact hN_10
                        refine lv_iload_n hx hb dX5_agreeing_85 rfl (lv_at hl 3 rfl) ?_
                        refine lv_iload_n hx hb dX5_agreeing_86 rfl (lv_at hl 2 rfl) ?_
                        refine lv_icmp_le (tgt := 100) hx hb dX5_agreeing_87 (by decide) (fun c_23 => ?_) (fun c_23 => ?_)
                        · have c_23 : b ≤ a := (nI_leI (a := b) (b := a) (by omega) (by omega)).mp c_23
                          refine lv_iinc (v := nI (b + 1)) (lv' := [(3, .int (nI (b + 1))), (1, .int (nI ((b01 (ag0 ms sh) + sumN (fun q => agR Sw ms sh q n) a + agR Sw ms sh a b) + 1))), (0, .ref (h 0)), (2, .int (nI a))]) hx hb dX5_agreeing_100 hl (k := 3) rfl (nI_1 _) (by decide) rfl (fun ls hl => ?_)
                          refine lv_goto (tgt := 47) hx hb dX5_agreeing_103 (by decide) ?_
                          have hag_ : ag2 Sw ms sh a b = true := (agK_2 (show a < 64 by omega) (show b < 64 by omega) hHm).symm.trans c_19
                          have hl : lv_has ls 4 [(3, .int (nI (b + 1))), (1, .int (nI (b01 (ag0 ms sh) + sumN (fun q => agR Sw ms sh q n) a + agR Sw ms sh a (b + 1)))), (0, .ref (h 0)), (2, .int (nI a))] := by rw [agR_s (show a ≤ b by omega), hag_, ← Nat.add_assoc]; exact hl
                          exact ih47 (b + 1) F_21 (by omega) (by omega) (fun m hm_ => by
                            have y1 : F_21 21 = upd (F3 21) a (x_20 + 1) := by
                              rw [eF_21]; show upd (F3 21) (nI a).toNatClampNeg _ = _; rw [nI_clamp (by omega)]
                            have y3 : x_20 = nI (agJ Sw ms sh n a b a) := (ex_20).trans (hJ a (by omega))
                            rw [agJ_step m (by omega), hag_, y1]
                            by_cases e : m = a
                            · rw [e, if_pos (Or.inl rfl)]; exact pk_us.trans (by rw [y3]; exact nI_1 _)
                            · rw [pk_un e, if_neg (by omega), Nat.add_zero]; exact hJ m hm_) (fun j hj => ((va_ne eF_21 (fun h => hj (by rw [h]; decide))).trans (hfr3 j hj))) (by omega) H locs ls hP hD hS (lv_sub hl [2, 1, 3, 0] rfl)
                        · have c_23 : ¬ b ≤ a := fun h => c_23 ((nI_leI (a := b) (b := a) (by omega) (by omega)).mpr h)
                          refine lv_aload_n hx hb dX5_agreeing_90 rfl (lv_at hl 1 rfl) ?_
                          refine va_get (D := (dC, dI)) (ci := 5) (v := .ref (h 21)) (C := RX5) (T := TX5) (N := 33) hx hb hts hin_X5 hown hK hP 0 rfl rfl 32 (by decide) hw2 (fun _ h9 => h9) rfl dX5_agreeing_91 ?_
                          refine lv_iload_n hx hb dX5_agreeing_94 rfl (lv_at hl 3 rfl) ?_
                          refine lv_dup2_11 hx hb dX5_agreeing_95 rfl rfl ?_
                          refine va_iald hx hb hK hP 21 0 rfl rfl (vp_in_nI (n := b) (N := 40) (by omega) (by decide)) dX5_agreeing_96 ?_
                          refine lv_topi (fun x_24 ex_24 => ?_)
                          rw [nI_clamp (n := b) (by omega)] at ex_24
                          refine lv_iconst (v := 1) hx hb dX5_agreeing_97 (by decide) ?_
                          refine lv_iadd hx hb dX5_agreeing_98 ?_
                          refine va_iast hx hb hK hP hD hS 21 0 rfl rfl (vp_in_nI (n := b) (N := 40) (by omega) (by decide)) dX5_agreeing_99 (fun H locs hP hD hS => ?_)
                          obtain ⟨F_25, eF_25⟩ : ∃ z : Nat → Nat → Int32, z = va_up F_21 21 (upd (F_21 21) (nI b).toNatClampNeg (x_24 + 1)) := ⟨_, rfl⟩
                          have hP : va_P (dC, dI) vwCl (wM cI cZ cJ h F_25 G V) H := by rw [eF_25]; exact hP
                          have hD : va_D A (wM cI cZ cJ h F_25 G V) := by rw [eF_25]; exact hD
                          have hN_26 : ∀ i, i < sh → F_25 20 i = nI (Ht i) := by rw [eF_25]; exact hN_22
                          refine lv_iinc (v := nI (b + 1)) (lv' := [(3, .int (nI (b + 1))), (1, .int (nI ((b01 (ag0 ms sh) + sumN (fun q => agR Sw ms sh q n) a + agR Sw ms sh a b) + 1))), (0, .ref (h 0)), (2, .int (nI a))]) hx hb dX5_agreeing_100 hl (k := 3) rfl (nI_1 _) (by decide) rfl (fun ls hl => ?_)
                          refine lv_goto (tgt := 47) hx hb dX5_agreeing_103 (by decide) ?_
                          have hag_ : ag2 Sw ms sh a b = true := (agK_2 (show a < 64 by omega) (show b < 64 by omega) hHm).symm.trans c_19
                          have hl : lv_has ls 4 [(3, .int (nI (b + 1))), (1, .int (nI (b01 (ag0 ms sh) + sumN (fun q => agR Sw ms sh q n) a + agR Sw ms sh a (b + 1)))), (0, .ref (h 0)), (2, .int (nI a))] := by rw [agR_s (show a ≤ b by omega), hag_, ← Nat.add_assoc]; exact hl
                          exact ih47 (b + 1) F_25 (by omega) (by omega) (fun m hm_ => by
                            have y1 : F_21 21 = upd (F3 21) a (x_20 + 1) := by
                              rw [eF_21]; show upd (F3 21) (nI a).toNatClampNeg _ = _; rw [nI_clamp (by omega)]
                            have y3 : x_20 = nI (agJ Sw ms sh n a b a) := (ex_20).trans (hJ a (by omega))
                            have y2 : F_25 21 = upd (F_21 21) b (x_24 + 1) := by
                              rw [eF_25]; show upd (F_21 21) (nI b).toNatClampNeg _ = _; rw [nI_clamp (by omega)]
                            have y4 : x_24 = nI (agJ Sw ms sh n a b b) := by rw [ex_24, y1, pk_un (by omega)]; exact hJ b (by omega)
                            rw [agJ_step m (by omega), hag_, y2]
                            by_cases e : m = b
                            · rw [e, if_pos (Or.inr rfl)]; exact pk_us.trans (by rw [y4]; exact nI_1 _)
                            · rw [pk_un e, y1]
                              by_cases e2 : m = a
                              · rw [e2, if_pos (Or.inl rfl)]; exact pk_us.trans (by rw [y3]; exact nI_1 _)
                              · rw [pk_un e2, if_neg (by omega), Nat.add_zero]; exact hJ m hm_) (fun j hj => ((va_ne eF_25 (fun h => hj (by rw [h]; decide))).trans ((va_ne eF_21 (fun h => hj (by rw [h]; decide))).trans (hfr3 j hj)))) (by omega) H locs ls hP hD hS (lv_sub hl [2, 1, 3, 0] rfl)
                      · have c_19 : agK Sw Ht ((1 : Int64) <<< ((nI a).toInt64 &&& 63) ||| (1 : Int64) <<< ((nI b).toInt64 &&& 63)) sh = false := bI_f hw_18 c_19
                        refine lv_goto (tgt := 100) hx hb dX5_agreeing_69 (by decide) ?_
                        refine lv_iinc (v := nI (b + 1)) (lv' := [(3, .int (nI (b + 1))), (0, .ref (h 0)), (1, .int (nI (b01 (ag0 ms sh) + sumN (fun q => agR Sw ms sh q n) a + agR Sw ms sh a b))), (2, .int (nI a))]) hx hb dX5_agreeing_100 hl (k := 3) rfl (nI_1 _) (by decide) rfl (fun ls hl => ?_)
                        refine lv_goto (tgt := 47) hx hb dX5_agreeing_103 (by decide) ?_
                        have hag_ : ag2 Sw ms sh a b = false := (agK_2 (show a < 64 by omega) (show b < 64 by omega) hHm).symm.trans c_19
                        have hl : lv_has ls 4 [(3, .int (nI (b + 1))), (0, .ref (h 0)), (1, .int (nI (b01 (ag0 ms sh) + sumN (fun q => agR Sw ms sh q n) a + agR Sw ms sh a (b + 1)))), (2, .int (nI a))] := by rw [agR_s (show a ≤ b by omega), hag_, ← Nat.add_assoc]; exact hl
                        exact ih47 (b + 1) F3 (by omega) (by omega) (fun m hm_ => by
                          rw [agJ_step m (by omega), hag_, show (if m = a ∨ m = b then b01 false else 0) = 0 from by split <;> rfl, Nat.add_zero]; exact hJ m hm_) (fun j hj => (hfr3 j hj)) (by omega) H locs ls hP hD hS (lv_sub hl [1, 2, 3, 0] rfl)
                have hl : lv_has ls 4 [(3, .int (nI a)), (0, .ref (h 0)), (1, .int (nI (b01 (ag0 ms sh) + sumN (fun q => agR Sw ms sh q n) a + agR Sw ms sh a a))), (2, .int (nI a))] := by rw [agR_0, Nat.add_zero]; exact hl
                exact loop47 _ a F2 (by omega) (by omega) (fun m hm_ => (hI m hm_).trans (by rw [agJ_0])) (fun j hj => (hfr2 j hj)) (Nat.lt_succ_self _) H locs ls hP hD hS (lv_sub hl [1, 2, 3, 0] rfl)
          have hl : lv_has ls 4 [(2, .int 0), (1, .int (nI (b01 (ag0 ms sh) + sumN (fun q => agR Sw ms sh q n) 0))), (0, .ref (h 0))] := by rw [show b01 (ag0 ms sh) + sumN (fun q => agR Sw ms sh q n) 0 = 0 from by rw [← agK_0 hHm, c_6]; rfl]; exact hl
          exact loop37 _ 0 F1 (by omega) (fun m hm_ => (hz m (by omega)).trans (by rw [agI_0]; rfl)) (fun j hj => (hfr j hj)) (Nat.lt_succ_self _) H locs ls hP hD hS (lv_sub hl [2, 1, 0] rfl)
        · have c_6 : agK Sw Ht 0 sh = true := bI_t hw_5 c_6
          refine lv_iconst (v := 1) hx hb dX5_agreeing_29 (by decide) ?_
          refine lv_goto (tgt := 34) hx hb dX5_agreeing_30 (by decide) ?_
          refine lv_istore_n (lv' := [(1, .int 1), (0, .ref (h 0))]) hx hb dX5_agreeing_34 rfl hl (by decide) rfl (fun ls hl => ?_)
          refine lv_iconst (v := 0) hx hb dX5_agreeing_35 (by decide) ?_
          refine lv_istore_n (lv' := [(2, .int 0), (1, .int 1), (0, .ref (h 0))]) hx hb dX5_agreeing_36 rfl hl (by decide) rfl (fun ls hl => ?_)
          have loop37 : ∀ (fu : Nat) (a : Nat) (F2 : Nat → Nat → Int32), (a ≤ n) → (∀ m, m < n → F2 21 m = nI (agI Sw ms sh n a m)) → (∀ j, j ∉ ([21] : List Nat) → F2 j = F j) → (n - a) < fu → ∀ (H : Heap) (locs : List Loc) (ls : Array Slot), va_P (dC, dI) vwCl (wM cI cZ cJ h F2 G V) H → va_D A (wM cI cZ cJ h F2 G V) → va_S A s.heap H locs → lv_has ls 4 [(0, .ref (h 0)), (1, .int (nI (b01 (ag0 ms sh) + sumN (fun q => agR Sw ms sh q n) a))), (2, .int (nI a))] → W p l e rm_X5_agreeing s m args below meth c H locs 0 0 Q (F0 m 37 ls []) := by
            intro fu
            induction fu with
            | zero => intro a F2 ha hI hfr2 hn_; exact absurd hn_ (Nat.not_lt_zero _)
            | succ fu ih37 =>
              intro a F2 ha hI hfr2 hn_ H locs ls hP hD hS hl
              have hN_27 : ∀ i, i < sh → F2 20 i = nI (Ht i) := by rw [hfr2 20 (by decide)]; exact hHt
              refine lv_iload_n hx hb dX5_agreeing_37 rfl (lv_at hl 2 rfl) ?_
              refine lv_aload_n hx hb dX5_agreeing_38 rfl (lv_at hl 0 rfl) ?_
              refine va_get (D := (dC, dI)) (ci := 5) (v := .int (V 2)) (C := RX5) (T := TX5) (N := 33) hx hb hts hin_X5 hown hK hP 0 rfl rfl 2 (by decide) hw0 (fun _ h9 => h9) rfl dX5_agreeing_39 ?_
              refine lv_topi (fun x_28 ex_28 => ?_)
              obtain rfl : x_28 = nI n := ex_28.trans (hV2)
              refine lv_icmp_ge (tgt := 112) hx hb dX5_agreeing_42 (by decide) (fun c_29 => ?_) (fun c_29 => ?_)
              · have c_29 : n ≤ a := (nI_leI (a := n) (b := a) (by omega) (by omega)).mp c_29
                refine lv_iload_n hx hb dX5_agreeing_112 rfl (lv_at hl 1 rfl) ?_
                exact hret (nI (b01 (ag0 ms sh) + sumN (fun q => agR Sw ms sh q n) a)) F2 H locs 113 ls rfl dX5_agreeing_113 (by
                            have e_ : a = n := by omega
                            rw [e_] at hI
                            refine ⟨?_, hfr2, fun m hm_ => (hI m hm_).trans (by rw [agI_end hm_, agM_in hm_])⟩
                            rw [e_, agR_T]
                            rfl) (hP) (hD) hS
              · have c_29 : ¬ n ≤ a := fun h => c_29 ((nI_leI (a := n) (b := a) (by omega) (by omega)).mpr h)
                refine lv_iload_n hx hb dX5_agreeing_45 rfl (lv_at hl 2 rfl) ?_
                refine lv_istore_n (lv' := [(3, .int (nI a)), (0, .ref (h 0)), (1, .int (nI (b01 (ag0 ms sh) + sumN (fun q => agR Sw ms sh q n) a))), (2, .int (nI a))]) hx hb dX5_agreeing_46 rfl hl (by decide) rfl (fun ls hl => ?_)
                have loop47 : ∀ (fu : Nat) (b : Nat) (F3 : Nat → Nat → Int32), (b ≤ n) → (a ≤ b) → (∀ m, m < n → F3 21 m = nI (agJ Sw ms sh n a b m)) → (∀ j, j ∉ ([21] : List Nat) → F3 j = F j) → (n - b) < fu → ∀ (H : Heap) (locs : List Loc) (ls : Array Slot), va_P (dC, dI) vwCl (wM cI cZ cJ h F3 G V) H → va_D A (wM cI cZ cJ h F3 G V) → va_S A s.heap H locs → lv_has ls 4 [(0, .ref (h 0)), (1, .int (nI (b01 (ag0 ms sh) + sumN (fun q => agR Sw ms sh q n) a + agR Sw ms sh a b))), (2, .int (nI a)), (3, .int (nI b))] → W p l e rm_X5_agreeing s m args below meth c H locs 0 0 Q (F0 m 47 ls []) := by
                  intro fu
                  induction fu with
                  | zero => intro b F3 hb_ hb2 hJ hfr3 hn_; exact absurd hn_ (Nat.not_lt_zero _)
                  | succ fu ih47 =>
                    intro b F3 hb_ hb2 hJ hfr3 hn_ H locs ls hP hD hS hl
                    have hN_30 : ∀ i, i < sh → F3 20 i = nI (Ht i) := by rw [hfr3 20 (by decide)]; exact hHt
                    refine lv_iload_n hx hb dX5_agreeing_47 rfl (lv_at hl 3 rfl) ?_
                    refine lv_aload_n hx hb dX5_agreeing_48 rfl (lv_at hl 0 rfl) ?_
                    refine va_get (D := (dC, dI)) (ci := 5) (v := .int (V 2)) (C := RX5) (T := TX5) (N := 33) hx hb hts hin_X5 hown hK hP 0 rfl rfl 2 (by decide) hw0 (fun _ h9 => h9) rfl dX5_agreeing_49 ?_
                    refine lv_topi (fun x_31 ex_31 => ?_)
                    obtain rfl : x_31 = nI n := ex_31.trans (hV2)
                    refine lv_icmp_ge (tgt := 106) hx hb dX5_agreeing_52 (by decide) (fun c_32 => ?_) (fun c_32 => ?_)
                    · have c_32 : n ≤ b := (nI_leI (a := n) (b := b) (by omega) (by omega)).mp c_32
                      refine lv_iinc (v := nI (a + 1)) (lv' := [(2, .int (nI (a + 1))), (0, .ref (h 0)), (1, .int (nI (b01 (ag0 ms sh) + sumN (fun q => agR Sw ms sh q n) a + agR Sw ms sh a b))), (3, .int (nI b))]) hx hb dX5_agreeing_106 hl (k := 2) rfl (nI_1 _) (by decide) rfl (fun ls hl => ?_)
                      refine lv_goto (tgt := 37) hx hb dX5_agreeing_109 (by decide) ?_
                      have hs_ : b01 (ag0 ms sh) + sumN (fun q => agR Sw ms sh q n) (a + 1) = b01 (ag0 ms sh) + sumN (fun q => agR Sw ms sh q n) a + agR Sw ms sh a b := by
                        show b01 (ag0 ms sh) + (sumN (fun q => agR Sw ms sh q n) a + agR Sw ms sh a n) = _
                        rw [← Nat.add_assoc, show b = n by omega]
                      have hl : lv_has ls 4 [(2, .int (nI (a + 1))), (0, .ref (h 0)), (1, .int (nI (b01 (ag0 ms sh) + sumN (fun q => agR Sw ms sh q n) (a + 1)))), (3, .int (nI b))] := by rw [hs_]; exact hl
                      exact ih37 (a + 1) F3 (by omega) (fun m hm_ => by have z := hJ m hm_; rw [show b = n by omega, agJ_end hm_] at z; exact z) (fun j hj => (hfr3 j hj)) (by omega) H locs ls hP hD hS (lv_sub hl [1, 2, 0] rfl)
                    · have c_32 : ¬ n ≤ b := fun h => c_32 ((nI_leI (a := n) (b := b) (by omega) (by omega)).mpr h)
                      refine lv_aload_n hx hb dX5_agreeing_55 rfl (lv_at hl 0 rfl) ?_
                      refine lv_lconst (v := 1) hx hb dX5_agreeing_56 (by decide) ?_
                      refine lv_iload_n hx hb dX5_agreeing_57 rfl (lv_at hl 2 rfl) ?_
                      refine lv_lshl hx hb dX5_agreeing_58 rfl ?_
                      refine lv_topl (fun z_33 ez_33 => ?_)
                      refine lv_lconst (v := 1) hx hb dX5_agreeing_59 (by decide) ?_
                      refine lv_iload_n hx hb dX5_agreeing_60 rfl (lv_at hl 3 rfl) ?_
                      refine lv_lshl hx hb dX5_agreeing_61 rfl ?_
                      refine lv_topl (fun z_34 ez_34 => ?_)
                      refine lv_lor hx hb dX5_agreeing_62 ?_
                      refine lv_topl (fun z_35 ez_35 => ?_)
                      obtain rfl : z_35 = (1 : Int64) <<< ((nI a).toInt64 &&& 63) ||| (1 : Int64) <<< ((nI b).toInt64 &&& 63) := by rw [ez_35, ez_33, ez_34]
                      refine cw_Vi (As := [.long ((1 : Int64) <<< ((nI a).toInt64 &&& 63) ||| (1 : Int64) <<< ((nI b).toInt64 &&& 63))]) (rest := []) (c_X5_agrees l dC dI cI cZ cJ h F3 G V sh hV11 (by omega) Ht hN_30 bHt ((1 : Int64) <<< ((nI a).toInt64 &&& 63) ||| (1 : Int64) <<< ((nI b).toInt64 &&& 63)) Sw hG) fx (cwV 1 hts gX5_agreeing_X5_agrees rfl rfl rfl (by decide +kernel) ⟨Nat.le_of_ble_eq_true rfl, Nat.le_of_ble_eq_true rfl⟩) hK hP hD hS hA 0 rfl rfl rfl rfl hl.1 rfl (Nat.le_of_ble_eq_true rfl) dX5_agreeing_63 ⟨Nat.le_of_ble_eq_true rfl, Nat.le_of_ble_eq_true rfl⟩ (fun r_36 u_37 H locs hw_38 hP hD hS => ?_)
                      have hP : va_P (dC, dI) vwCl (wM cI cZ cJ h F3 G V) H := hP
                      have hD : va_D A (wM cI cZ cJ h F3 G V) := hD
                      have hw_38 : r_36 = bI (agK Sw Ht ((1 : Int64) <<< ((nI a).toInt64 &&& 63) ||| (1 : Int64) <<< ((nI b).toInt64 &&& 63)) sh) := hw_38
                      refine lv_if_ne (tgt := 72) hx hb dX5_agreeing_66 (by decide) (fun c_39 => ?_) (fun c_39 => ?_)
                      · have c_39 : agK Sw Ht ((1 : Int64) <<< ((nI a).toInt64 &&& 63) ||| (1 : Int64) <<< ((nI b).toInt64 &&& 63)) sh = true := bI_t hw_38 c_39
                        refine lv_iinc (v := nI ((b01 (ag0 ms sh) + sumN (fun q => agR Sw ms sh q n) a + agR Sw ms sh a b) + 1)) (lv' := [(1, .int (nI ((b01 (ag0 ms sh) + sumN (fun q => agR Sw ms sh q n) a + agR Sw ms sh a b) + 1))), (0, .ref (h 0)), (2, .int (nI a)), (3, .int (nI b))]) hx hb dX5_agreeing_72 hl (k := 1) rfl (nI_1 _) (by decide) rfl (fun ls hl => ?_)
                        refine lv_aload_n hx hb dX5_agreeing_75 rfl (lv_at hl 1 rfl) ?_
                        refine va_get (D := (dC, dI)) (ci := 5) (v := .ref (h 21)) (C := RX5) (T := TX5) (N := 33) hx hb hts hin_X5 hown hK hP 0 rfl rfl 32 (by decide) hw2 (fun _ h9 => h9) rfl dX5_agreeing_76 ?_
                        refine lv_iload_n hx hb dX5_agreeing_79 rfl (lv_at hl 2 rfl) ?_
                        refine lv_dup2_11 hx hb dX5_agreeing_80 rfl rfl ?_
                        refine va_iald hx hb hK hP 21 0 rfl rfl (vp_in_nI (n := a) (N := 40) (by omega) (by decide)) dX5_agreeing_81 ?_
                        refine lv_topi (fun x_40 ex_40 => ?_)
                        rw [nI_clamp (n := a) (by omega)] at ex_40
                        refine lv_iconst (v := 1) hx hb dX5_agreeing_82 (by decide) ?_
                        refine lv_iadd hx hb dX5_agreeing_83 ?_
                        refine va_iast hx hb hK hP hD hS 21 0 rfl rfl (vp_in_nI (n := a) (N := 40) (by omega) (by decide)) dX5_agreeing_84 (fun H locs hP hD hS => ?_)
                        obtain ⟨F_41, eF_41⟩ : ∃ z : Nat → Nat → Int32, z = va_up F3 21 (upd (F3 21) (nI a).toNatClampNeg (x_40 + 1)) := ⟨_, rfl⟩
                        have hP : va_P (dC, dI) vwCl (wM cI cZ cJ h F_41 G V) H := by rw [eF_41]; exact hP
                        have hD : va_D A (wM cI cZ cJ h F_41 G V) := by rw [eF_41]; exact hD
                        have hN_42 : ∀ i, i < sh → F_41 20 i = nI (Ht i) := by rw [eF_41]; exact hN_30
                        refine lv_iload_n hx hb dX5_agreeing_85 rfl (lv_at hl 3 rfl) ?_
                        refine lv_iload_n hx hb dX5_agreeing_86 rfl (lv_at hl 2 rfl) ?_
                        refine lv_icmp_le (tgt := 100) hx hb dX5_agreeing_87 (by decide) (fun c_43 => ?_) (fun c_43 => ?_)
                        · have c_43 : b ≤ a := (nI_leI (a := b) (b := a) (by omega) (by omega)).mp c_43
                          refine lv_iinc (v := nI (b + 1)) (lv' := [(3, .int (nI (b + 1))), (1, .int (nI ((b01 (ag0 ms sh) + sumN (fun q => agR Sw ms sh q n) a + agR Sw ms sh a b) + 1))), (0, .ref (h 0)), (2, .int (nI a))]) hx hb dX5_agreeing_100 hl (k := 3) rfl (nI_1 _) (by decide) rfl (fun ls hl => ?_)
                          refine lv_goto (tgt := 47) hx hb dX5_agreeing_103 (by decide) ?_
                          have hag_ : ag2 Sw ms sh a b = true := (agK_2 (show a < 64 by omega) (show b < 64 by omega) hHm).symm.trans c_39
                          have hl : lv_has ls 4 [(3, .int (nI (b + 1))), (1, .int (nI (b01 (ag0 ms sh) + sumN (fun q => agR Sw ms sh q n) a + agR Sw ms sh a (b + 1)))), (0, .ref (h 0)), (2, .int (nI a))] := by rw [agR_s (show a ≤ b by omega), hag_, ← Nat.add_assoc]; exact hl
                          exact ih47 (b + 1) F_41 (by omega) (by omega) (fun m hm_ => by
                            have y1 : F_41 21 = upd (F3 21) a (x_40 + 1) := by
                              rw [eF_41]; show upd (F3 21) (nI a).toNatClampNeg _ = _; rw [nI_clamp (by omega)]
                            have y3 : x_40 = nI (agJ Sw ms sh n a b a) := (ex_40).trans (hJ a (by omega))
                            rw [agJ_step m (by omega), hag_, y1]
                            by_cases e : m = a
                            · rw [e, if_pos (Or.inl rfl)]; exact pk_us.trans (by rw [y3]; exact nI_1 _)
                            · rw [pk_un e, if_neg (by omega), Nat.add_zero]; exact hJ m hm_) (fun j hj => ((va_ne eF_41 (fun h => hj (by rw [h]; decide))).trans (hfr3 j hj))) (by omega) H locs ls hP hD hS (lv_sub hl [2, 1, 3, 0] rfl)
                        · have c_43 : ¬ b ≤ a := fun h => c_43 ((nI_leI (a := b) (b := a) (by omega) (by omega)).mpr h)
                          refine lv_aload_n hx hb dX5_agreeing_90 rfl (lv_at hl 1 rfl) ?_
                          refine va_get (D := (dC, dI)) (ci := 5) (v := .ref (h 21)) (C := RX5) (T := TX5) (N := 33) hx hb hts hin_X5 hown hK hP 0 rfl rfl 32 (by decide) hw2 (fun _ h9 => h9) rfl dX5_agreeing_91 ?_
                          refine lv_iload_n hx hb dX5_agreeing_94 rfl (lv_at hl 3 rfl) ?_
                          refine lv_dup2_11 hx hb dX5_agreeing_95 rfl rfl ?_
                          refine va_iald hx hb hK hP 21 0 rfl rfl (vp_in_nI (n := b) (N := 40) (by omega) (by decide)) dX5_agreeing_96 ?_
                          refine lv_topi (fun x_44 ex_44 => ?_)
                          rw [nI_clamp (n := b) (by omega)] at ex_44
                          refine lv_iconst (v := 1) hx hb dX5_agreeing_97 (by decide) ?_
                          refine lv_iadd hx hb dX5_agreeing_98 ?_
                          refine va_iast hx hb hK hP hD hS 21 0 rfl rfl (vp_in_nI (n := b) (N := 40) (by omega) (by decide)) dX5_agreeing_99 (fun H locs hP hD hS => ?_)
                          obtain ⟨F_45, eF_45⟩ : ∃ z : Nat → Nat → Int32, z = va_up F_41 21 (upd (F_41 21) (nI b).toNatClampNeg (x_44 + 1)) := ⟨_, rfl⟩
                          have hP : va_P (dC, dI) vwCl (wM cI cZ cJ h F_45 G V) H := by rw [eF_45]; exact hP
                          have hD : va_D A (wM cI cZ cJ h F_45 G V) := by rw [eF_45]; exact hD
                          have hN_46 : ∀ i, i < sh → F_45 20 i = nI (Ht i) := by rw [eF_45]; exact hN_42
                          refine lv_iinc (v := nI (b + 1)) (lv' := [(3, .int (nI (b + 1))), (1, .int (nI ((b01 (ag0 ms sh) + sumN (fun q => agR Sw ms sh q n) a + agR Sw ms sh a b) + 1))), (0, .ref (h 0)), (2, .int (nI a))]) hx hb dX5_agreeing_100 hl (k := 3) rfl (nI_1 _) (by decide) rfl (fun ls hl => ?_)
                          refine lv_goto (tgt := 47) hx hb dX5_agreeing_103 (by decide) ?_
                          have hag_ : ag2 Sw ms sh a b = true := (agK_2 (show a < 64 by omega) (show b < 64 by omega) hHm).symm.trans c_39
                          have hl : lv_has ls 4 [(3, .int (nI (b + 1))), (1, .int (nI (b01 (ag0 ms sh) + sumN (fun q => agR Sw ms sh q n) a + agR Sw ms sh a (b + 1)))), (0, .ref (h 0)), (2, .int (nI a))] := by rw [agR_s (show a ≤ b by omega), hag_, ← Nat.add_assoc]; exact hl
                          exact ih47 (b + 1) F_45 (by omega) (by omega) (fun m hm_ => by
                            have y1 : F_41 21 = upd (F3 21) a (x_40 + 1) := by
                              rw [eF_41]; show upd (F3 21) (nI a).toNatClampNeg _ = _; rw [nI_clamp (by omega)]
                            have y3 : x_40 = nI (agJ Sw ms sh n a b a) := (ex_40).trans (hJ a (by omega))
                            have y2 : F_45 21 = upd (F_41 21) b (x_44 + 1) := by
                              rw [eF_45]; show upd (F_41 21) (nI b).toNatClampNeg _ = _; rw [nI_clamp (by omega)]
                            have y4 : x_44 = nI (agJ Sw ms sh n a b b) := by rw [ex_44, y1, pk_un (by omega)]; exact hJ b (by omega)
                            rw [agJ_step m (by omega), hag_, y2]
                            by_cases e : m = b
                            · rw [e, if_pos (Or.inr rfl)]; exact pk_us.trans (by rw [y4]; exact nI_1 _)
                            · rw [pk_un e, y1]
                              by_cases e2 : m = a
                              · rw [e2, if_pos (Or.inl rfl)]; exact pk_us.trans (by rw [y3]; exact nI_1 _)
                              · rw [pk_un e2, if_neg (by omega), Nat.add_zero]; exact hJ m hm_) (fun j hj => ((va_ne eF_45 (fun h => hj (by rw [h]; decide))).trans ((va_ne eF_41 (fun h => hj (by rw [h]; decide))).trans (hfr3 j hj)))) (by omega) H locs ls hP hD hS (lv_sub hl [2, 1, 3, 0] rfl)
                      · have c_39 : agK Sw Ht ((1 : Int64) <<< ((nI a).toInt64 &&& 63) ||| (1 : Int64) <<< ((nI b).toInt64 &&& 63)) sh = false := bI_f hw_38 c_39
                        refine lv_goto (tgt := 100) hx hb dX5_agreeing_69 (by decide) ?_
                        refine lv_iinc (v := nI (b + 1)) (lv' := [(3, .int (nI (b + 1))), (0, .ref (h 0)), (1, .int (nI (b01 (ag0 ms sh) + sumN (fun q => agR Sw ms sh q n) a + agR Sw ms sh a b))), (2, .int (nI a))]) hx hb dX5_agreeing_100 hl (k := 3) rfl (nI_1 _) (by decide) rfl (fun ls hl => ?_)
                        refine lv_goto (tgt := 47) hx hb dX5_agreeing_103 (by decide) ?_
                        have hag_ : ag2 Sw ms sh a b = false := (agK_2 (show a < 64 by omega) (show b < 64 by omega) hHm).symm.trans c_39
                        have hl : lv_has ls 4 [(3, .int (nI (b + 1))), (0, .ref (h 0)), (1, .int (nI (b01 (ag0 ms sh) + sumN (fun q => agR Sw ms sh q n) a + agR Sw ms sh a (b + 1)))), (2, .int (nI a))] := by rw [agR_s (show a ≤ b by omega), hag_, ← Nat.add_assoc]; exact hl
                        exact ih47 (b + 1) F3 (by omega) (by omega) (fun m hm_ => by
                          rw [agJ_step m (by omega), hag_, show (if m = a ∨ m = b then b01 false else 0) = 0 from by split <;> rfl, Nat.add_zero]; exact hJ m hm_) (fun j hj => (hfr3 j hj)) (by omega) H locs ls hP hD hS (lv_sub hl [1, 2, 3, 0] rfl)
                have hl : lv_has ls 4 [(3, .int (nI a)), (0, .ref (h 0)), (1, .int (nI (b01 (ag0 ms sh) + sumN (fun q => agR Sw ms sh q n) a + agR Sw ms sh a a))), (2, .int (nI a))] := by rw [agR_0, Nat.add_zero]; exact hl
                exact loop47 _ a F2 (by omega) (by omega) (fun m hm_ => (hI m hm_).trans (by rw [agJ_0])) (fun j hj => (hfr2 j hj)) (Nat.lt_succ_self _) H locs ls hP hD hS (lv_sub hl [1, 2, 3, 0] rfl)
          have hl : lv_has ls 4 [(2, .int 0), (1, .int (nI (b01 (ag0 ms sh) + sumN (fun q => agR Sw ms sh q n) 0))), (0, .ref (h 0))] := by rw [show b01 (ag0 ms sh) + sumN (fun q => agR Sw ms sh q n) 0 = 1 from by rw [← agK_0 hHm, c_6]; rfl]; exact hl
          exact loop37 _ 0 F1 (by omega) (fun m hm_ => (hz m (by omega)).trans (by rw [agI_0]; rfl)) (fun j hj => (hfr j hj)) (Nat.lt_succ_self _) H locs ls hP hD hS (lv_sub hl [2, 1, 0] rfl)
      · have c_2 : ¬ 40 ≤ k := fun h => c_2 ((nI_leI (a := 40) (b := k) (by omega) (by omega)).mpr h)
        refine lv_aload_n hx hb dX5_agreeing_8 rfl (lv_at hl 0 rfl) ?_
        refine va_get (D := (dC, dI)) (ci := 5) (v := .ref (h 21)) (C := RX5) (T := TX5) (N := 33) hx hb hts hin_X5 hown hK hP 0 rfl rfl 32 (by decide) hw2 (fun _ h9 => h9) rfl dX5_agreeing_9 ?_
        refine lv_iload_n hx hb dX5_agreeing_12 rfl (lv_at hl 1 rfl) ?_
        refine lv_iconst (v := 0) hx hb dX5_agreeing_13 (by decide) ?_
        refine va_iast hx hb hK hP hD hS 21 0 rfl rfl (vp_in_nI (n := k) (N := 40) (by omega) (by decide)) dX5_agreeing_14 (fun H locs hP hD hS => ?_)
        obtain ⟨F_47, eF_47⟩ : ∃ z : Nat → Nat → Int32, z = va_up F1 21 (upd (F1 21) (nI k).toNatClampNeg 0) := ⟨_, rfl⟩
        have hP : va_P (dC, dI) vwCl (wM cI cZ cJ h F_47 G V) H := by rw [eF_47]; exact hP
        have hD : va_D A (wM cI cZ cJ h F_47 G V) := by rw [eF_47]; exact hD
        have hN_48 : ∀ i, i < sh → F_47 20 i = nI (Ht i) := by rw [eF_47]; exact hN_1
        have hE_49 : F_47 21 k = 0 := by rw [eF_47]; show upd _ (nI k).toNatClampNeg _ _ = _; rw [nI_clamp (by omega)]; exact pk_us
        refine lv_iinc (v := nI (k + 1)) (lv' := [(1, .int (nI (k + 1))), (0, .ref (h 0))]) hx hb dX5_agreeing_15 hl (k := 1) rfl (nI_1 _) (by decide) rfl (fun ls hl => ?_)
        refine lv_goto (tgt := 2) hx hb dX5_agreeing_18 (by decide) ?_
        have hb_50 : ∀ i, i < k + 1 → F_47 21 i = 0 := fun i hi => by
          rw [eF_47]
          show upd (F1 21) (nI k).toNatClampNeg 0 i = 0
          rw [nI_clamp (by omega)]
          by_cases q : i = k
          · rw [q]; exact pk_us
          · rw [pk_un q]; exact hz i (by omega)
        exact ih2 (k + 1) F_47 (by omega) hb_50 (fun j hj => ((va_ne eF_47 (fun h => hj (by rw [h]; decide))).trans (hfr j hj))) (by omega) H locs ls hP hD hS (lv_sub hl [1, 0] rfl)
  exact loop2 _ 0 F (by omega) (fun i hi => absurd hi (Nat.not_lt_zero i)) (fun _ _ => rfl) (Nat.lt_succ_self _) H locs ls hP hD hS (lv_sub hl [1, 0] rfl)
