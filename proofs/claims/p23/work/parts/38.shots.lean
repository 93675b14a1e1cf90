def rm_J13_bitCount_95d88 : Room := { frames := 0, cells := 0, slots := 0, locals := 0 }
set_option maxHeartbeats 4000000 in
set_option maxRecDepth 100000 in
theorem c_J13_bitCount_95d88 (l : Launch) (dC : Nat → ClassId) (dI : Nat → Nat → Nat) (cI cZ cJ : ClassId) (w : va_W)  (q0 : Int64)   : CtI l (dC, dI) vwCl (tys3 cI cZ cJ) yJ13_bitCount_95d88 wsJ13_bitCount_95d88 rm_J13_bitCount_95d88 [.long q0] (w) (S := Unit) (fun r _ => r = nI (pc q0)) (fun _ => w) 0 0 := by
  refine ct_I (cc := cJ13_bitCount_95d88) (maxL := 2) (ty := .int) (own := RJ13) (by decide) rfl rfl (Nat.le_of_ble_eq_true rfl) (lv := [(0, .long q0)]) rfl ?_
  intro p e s m args below meth c A Q ls fx hK hP hD hA hl hret
  obtain ⟨hx, hb, hml, hown, hts⟩ := id fx
  have hS : va_S A s.heap s.heap [] := va_S.rf
  have hw0 := hts (.constantLong RJ13 314 (6148914691236517205)) (by decide +kernel)
  have hw1 := hts (.constantLong RJ13 316 (3689348814741910323)) (by decide +kernel)
  have hw2 := hts (.constantLong RJ13 318 (1085102592571150095)) (by decide +kernel)
  obtain ⟨H, hH⟩ : ∃ H, H = s.heap := ⟨_, rfl⟩
  rw [← hH] at hP ⊢
  have hS : va_S A s.heap H [] := by rw [hH]; exact hS
  generalize ([] : List Loc) = locs at hS ⊢
  refine lv_lload_n hx hb dJ13_bitCount_95d88_0 rfl (lv_at hl 0 rfl) ?_
  refine lv_lload_n hx hb dJ13_bitCount_95d88_1 rfl (lv_at hl 0 rfl) ?_
  refine lv_iconst (v := 1) hx hb dJ13_bitCount_95d88_2 (by decide) ?_
  refine lv_lushr hx hb dJ13_bitCount_95d88_3 rfl ?_
  refine lv_topl (fun z_1 ez_1 => ?_)
  refine lv_ldc2 hx hb hown hw0 dJ13_bitCount_95d88_4 ?_
  refine lv_land hx hb dJ13_bitCount_95d88_7 ?_
  refine lv_topl (fun z_2 ez_2 => ?_)
  refine lv_lsub hx hb dJ13_bitCount_95d88_8 ?_
  refine lv_topl (fun z_3 ez_3 => ?_)
  refine lv_lstore_n (lv' := [(0, .long z_3)]) hx hb dJ13_bitCount_95d88_9 rfl hl (by decide) rfl (fun ls hl => ?_)
  refine lv_lload_n hx hb dJ13_bitCount_95d88_10 rfl (lv_at hl 0 rfl) ?_
  refine lv_ldc2 hx hb hown hw1 dJ13_bitCount_95d88_11 ?_
  refine lv_land hx hb dJ13_bitCount_95d88_14 ?_
  refine lv_topl (fun z_4 ez_4 => ?_)
  refine lv_lload_n hx hb dJ13_bitCount_95d88_15 rfl (lv_at hl 0 rfl) ?_
  refine lv_iconst (v := 2) hx hb dJ13_bitCount_95d88_16 (by decide) ?_
  refine lv_lushr hx hb dJ13_bitCount_95d88_17 rfl ?_
  refine lv_topl (fun z_5 ez_5 => ?_)
  refine lv_ldc2 hx hb hown hw1 dJ13_bitCount_95d88_18 ?_
  refine lv_land hx hb dJ13_bitCount_95d88_21 ?_
  refine lv_topl (fun z_6 ez_6 => ?_)
  refine lv_ladd hx hb dJ13_bitCount_95d88_22 ?_
  refine lv_topl (fun z_7 ez_7 => ?_)
  refine lv_lstore_n (lv' := [(0, .long z_7)]) hx hb dJ13_bitCount_95d88_23 rfl hl (by decide) rfl (fun ls hl => ?_)
  refine lv_lload_n hx hb dJ13_bitCount_95d88_24 rfl (lv_at hl 0 rfl) ?_
  refine lv_lload_n hx hb dJ13_bitCount_95d88_25 rfl (lv_at hl 0 rfl) ?_
  refine lv_iconst (v := 4) hx hb dJ13_bitCount_95d88_26 (by decide) ?_
  refine lv_lushr hx hb dJ13_bitCount_95d88_27 rfl ?_
  refine lv_topl (fun z_8 ez_8 => ?_)
  refine lv_ladd hx hb dJ13_bitCount_95d88_28 ?_
  refine lv_topl (fun z_9 ez_9 => ?_)
  refine lv_ldc2 hx hb hown hw2 dJ13_bitCount_95d88_29 ?_
  refine lv_land hx hb dJ13_bitCount_95d88_32 ?_
  refine lv_topl (fun z_10 ez_10 => ?_)
  refine lv_lstore_n (lv' := [(0, .long z_10)]) hx hb dJ13_bitCount_95d88_33 rfl hl (by decide) rfl (fun ls hl => ?_)
  refine lv_lload_n hx hb dJ13_bitCount_95d88_34 rfl (lv_at hl 0 rfl) ?_
  refine lv_lload_n hx hb dJ13_bitCount_95d88_35 rfl (lv_at hl 0 rfl) ?_
  refine lv_bipush (v := 8) hx hb dJ13_bitCount_95d88_36 (by decide) ?_
  refine lv_lushr hx hb dJ13_bitCount_95d88_38 rfl ?_
  refine lv_topl (fun z_11 ez_11 => ?_)
  refine lv_ladd hx hb dJ13_bitCount_95d88_39 ?_
  refine lv_topl (fun z_12 ez_12 => ?_)
  refine lv_lstore_n (lv' := [(0, .long z_12)]) hx hb dJ13_bitCount_95d88_40 rfl hl (by decide) rfl (fun ls hl => ?_)
  refine lv_lload_n hx hb dJ13_bitCount_95d88_41 rfl (lv_at hl 0 rfl) ?_
  refine lv_lload_n hx hb dJ13_bitCount_95d88_42 rfl (lv_at hl 0 rfl) ?_
  refine lv_bipush (v := 16) hx hb dJ13_bitCount_95d88_43 (by decide) ?_
  refine lv_lushr hx hb dJ13_bitCount_95d88_45 rfl ?_
  refine lv_topl (fun z_13 ez_13 => ?_)
  refine lv_ladd hx hb dJ13_bitCount_95d88_46 ?_
  refine lv_topl (fun z_14 ez_14 => ?_)
  refine lv_lstore_n (lv' := [(0, .long z_14)]) hx hb dJ13_bitCount_95d88_47 rfl hl (by decide) rfl (fun ls hl => ?_)
  refine lv_lload_n hx hb dJ13_bitCount_95d88_48 rfl (lv_at hl 0 rfl) ?_
  refine lv_lload_n hx hb dJ13_bitCount_95d88_49 rfl (lv_at hl 0 rfl) ?_
  refine lv_bipush (v := 32) hx hb dJ13_bitCount_95d88_50 (by decide) ?_
  refine lv_lushr hx hb dJ13_bitCount_95d88_52 rfl ?_
  refine lv_topl (fun z_15 ez_15 => ?_)
  refine lv_ladd hx hb dJ13_bitCount_95d88_53 ?_
  refine lv_topl (fun z_16 ez_16 => ?_)
  refine lv_lstore_n (lv' := [(0, .long z_16)]) hx hb dJ13_bitCount_95d88_54 rfl hl (by decide) rfl (fun ls hl => ?_)
  refine lv_lload_n hx hb dJ13_bitCount_95d88_55 rfl (lv_at hl 0 rfl) ?_
  refine lv_l2i hx hb dJ13_bitCount_95d88_56 rfl ?_
  refine lv_bipush (v := 127) hx hb dJ13_bitCount_95d88_57 (by decide) ?_
  refine lv_iand hx hb dJ13_bitCount_95d88_59 ?_
  exact hret (z_16.toInt32 &&& 127) () H locs 60 ls rfl dJ13_bitCount_95d88_60 (swarL ez_1 ez_2 ez_3 ez_4 ez_5 ez_6 ez_7 ez_8 ez_9 ez_10 ez_11 ez_12 ez_13 ez_14 ez_15 ez_16) (hP) (hD) hS
def rm_X2_note : Room := { frames := 1, cells := 0, slots := 0, locals := 21 }
set_option maxHeartbeats 4000000 in
set_option maxRecDepth 100000 in
theorem c_X2_note (l : Launch) (dC : Nat → ClassId) (dI : Nat → Nat → Nat) (cI cZ cJ : ClassId) (h : Nat → Nat) (F : Nat → Nat → Int32) (V : Nat → Int32) (sh : Nat) (hV11 : V 11 = nI sh) (bV11 : sh ≤ 12) (q0 : Int64) (h0 : Nat)  (Sw : Nat → Int64) (ms : Nat → Nat) (hsh : sh < 12) (hh0 : h0 ≤ pc q0) (hMK : ∀ m, m < 40 → F 29 m = nI (mkD Sw sh m)) (hMI : V 10 = nI (msD ms sh)) : CtI l (dC, dI) vwCl (tys3 cI cZ cJ) yX2_note wsX2_note rm_X2_note [.ref (h 4), .long q0, .int (nI h0)] (wC cI cZ h F V) (S := (Nat → Nat → Int32) × (Nat → Int32)) (fun r u => r = nI sh ∧ (∀ j, j ∉ ([29] : List Nat) → u.1 j = F j) ∧ (∀ j, j ≠ 10 → j ≠ 11 → u.2 j = V j) ∧ u.2 11 = nI (sh + 1) ∧ (∀ m, m < 40 → u.1 29 m = nI (mkD (updL Sw sh q0) (sh + 1) m)) ∧ u.2 10 = nI (msD (nup ms sh (pc q0 - h0)) (sh + 1))) (fun u => wC cI cZ h u.1 u.2) 0 0 := by
  refine ct_I (cc := cX2_note) (maxL := 6) (ty := .int) (own := RX2) (by decide) rfl rfl (Nat.le_of_ble_eq_true rfl) (lv := [(0, .ref (h 4)), (1, .long q0), (3, .int (nI h0))]) rfl ?_
  intro p e s m args below meth c A Q ls fx hK hP hD hA hl hret
  obtain ⟨hx, hb, hml, hown, hts⟩ := id fx
  have hS : va_S A s.heap s.heap [] := va_S.rf
  have hw0 := hts (.fieldLink RX2 18 "MirrorTower$Shots" "size" "I") (by decide +kernel)
  have hin_X2 : ∀ w ∈ u_ws RX2 TX2 5, w ∈ wsX2_note := by decide +kernel
  have hw2 := hts (.fieldLink RX2 22 "MirrorTower$Shots" "missing" "I") (by decide +kernel)
  have hw3 := hts (.methodLink RX2 31 Lib.Math.min.name) (by decide +kernel)
  have hw4 := hts (.static Lib.Math.min.name) (by decide +kernel)
  have hw5 := hts (.initialized "java/lang/Math") (by decide +kernel)
  have hw6 := hts (.code Lib.Math.min.name Lib.Math.min.code 2 (some .int)) (by decide +kernel)
  have hw7 := hts (.fieldLink RX2 9 "MirrorTower$Shots" "marks" "[I") (by decide +kernel)
  obtain ⟨H, hH⟩ : ∃ H, H = s.heap := ⟨_, rfl⟩
  rw [← hH] at hP ⊢
  have hS : va_S A s.heap H [] := by rw [hH]; exact hS
  generalize ([] : List Loc) = locs at hS ⊢
  refine lv_iconst (v := 2) hx hb dX2_note_0 (by decide) ?_
  refine lv_aload_n hx hb dX2_note_1 rfl (lv_at hl 0 rfl) ?_
  refine va_get (D := (dC, dI)) (ci := 2) (v := .int (V 11)) (C := RX2) (T := TX2) (N := 5) hx hb hts hin_X2 hown hK hP 4 rfl rfl 2 (by decide) hw0 (fun _ h9 => h9) rfl dX2_note_2 ?_
  refine lv_topi (fun x_1 ex_1 => ?_)
  obtain rfl : x_1 = nI sh := ex_1.trans (hV11)
  refine lv_imul hx hb dX2_note_5 ?_
  refine lv_topi (fun x_2 ex_2 => ?_)
  obtain rfl : x_2 = nI (2 * sh) := ex_2.trans (pk_mul 2 sh)
  refine lv_istore (lv' := [(4, .int (nI (2 * sh))), (0, .ref (h 4)), (1, .long q0), (3, .int (nI h0))]) hx hb dX2_note_6 hl (by decide) rfl (fun ls hl => ?_)
  refine lv_iconst (v := 0) hx hb dX2_note_8 (by decide) ?_
  refine lv_istore (lv' := [(5, .int 0), (4, .int (nI (2 * sh))), (0, .ref (h 4)), (1, .long q0), (3, .int (nI h0))]) hx hb dX2_note_9 hl (by decide) rfl (fun ls hl => ?_)
  have loop11 : ∀ (fu : Nat) (k : Nat) (F1 : Nat → Nat → Int32), (k ≤ 40) → (∀ m, m < 40 → F1 29 m = nI (if m < k then mkD (updL Sw sh q0) (sh + 1) m else mkD Sw sh m)) → (∀ j, j ∉ ([29] : List Nat) → F1 j = F j) → (40 - k) < fu → ∀ (H : Heap) (locs : List Loc) (ls : Array Slot), va_P (dC, dI) vwCl (wC cI cZ h F1 V) H → va_D A (wC cI cZ h F1 V) → va_S A s.heap H locs → lv_has ls 6 [(0, .ref (h 4)), (1, .long q0), (3, .int (nI h0)), (4, .int (nI (2 * sh))), (5, .int (nI k))] → W p l e rm_X2_note s m args below meth c H locs 0 0 Q (F0 m 11 ls []) := by
    intro fu
    induction fu with
    | zero => intro k F1 hk hm hfr hn_; exact absurd hn_ (Nat.not_lt_zero _)
    | succ fu ih11 =>
      intro k F1 hk hm hfr hn_ H locs ls hP hD hS hl
      refine lv_iload hx hb dX2_note_11 (lv_at hl 4 rfl) ?_
      refine lv_bipush (v := 40) hx hb dX2_note_13 (by decide) ?_
      refine lv_icmp_ge (tgt := 44) hx hb dX2_note_15 (by decide) (fun c_3 => ?_) (fun c_3 => ?_)
      · have c_3 : 40 ≤ k := (nI_leI (a := 40) (b := k) (by omega) (by omega)).mp c_3
        refine lv_aload_n hx hb dX2_note_44 rfl (lv_at hl 0 rfl) ?_
        refine lv_dup hx hb dX2_note_45 rfl ?_
        refine va_get (D := (dC, dI)) (ci := 2) (v := .int (V 10)) (C := RX2) (T := TX2) (N := 5) hx hb hts hin_X2 hown hK hP 4 rfl rfl 1 (by decide) hw2 (fun _ h9 => h9) rfl dX2_note_46 ?_
        refine lv_iconst (v := 3) hx hb dX2_note_49 (by decide) ?_
        refine lv_lload_n hx hb dX2_note_50 rfl (lv_at hl 1 rfl) ?_
        refine cw_Si (As := [.long q0]) (rest := [.int 3, .int (V 10), .ref (h 4)]) (c_J13_bitCount_95d88 l dC dI cI cZ cJ (wC cI cZ h F1 V) q0) fx (va_cwS 1 hts gX2_note_J13_bitCount_95d88 rfl rfl rfl (by decide +kernel) ⟨Nat.le_of_ble_eq_true rfl, Nat.le_of_ble_eq_true rfl⟩) hK hP hD hS hA rfl hl.1 rfl (Nat.le_of_ble_eq_true rfl) dX2_note_51 ⟨Nat.le_of_ble_eq_true rfl, Nat.le_of_ble_eq_true rfl⟩ (fun r_4 u_5 H locs hw_6 hP hD hS => ?_)
        have hP : va_P (dC, dI) vwCl (wC cI cZ h F1 V) H := hP
        have hD : va_D A (wC cI cZ h F1 V) := hD
        obtain rfl : r_4 = nI (pc q0) := hw_6
        have hb_7 : pc q0 ≤ 64 := pc_le _
        refine lv_iload_n hx hb dX2_note_54 rfl (lv_at hl 2 rfl) ?_
        refine lv_isub hx hb dX2_note_55 ?_
        refine lv_topi (fun x_8 ex_8 => ?_)
        obtain rfl : x_8 = nI ((pc q0) - h0) := ex_8.trans (pk_sub (a := pc q0) (b := h0) (by omega))
        refine va_mmin hx hb (hml.trans hl.1.symm) hown hw3 hw4 hw5 hw6 (Nat.le_of_ble_eq_true rfl) (Nat.le_of_ble_eq_true rfl) (Nat.le_of_ble_eq_true rfl) (Nat.le_of_ble_eq_true rfl) dX2_note_56 ?_
        refine lv_topi (fun x_9 ex_9 => ?_)
        obtain rfl : x_9 = nI (min 3 ((pc q0) - h0)) := ex_9.trans (mm_min (a := 3) (b := (pc q0) - h0) (by omega) (by omega))
        refine lv_iload hx hb dX2_note_59 (lv_at hl 3 rfl) ?_
        refine lv_ishl hx hb dX2_note_61 ?_
        refine lv_topi (fun x_10 ex_10 => ?_)
        refine lv_ior hx hb dX2_note_62 ?_
        refine va_put (D := (dC, dI)) (ci := 2) (v := .int ((V 10) ||| x_10)) (ty := .int) (C := RX2) (T := TX2) (N := 5) hx hb hts hin_X2 tyX2 tyX2_ok nmX2 hown hK hP hD hS 4 rfl rfl 1 (by decide) hw2 (fun _ h9 => h9) rfl (by decide +kernel) rfl rfl (Nat.le_of_ble_eq_true rfl) dX2_note_63 (fun H locs hP hD hS => ?_)
        have hP : va_P (dC, dI) vwCl (wC cI cZ h F1 (va_up V 10 ((V 10) ||| x_10))) H := hP
        have hD : va_D A (wC cI cZ h F1 (va_up V 10 ((V 10) ||| x_10))) := hD
        refine lv_aload_n hx hb dX2_note_66 rfl (lv_at hl 0 rfl) ?_
        refine lv_dup hx hb dX2_note_67 rfl ?_
        refine va_get (D := (dC, dI)) (ci := 2) (v := .int (V 11)) (C := RX2) (T := TX2) (N := 5) hx hb hts hin_X2 hown hK hP 4 rfl rfl 2 (by decide) hw0 (fun _ h9 => h9) rfl dX2_note_68 ?_
        refine lv_topi (fun x_11 ex_11 => ?_)
        obtain rfl : x_11 = nI sh := ex_11.trans (hV11)
        refine lv_iconst (v := 1) hx hb dX2_note_71 (by decide) ?_
        refine lv_iadd hx hb dX2_note_72 ?_
        refine lv_topi (fun x_12 ex_12 => ?_)
        obtain rfl : x_12 = nI (sh + 1) := ex_12.trans (nI_add sh 1)
        refine va_put (D := (dC, dI)) (ci := 2) (v := .int (nI (sh + 1))) (ty := .int) (C := RX2) (T := TX2) (N := 5) hx hb hts hin_X2 tyX2 tyX2_ok nmX2 hown hK hP hD hS 4 rfl rfl 2 (by decide) hw0 (fun _ h9 => h9) rfl (by decide +kernel) rfl rfl (Nat.le_of_ble_eq_true rfl) dX2_note_73 (fun H locs hP hD hS => ?_)
        have hP : va_P (dC, dI) vwCl (wC cI cZ h F1 (va_up (va_up V 10 ((V 10) ||| x_10)) 11 (nI (sh + 1)))) H := hP
        have hD : va_D A (wC cI cZ h F1 (va_up (va_up V 10 ((V 10) ||| x_10)) 11 (nI (sh + 1)))) := hD
        refine lv_aload_n hx hb dX2_note_76 rfl (lv_at hl 0 rfl) ?_
        refine va_get (D := (dC, dI)) (ci := 2) (v := .int (nI (sh + 1))) (C := RX2) (T := TX2) (N := 5) hx hb hts hin_X2 hown hK hP 4 rfl rfl 2 (by decide) hw0 (fun _ h9 => h9) rfl dX2_note_77 ?_
        refine lv_iconst (v := 1) hx hb dX2_note_80 (by decide) ?_
        refine lv_isub hx hb dX2_note_81 ?_
        refine lv_topi (fun x_13 ex_13 => ?_)
        obtain rfl : x_13 = nI ((sh + 1) - 1) := ex_13.trans (pk_sub (a := sh + 1) (b := 1) (by omega))
        exact hret (nI ((sh + 1) - 1)) (F1, va_up (va_up V 10 ((V 10) ||| x_10)) 11 (nI (sh + 1))) H locs 82 ls rfl dX2_note_82 (⟨rfl, hfr, fun j h1 h2 => by show (va_up (va_up V 10 ((V 10) ||| x_10)) 11 (nI (sh + 1))) j = V j; simp only [va_up, if_neg h1, if_neg h2], rfl, fun m hm_ => (hm m hm_).trans (by rw [if_pos (by omega)]), by
                    show (V 10) ||| x_10 = _
                    rw [ex_10, hMI, or_dig (msD_lt4 ms sh) (show min 3 (pc q0 - h0) < 4 by omega) hsh, ← msD_up]⟩) (hP) (hD) hS
      · have c_3 : ¬ 40 ≤ k := fun h => c_3 ((nI_leI (a := 40) (b := k) (by omega) (by omega)).mpr h)
        refine lv_aload_n hx hb dX2_note_18 rfl (lv_at hl 0 rfl) ?_
        refine va_get (D := (dC, dI)) (ci := 2) (v := .ref (h 29)) (C := RX2) (T := TX2) (N := 5) hx hb hts hin_X2 hown hK hP 4 rfl rfl 0 (by decide) hw7 (fun _ h9 => h9) rfl dX2_note_19 ?_
        refine lv_iload hx hb dX2_note_22 (lv_at hl 4 rfl) ?_
        refine lv_dup2_11 hx hb dX2_note_24 rfl rfl ?_
        refine va_iald hx hb hK hP 29 0 rfl rfl (vp_in_nI (n := k) (N := 40) (by omega) (by decide)) dX2_note_25 ?_
        refine lv_topi (fun x_14 ex_14 => ?_)
        rw [nI_clamp (n := k) (by omega)] at ex_14
        refine lv_lload_n hx hb dX2_note_26 rfl (lv_at hl 1 rfl) ?_
        refine lv_iload hx hb dX2_note_27 (lv_at hl 4 rfl) ?_
        refine lv_lushr hx hb dX2_note_29 rfl ?_
        refine lv_topl (fun z_15 ez_15 => ?_)
        refine lv_lconst (v := 1) hx hb dX2_note_30 (by decide) ?_
        refine lv_land hx hb dX2_note_31 ?_
        refine lv_topl (fun z_16 ez_16 => ?_)
        refine lv_l2i hx hb dX2_note_32 rfl ?_
        refine lv_iload hx hb dX2_note_33 (lv_at hl 3 rfl) ?_
        refine lv_ishl hx hb dX2_note_35 ?_
        refine lv_ior hx hb dX2_note_36 ?_
        refine lv_topi (fun x_17 ex_17 => ?_)
        refine va_iast hx hb hK hP hD hS 29 0 rfl rfl (vp_in_nI (n := k) (N := 40) (by omega) (by decide)) dX2_note_37 (fun H locs hP hD hS => ?_)
        obtain ⟨F_18, eF_18⟩ : ∃ z : Nat → Nat → Int32, z = va_up F1 29 (upd (F1 29) (nI k).toNatClampNeg x_17) := ⟨_, rfl⟩
        have hP : va_P (dC, dI) vwCl (wC cI cZ h F_18 V) H := by rw [eF_18]; exact hP
        have hD : va_D A (wC cI cZ h F_18 V) := by rw [eF_18]; exact hD
        refine lv_iinc (v := nI (k + 1)) (lv' := [(5, .int (nI (k + 1))), (0, .ref (h 4)), (1, .long q0), (3, .int (nI h0)), (4, .int (nI (2 * sh)))]) hx hb dX2_note_38 hl (k := 4) rfl (nI_1 _) (by decide) rfl (fun ls hl => ?_)
        refine lv_goto (tgt := 11) hx hb dX2_note_41 (by decide) ?_
        have hv_ : x_17 = nI (mkD (updL Sw sh q0) (sh + 1) k) := by rw [ex_17, ez_16, ez_15, tb_bit q0 (show k < 64 by omega), ex_14, hm k (by omega), if_neg (Nat.lt_irrefl k), or_dig (mkD_lt4 Sw sh k) (Nat.lt_of_le_of_lt (b01_le _) (by decide)) hsh, ← mkD_up]
        have hb_19 : ∀ m, m < 40 → F_18 29 m = nI (if m < k + 1 then mkD (updL Sw sh q0) (sh + 1) m else mkD Sw sh m) := fun m hm_ => by
          rw [eF_18]
          show upd (F1 29) (nI k).toNatClampNeg x_17 m = _
          rw [nI_clamp (by omega)]
          by_cases q : m = k
          · rw [q, if_pos (by omega)]; exact pk_us.trans hv_
          · rw [pk_un q, hm m hm_]
            by_cases q2 : m < k
            · rw [if_pos q2, if_pos (by omega)]
            · rw [if_neg q2, if_neg (by omega)]
        exact ih11 (k + 1) F_18 (by omega) hb_19 (fun j hj => ((va_ne eF_18 (fun h => hj (by rw [h]; decide))).trans (hfr j hj))) (by omega) H locs ls hP hD hS (lv_sub hl [1, 2, 3, 4, 0] rfl)
  exact loop11 _ 0 F (by omega) (fun m hm_ => (hMK m hm_).trans (by rw [if_neg (Nat.not_lt_zero m)])) (fun _ _ => rfl) (Nat.lt_succ_self _) H locs ls hP hD hS (lv_sub hl [2, 3, 4, 1, 0] rfl)
def rm_X2_tally : Room := { frames := 1, cells := 0, slots := 0, locals := 23 }
set_option maxHeartbeats 4000000 in
set_option maxRecDepth 100000 in
theorem c_X2_tally (l : Launch) (dC : Nat → ClassId) (dI : Nat → Nat → Nat) (cI cZ cJ : ClassId) (h : Nat → Nat) (F : Nat → Nat → Int32) (V : Nat → Int32) (mi : Nat) (hV10 : V 10 = nI mi) (bV10 : mi ≤ 16777215) (Mk : Nat → Nat) (hMk : ∀ i, i < 40 → F 29 i = nI (Mk i)) (bMk : ∀ i, i < 40 → Mk i ≤ 16777215) (n0 : Nat) (hn0 : n0 ≤ 40)  (Sw : Nat → Int64) (ms : Nat → Nat) (sh : Nat) (hMk_ : ∀ m, m < 40 → Mk m = mkD Sw sh m) (hmi : mi = msD ms sh) : CtV l (dC, dI) vwCl (tys3 cI cZ cJ) yX2_tally wsX2_tally rm_X2_tally [.ref (h 4), .int (nI n0)] (wC cI cZ h F V) (S := (Nat → Nat → Int32) × (Nat → Int32)) (fun u => (∀ j, j ∉ ([30] : List Nat) → u.1 j = F j) ∧ (∀ j, j ≠ 12 → u.2 j = V j) ∧ u.2 12 = nI (agC Sw ms sh n0) ∧ ∀ m, m < 40 → u.1 30 m = nI (agM Sw ms sh n0 m)) (fun u => wC cI cZ h u.1 u.2) 0 0 := by
  refine ct_V (cc := cX2_tally) (maxL := 4) (own := RX2) (by decide) rfl rfl (Nat.le_of_ble_eq_true rfl) (lv := [(0, .ref (h 4)), (1, .int (nI n0))]) rfl ?_
  intro p e s m args below meth c A Q ls hnm fx hK hP hD hA hl hret
  obtain ⟨hx, hb, hml, hown, hts⟩ := id fx
  have hS : va_S A s.heap s.heap [] := va_S.rf
  have hw0 := hts (.fieldLink RX2 15 "MirrorTower$Shots" "setsWith" "[I") (by decide +kernel)
  have hin_X2 : ∀ w ∈ u_ws RX2 TX2 5, w ∈ wsX2_tally := by decide +kernel
  have hw2 := hts (.fieldLink RX2 22 "MirrorTower$Shots" "missing" "I") (by decide +kernel)
  have hw3 := hts (.fieldLink RX2 47 "MirrorTower$Shots" "sets" "I") (by decide +kernel)
  have hw4 := hts (.fieldLink RX2 9 "MirrorTower$Shots" "marks" "[I") (by decide +kernel)
  obtain ⟨H, hH⟩ : ∃ H, H = s.heap := ⟨_, rfl⟩
  rw [← hH] at hP ⊢
  have hS : va_S A s.heap H [] := by rw [hH]; exact hS
  generalize ([] : List Loc) = locs at hS ⊢
  refine lv_aload_n hx hb dX2_tally_0 rfl (lv_at hl 0 rfl) ?_
  refine va_get (D := (dC, dI)) (ci := 2) (v := .ref (h 30)) (C := RX2) (T := TX2) (N := 5) hx hb hts hin_X2 hown hK hP 4 rfl rfl 4 (by decide) hw0 (fun _ h9 => h9) rfl dX2_tally_1 ?_
  refine lv_iconst (v := 0) hx hb dX2_tally_4 (by decide) ?_
  refine cl_Sv (As := [.ref (h 30), .int 0]) (rest := []) (wr := (wC cI cZ h F V).eraseIdx 30) (c_J7_fill l dC dI cI cZ cJ (h 30) 40 (F 30) 0 (by decide)) fx (va_cwS 2 hts gX2_tally_J7_fill_53178 rfl rfl rfl (by decide +kernel) ⟨Nat.le_of_ble_eq_true rfl, Nat.le_of_ble_eq_true rfl⟩) hK hP hD hS hA [30] [0, 1, 2, 3, 4, 5, 6, 7, 8, 9, 10, 11, 12, 13, 14, 15, 16, 17, 18, 19, 20, 21, 22, 23, 24, 25, 26, 27, 28, 29] rfl rfl (by decide) (by decide) (by decide) rfl hl.1 rfl (Nat.le_of_ble_eq_true rfl) dX2_tally_5 ⟨Nat.le_of_ble_eq_true rfl, Nat.le_of_ble_eq_true rfl⟩ (fun u_1 H locs hw_2 hP hD hS => ?_)
  have hw_2 : ∀ i, i < 40 → u_1 i = 0 := hw_2
  obtain ⟨F_3, eF_3⟩ : ∃ z : Nat → Nat → Int32, z = va_up F 30 u_1 := ⟨_, rfl⟩
  have hP : va_P (dC, dI) vwCl (wC cI cZ h F_3 V) H := by rw [eF_3]; exact hP.sub [0, 1, 2, 3, 4, 5, 6, 7, 8, 9, 10, 11, 12, 13, 14, 15, 16, 17, 18, 19, 20, 21, 22, 23, 24, 25, 26, 27, 28, 29, 30] rfl
  have hD : va_D A (wC cI cZ h F_3 V) := by rw [eF_3]; exact hD.sub [0, 1, 2, 3, 4, 5, 6, 7, 8, 9, 10, 11, 12, 13, 14, 15, 16, 17, 18, 19, 20, 21, 22, 23, 24, 25, 26, 27, 28, 29, 30] (by decide) rfl
  have hF_4 : ∀ i, i < 40 → F_3 30 i = 0 := by rw [eF_3]; exact hw_2
  have hN_5 : ∀ i, i < 40 → F_3 29 i = nI (Mk i) := by rw [eF_3]; exact hMk
  refine lv_aload_n hx hb dX2_tally_8 rfl (lv_at hl 0 rfl) ?_
  refine lv_aload_n hx hb dX2_tally_9 rfl (lv_at hl 0 rfl) ?_
  refine va_get (D := (dC, dI)) (ci := 2) (v := .int (V 10)) (C := RX2) (T := TX2) (N := 5) hx hb hts hin_X2 hown hK hP 4 rfl rfl 1 (by decide) hw2 (fun _ h9 => h9) rfl dX2_tally_10 ?_
  refine lv_topi (fun x_6 ex_6 => ?_)
  obtain rfl : x_6 = nI mi := ex_6.trans (hV10)
  refine lv_if_ne (tgt := 20) hx hb dX2_tally_13 (by decide) (fun c_7 => ?_) (fun c_7 => ?_)
  · have c_7 : ¬ mi = 0 := fun h => c_7 ((nI_eq (a := mi) (b := 0) (by omega) (by omega)).mpr h)
    refine lv_iconst (v := 0) hx hb dX2_tally_20 (by decide) ?_
    refine va_put (D := (dC, dI)) (ci := 2) (v := .int 0) (ty := .int) (C := RX2) (T := TX2) (N := 5) hx hb hts hin_X2 tyX2 tyX2_ok nmX2 hown hK hP hD hS 4 rfl rfl 3 (by decide) hw3 (fun _ h9 => h9) rfl (by decide +kernel) rfl rfl (Nat.le_of_ble_eq_true rfl) dX2_tally_21 (fun H locs hP hD hS => ?_)
    have hP : va_P (dC, dI) vwCl (wC cI cZ h F_3 (va_up V 12 0)) H := hP
    have hD : va_D A (wC cI cZ h F_3 (va_up V 12 0)) := hD
    refine lv_iconst (v := 0) hx hb dX2_tally_24 (by decide) ?_
    refine lv_istore_n (lv' := [(2, .int 0), (0, .ref (h 4)), (1, .int (nI n0))]) hx hb dX2_tally_25 rfl hl (by decide) rfl (fun ls hl => ?_)
    have loop26 : ∀ (fu : Nat) (k : Nat) (F1 : Nat → Nat → Int32) (V1 : Nat → Int32), (k ≤ n0) → (V1 12 = nI (agC Sw ms sh k)) → (∀ m, m < 40 → F1 30 m = nI (agM Sw ms sh k m)) → (∀ j, j ∉ ([30] : List Nat) → F1 j = F j) → (∀ j, j ≠ 12 → V1 j = V j) → (n0 - k) < fu → ∀ (H : Heap) (locs : List Loc) (ls : Array Slot), va_P (dC, dI) vwCl (wC cI cZ h F1 V1) H → va_D A (wC cI cZ h F1 V1) → va_S A s.heap H locs → lv_has ls 4 [(0, .ref (h 4)), (1, .int (nI n0)), (2, .int (nI k))] → W p l e rm_X2_tally s m args below meth c H locs 0 0 Q (F0 m 26 ls []) := by
      intro fu
      induction fu with
      | zero => intro k F1 V1 hk h12 h30 hfr hvr hn_; exact absurd hn_ (Nat.not_lt_zero _)
      | succ fu ih26 =>
        intro k F1 V1 hk h12 h30 hfr hvr hn_ H locs ls hP hD hS hl
        have hN_8 : ∀ i, i < 40 → F1 29 i = nI (Mk i) := by rw [hfr 29 (by decide)]; exact hMk
        have hV_9 : V1 10 = nI mi := by rw [hvr 10 (by decide)]; exact hV10
        have hcl_ : agC Sw ms sh k ≤ 1641 := agC_le (by omega)
        refine lv_iload_n hx hb dX2_tally_26 rfl (lv_at hl 2 rfl) ?_
        refine lv_iload_n hx hb dX2_tally_27 rfl (lv_at hl 1 rfl) ?_
        refine lv_icmp_ge (tgt := 133) hx hb dX2_tally_28 (by decide) (fun c_10 => ?_) (fun c_10 => ?_)
        · have c_10 : n0 ≤ k := (nI_leI (a := n0) (b := k) (by omega) (by omega)).mp c_10
          exact hret (F1, V1) H locs 133 ls dX2_tally_133 (by
                      have e_ : k = n0 := by omega
                      rw [e_] at h12 h30
                      exact ⟨hfr, hvr, h12, h30⟩) (hP) (hD) hS
        · have c_10 : ¬ n0 ≤ k := fun h => c_10 ((nI_leI (a := n0) (b := k) (by omega) (by omega)).mpr h)
          refine lv_aload_n hx hb dX2_tally_31 rfl (lv_at hl 0 rfl) ?_
          refine va_get (D := (dC, dI)) (ci := 2) (v := .ref (h 29)) (C := RX2) (T := TX2) (N := 5) hx hb hts hin_X2 hown hK hP 4 rfl rfl 0 (by decide) hw4 (fun _ h9 => h9) rfl dX2_tally_32 ?_
          refine lv_iload_n hx hb dX2_tally_35 rfl (lv_at hl 2 rfl) ?_
          refine va_iald hx hb hK hP 29 0 rfl rfl (vp_in_nI (n := k) (N := 40) (by omega) (by decide)) dX2_tally_36 ?_
          have hb_11 := bMk k (by omega)
          refine lv_topi (fun x_12 ex_12 => ?_)
          obtain rfl : x_12 = nI (Mk k) := ex_12.trans ((congrArg (F1 29) (nI_clamp (n := k) (by omega))).trans (hN_8 k (by omega)))
          refine lv_aload_n hx hb dX2_tally_37 rfl (lv_at hl 0 rfl) ?_
          refine va_get (D := (dC, dI)) (ci := 2) (v := .int (V1 10)) (C := RX2) (T := TX2) (N := 5) hx hb hts hin_X2 hown hK hP 4 rfl rfl 1 (by decide) hw2 (fun _ h9 => h9) rfl dX2_tally_38 ?_
          refine lv_topi (fun x_13 ex_13 => ?_)
          obtain rfl : x_13 = nI mi := ex_13.trans (hV_9)
          refine lv_icmp_ne (tgt := 64) hx hb dX2_tally_41 (by decide) (fun c_14 => ?_) (fun c_14 => ?_)
          · have c_14 : ¬ (Mk k) = mi := fun h => c_14 ((nI_eq (a := Mk k) (b := mi) (by omega) (by omega)).mpr h)
            refine lv_iconst (v := 0) hx hb dX2_tally_64 (by decide) ?_
            refine lv_istore_n (lv' := [(3, .int 0), (0, .ref (h 4)), (1, .int (nI n0)), (2, .int (nI k))]) hx hb dX2_tally_65 rfl hl (by decide) rfl (fun ls hl => ?_)
            have loop66 : ∀ (fu : Nat) (q : Nat) (F2 : Nat → Nat → Int32) (V2 : Nat → Int32), (q ≤ k) → (V2 12 = nI (agC Sw ms sh k + b01 (ag2 Sw ms sh k k) + agW Sw ms sh k q)) → (∀ m, m < 40 → F2 30 m = nI (agL Sw ms sh k q m)) → (∀ j, j ∉ ([30] : List Nat) → F2 j = F j) → (∀ j, j ≠ 12 → V2 j = V j) → (k - q) < fu → ∀ (H : Heap) (locs : List Loc) (ls : Array Slot), va_P (dC, dI) vwCl (wC cI cZ h F2 V2) H → va_D A (wC cI cZ h F2 V2) → va_S A s.heap H locs → lv_has ls 4 [(0, .ref (h 4)), (1, .int (nI n0)), (2, .int (nI k)), (3, .int (nI q))] → W p l e rm_X2_tally s m args below meth c H locs 0 0 Q (F0 m 66 ls []) := by
              intro fu
              induction fu with
              | zero => intro q F2 V2 hq h12b h30b hfr2 hvr2 hn_; exact absurd hn_ (Nat.not_lt_zero _)
              | succ fu ih66 =>
                intro q F2 V2 hq h12b h30b hfr2 hvr2 hn_ H locs ls hP hD hS hl
                have hN_15 : ∀ i, i < 40 → F2 29 i = nI (Mk i) := by rw [hfr2 29 (by decide)]; exact hMk
                have hV_16 : V2 10 = nI mi := by rw [hvr2 10 (by decide)]; exact hV10
                have hcl_ : agC Sw ms sh k ≤ 1641 := agC_le (by omega)
                have hcw_ := agW_n Sw ms sh k q
                have hcb_ := b01_le (ag2 Sw ms sh k k)
                refine lv_iload_n hx hb dX2_tally_66 rfl (lv_at hl 3 rfl) ?_
                refine lv_iload_n hx hb dX2_tally_67 rfl (lv_at hl 2 rfl) ?_
                refine lv_icmp_ge (tgt := 127) hx hb dX2_tally_68 (by decide) (fun c_17 => ?_) (fun c_17 => ?_)
                · have c_17 : k ≤ q := (nI_leI (a := k) (b := q) (by omega) (by omega)).mp c_17
                  refine lv_iinc (v := nI (k + 1)) (lv' := [(2, .int (nI (k + 1))), (0, .ref (h 4)), (1, .int (nI n0)), (3, .int (nI q))]) hx hb dX2_tally_127 hl (k := 2) rfl (nI_1 _) (by decide) rfl (fun ls hl => ?_)
                  refine lv_goto (tgt := 26) hx hb dX2_tally_130 (by decide) ?_
                  exact ih26 (k + 1) F2 V2 (by omega) (by rw [← agC_end]; have z := h12b; rw [show q = k by omega] at z; exact z) (fun m hm_ => by have z := h30b m hm_; rw [show q = k by omega, agL_end] at z; exact z) (fun j hj => (hfr2 j hj)) hvr2 (by omega) H locs ls hP hD hS (lv_sub hl [1, 2, 0] rfl)
                · have c_17 : ¬ k ≤ q := fun h => c_17 ((nI_leI (a := k) (b := q) (by omega) (by omega)).mpr h)
                  refine lv_aload_n hx hb dX2_tally_71 rfl (lv_at hl 0 rfl) ?_
                  refine va_get (D := (dC, dI)) (ci := 2) (v := .ref (h 29)) (C := RX2) (T := TX2) (N := 5) hx hb hts hin_X2 hown hK hP 4 rfl rfl 0 (by decide) hw4 (fun _ h9 => h9) rfl dX2_tally_72 ?_
                  refine lv_iload_n hx hb dX2_tally_75 rfl (lv_at hl 2 rfl) ?_
                  refine va_iald hx hb hK hP 29 0 rfl rfl (vp_in_nI (n := k) (N := 40) (by omega) (by decide)) dX2_tally_76 ?_
                  have hb_18 := bMk k (by omega)
                  refine lv_topi (fun x_19 ex_19 => ?_)
                  obtain rfl : x_19 = nI (Mk k) := ex_19.trans ((congrArg (F2 29) (nI_clamp (n := k) (by omega))).trans (hN_15 k (by omega)))
                  refine lv_aload_n hx hb dX2_tally_77 rfl (lv_at hl 0 rfl) ?_
                  refine va_get (D := (dC, dI)) (ci := 2) (v := .ref (h 29)) (C := RX2) (T := TX2) (N := 5) hx hb hts hin_X2 hown hK hP 4 rfl rfl 0 (by decide) hw4 (fun _ h9 => h9) rfl dX2_tally_78 ?_
                  refine lv_iload_n hx hb dX2_tally_81 rfl (lv_at hl 3 rfl) ?_
                  refine va_iald hx hb hK hP 29 0 rfl rfl (vp_in_nI (n := q) (N := 40) (by omega) (by decide)) dX2_tally_82 ?_
                  have hb_20 := bMk q (by omega)
                  refine lv_topi (fun x_21 ex_21 => ?_)
                  obtain rfl : x_21 = nI (Mk q) := ex_21.trans ((congrArg (F2 29) (nI_clamp (n := q) (by omega))).trans (hN_15 q (by omega)))
                  refine lv_iadd hx hb dX2_tally_83 ?_
                  refine lv_topi (fun x_22 ex_22 => ?_)
                  obtain rfl : x_22 = nI ((Mk k) + (Mk q)) := ex_22.trans (nI_add (Mk k) (Mk q))
                  refine lv_aload_n hx hb dX2_tally_84 rfl (lv_at hl 0 rfl) ?_
                  refine va_get (D := (dC, dI)) (ci := 2) (v := .int (V2 10)) (C := RX2) (T := TX2) (N := 5) hx hb hts hin_X2 hown hK hP 4 rfl rfl 1 (by decide) hw2 (fun _ h9 => h9) rfl dX2_tally_85 ?_
                  refine lv_topi (fun x_23 ex_23 => ?_)
                  obtain rfl : x_23 = nI mi := ex_23.trans (hV_16)
                  refine lv_icmp_ne (tgt := 121) hx hb dX2_tally_88 (by decide) (fun c_24 => ?_) (fun c_24 => ?_)
                  · have c_24 : ¬ ((Mk k) + (Mk q)) = mi := fun h => c_24 ((nI_eq (a := (Mk k) + (Mk q)) (b := mi) (by omega) (by omega)).mpr h)
                    refine lv_iinc (v := nI (q + 1)) (lv' := [(3, .int (nI (q + 1))), (0, .ref (h 4)), (1, .int (nI n0)), (2, .int (nI k))]) hx hb dX2_tally_121 hl (k := 3) rfl (nI_1 _) (by decide) rfl (fun ls hl => ?_)
                    refine lv_goto (tgt := 66) hx hb dX2_tally_124 (by decide) ?_
                    have hag_ : ag2 Sw ms sh q k = false := by
                      rw [ag2_comm]
                      exact b_nt (fun z => c_24 (by rw [hMk_ k (by omega), hMk_ q (by omega), hmi]; exact (ag2_eq (show k ≠ q by omega)).mpr z))
                    exact ih66 (q + 1) F2 V2 (by omega) (h12b.trans (by rw [agW_s, hag_]; rfl)) (fun m hm_ => by
                      rw [agL_step m (by omega), hag_, show (if m = k ∨ m = q then b01 false else 0) = 0 from by split <;> rfl, Nat.add_zero]; exact h30b m hm_) (fun j hj => (hfr2 j hj)) hvr2 (by omega) H locs ls hP hD hS (lv_sub hl [1, 2, 3, 0] rfl)
                  · have c_24 : ((Mk k) + (Mk q)) = mi := (nI_eq (a := (Mk k) + (Mk q)) (b := mi) (by omega) (by omega)).mp c_24
                    refine lv_aload_n hx hb dX2_tally_91 rfl (lv_at hl 0 rfl) ?_
                    refine lv_dup hx hb dX2_tally_92 rfl ?_
                    refine va_get (D := (dC, dI)) (ci := 2) (v := .int (V2 12)) (C := RX2) (T := TX2) (N := 5) hx hb hts hin_X2 hown hK hP 4 rfl rfl 3 (by decide) hw3 (fun _ h9 => h9) rfl dX2_tally_93 ?_
                    refine lv_topi (fun x_25 ex_25 => ?_)
                    obtain rfl : x_25 = nI (agC Sw ms sh k + b01 (ag2 Sw ms sh k k) + agW Sw ms sh k q) := ex_25.trans (h12b)
                    refine lv_iconst (v := 1) hx hb dX2_tally_96 (by decide) ?_
                    refine lv_iadd hx hb dX2_tally_97 ?_
                    refine lv_topi (fun x_26 ex_26 => ?_)
                    obtain rfl : x_26 = nI ((agC Sw ms sh k + b01 (ag2 Sw ms sh k k) + agW Sw ms sh k q) + 1) := ex_26.trans (nI_add (agC Sw ms sh k + b01 (ag2 Sw ms sh k k) + agW Sw ms sh k q) 1)
                    refine va_put (D := (dC, dI)) (ci := 2) (v := .int (nI ((agC Sw ms sh k + b01 (ag2 Sw ms sh k k) + agW Sw ms sh k q) + 1))) (ty := .int) (C := RX2) (T := TX2) (N := 5) hx hb hts hin_X2 tyX2 tyX2_ok nmX2 hown hK hP hD hS 4 rfl rfl 3 (by decide) hw3 (fun _ h9 => h9) rfl (by decide +kernel) rfl rfl (Nat.le_of_ble_eq_true rfl) dX2_tally_98 (fun H locs hP hD hS => ?_)
                    have hP : va_P (dC, dI) vwCl (wC cI cZ h F2 (va_up V2 12 (nI ((agC Sw ms sh k + b01 (ag2 Sw ms sh k k) + agW Sw ms sh k q) + 1)))) H := hP
                    have hD : va_D A (wC cI cZ h F2 (va_up V2 12 (nI ((agC Sw ms sh k + b01 (ag2 Sw ms sh k k) + agW Sw ms sh k q) + 1)))) := hD
                    refine lv_aload_n hx hb dX2_tally_101 rfl (lv_at hl 0 rfl) ?_
                    refine va_get (D := (dC, dI)) (ci := 2) (v := .ref (h 30)) (C := RX2) (T := TX2) (N := 5) hx hb hts hin_X2 hown hK hP 4 rfl rfl 4 (by decide) hw0 (fun _ h9 => h9) rfl dX2_tally_102 ?_
                    refine lv_iload_n hx hb dX2_tally_105 rfl (lv_at hl 2 rfl) ?_
                    refine lv_dup2_11 hx hb dX2_tally_106 rfl rfl ?_
                    refine va_iald hx hb hK hP 30 0 rfl rfl (vp_in_nI (n := k) (N := 40) (by omega) (by decide)) dX2_tally_107 ?_
                    refine lv_topi (fun x_27 ex_27 => ?_)
                    rw [nI_clamp (n := k) (by omega)] at ex_27
                    refine lv_iconst (v := 1) hx hb dX2_tally_108 (by decide) ?_
                    refine lv_iadd hx hb dX2_tally_109 ?_
                    refine va_iast hx hb hK hP hD hS 30 0 rfl rfl (vp_in_nI (n := k) (N := 40) (by omega) (by decide)) dX2_tally_110 (fun H locs hP hD hS => ?_)
                    obtain ⟨F_28, eF_28⟩ : ∃ z : Nat → Nat → Int32, z = va_up F2 30 (upd (F2 30) (nI k).toNatClampNeg (x_27 + 1)) := ⟨_, rfl⟩
                    have hP : va_P (dC, dI) vwCl (wC cI cZ h F_28 (va_up V2 12 (nI ((agC Sw ms sh k + b01 (ag2 Sw ms sh k k) + agW Sw ms sh k q) + 1)))) H := by rw [eF_28]; exact hP
                    have hD : va_D A (wC cI cZ h F_28 (va_up V2 12 (nI ((agC Sw ms sh k + b01 (ag2 Sw ms sh k k) + agW Sw ms sh k q) + 1)))) := by rw [eF_28]; exact hD
                    have hN_29 : ∀ i, i < 40 → F_28 29 i = nI (Mk i) := by rw [eF_28]; exact hN_15
                    refine lv_aload_n hx hb dX2_tally_111 rfl (lv_at hl 0 rfl) ?_
                    refine va_get (D := (dC, dI)) (ci := 2) (v := .ref (h 30)) (C := RX2) (T := TX2) (N := 5) hx hb hts hin_X2 hown hK hP 4 rfl rfl 4 (by decide) hw0 (fun _ h9 => h9) rfl dX2_tally_112 ?_
                    refine lv_iload_n hx hb dX2_tally_115 rfl (lv_at hl 3 rfl) ?_
                    refine lv_dup2_11 hx hb dX2_tally_116 rfl rfl ?_
                    refine va_iald hx hb hK hP 30 0 rfl rfl (vp_in_nI (n := q) (N := 40) (by omega) (by decide)) dX2_tally_117 ?_
                    refine lv_topi (fun x_30 ex_30 => ?_)
                    rw [nI_clamp (n := q) (by omega)] at ex_30
                    refine lv_iconst (v := 1) hx hb dX2_tally_118 (by decide) ?_
                    refine lv_iadd hx hb dX2_tally_119 ?_
                    refine va_iast hx hb hK hP hD hS 30 0 rfl rfl (vp_in_nI (n := q) (N := 40) (by omega) (by decide)) dX2_tally_120 (fun H locs hP hD hS => ?_)
                    obtain ⟨F_31, eF_31⟩ : ∃ z : Nat → Nat → Int32, z = va_up F_28 30 (upd (F_28 30) (nI q).toNatClampNeg (x_30 + 1)) := ⟨_, rfl⟩
                    have hP : va_P (dC, dI) vwCl (wC cI cZ h F_31 (va_up V2 12 (nI ((agC Sw ms sh k + b01 (ag2 Sw ms sh k k) + agW Sw ms sh k q) + 1)))) H := by rw [eF_31]; exact hP
                    have hD : va_D A (wC cI cZ h F_31 (va_up V2 12 (nI ((agC Sw ms sh k + b01 (ag2 Sw ms sh k k) + agW Sw ms sh k q) + 1)))) := by rw [eF_31]; exact hD
                    have hN_32 : ∀ i, i < 40 → F_31 29 i = nI (Mk i) := by rw [eF_31]; exact hN_29
                    refine lv_iinc (v := nI (q + 1)) (lv' := [(3, .int (nI (q + 1))), (0, .ref (h 4)), (1, .int (nI n0)), (2, .int (nI k))]) hx hb dX2_tally_121 hl (k := 3) rfl (nI_1 _) (by decide) rfl (fun ls hl => ?_)
                    refine lv_goto (tgt := 66) hx hb dX2_tally_124 (by decide) ?_
                    have hag_ : ag2 Sw ms sh q k = true := by rw [ag2_comm]; exact (ag2_eq (show k ≠ q by omega)).mp (by rw [← hMk_ k (by omega), ← hMk_ q (by omega), ← hmi]; exact c_24)
                    exact ih66 (q + 1) F_31 (va_up V2 12 (nI ((agC Sw ms sh k + b01 (ag2 Sw ms sh k k) + agW Sw ms sh k q) + 1))) (by omega) (by show nI (agC Sw ms sh k + b01 (ag2 Sw ms sh k k) + agW Sw ms sh k q + 1) = nI (agC Sw ms sh k + b01 (ag2 Sw ms sh k k) + agW Sw ms sh k (q + 1)); rw [agW_s, hag_]; rfl) (fun m hm_ => by
                      have y1 : F_28 30 = upd (F2 30) k (x_27 + 1) := by
                        rw [eF_28]; show upd (F2 30) (nI k).toNatClampNeg _ = _; rw [nI_clamp (by omega)]
                      have y2 : F_31 30 = upd (F_28 30) q (x_30 + 1) := by
                        rw [eF_31]; show upd (F_28 30) (nI q).toNatClampNeg _ = _; rw [nI_clamp (by omega)]
                      have y3 : x_27 = nI (agL Sw ms sh k q k) := (ex_27).trans (h30b k (by omega))
                      have y4 : x_30 = nI (agL Sw ms sh k q q) := by rw [ex_30, y1, pk_un (by omega)]; exact h30b q (by omega)
                      rw [agL_step m (by omega), hag_, y2]
                      by_cases e : m = q
                      · rw [e, if_pos (Or.inr rfl)]; exact pk_us.trans (by rw [y4]; exact nI_1 _)
                      · rw [pk_un e, y1]
                        by_cases e2 : m = k
                        · rw [e2, if_pos (Or.inl rfl)]; exact pk_us.trans (by rw [y3]; exact nI_1 _)
                        · rw [pk_un e2, if_neg (by omega), Nat.add_zero]; exact h30b m hm_) (fun j hj => ((va_ne eF_31 (fun h => hj (by rw [h]; decide))).trans ((va_ne eF_28 (fun h => hj (by rw [h]; decide))).trans (hfr2 j hj)))) (fun j hj => by show (va_up V2 12 (nI ((agC Sw ms sh k + b01 (ag2 Sw ms sh k k) + agW Sw ms sh k q) + 1))) j = V j; simp only [va_up, if_neg hj]; exact hvr2 j hj) (by omega) H locs ls hP hD hS (lv_sub hl [1, 2, 3, 0] rfl)
            have hag_ : ag2 Sw ms sh k k = false := b_nt (fun q => c_14 (by rw [hMk_ k (by omega), hmi]; exact ag1_eq.mpr q))
            exact loop66 _ 0 F1 V1 (by omega) (h12.trans (by rw [hag_]; rfl)) (fun m hm_ => by
              rw [agL_0, hag_, show (if m = k then b01 false else 0) = 0 from by split <;> rfl, Nat.add_zero]; exact h30 m hm_) (fun j hj => (hfr j hj)) hvr (Nat.lt_succ_self _) H locs ls hP hD hS (lv_sub hl [1, 2, 3, 0] rfl)
          · have c_14 : (Mk k) = mi := (nI_eq (a := Mk k) (b := mi) (by omega) (by omega)).mp c_14
            refine lv_aload_n hx hb dX2_tally_44 rfl (lv_at hl 0 rfl) ?_
            refine lv_dup hx hb dX2_tally_45 rfl ?_
            refine va_get (D := (dC, dI)) (ci := 2) (v := .int (V1 12)) (C := RX2) (T := TX2) (N := 5) hx hb hts hin_X2 hown hK hP 4 rfl rfl 3 (by decide) hw3 (fun _ h9 => h9) rfl dX2_tally_46 ?_
            refine lv_topi (fun x_33 ex_33 => ?_)
            obtain rfl : x_33 = nI (agC Sw ms sh k) := ex_33.trans (h12)
            refine lv_iconst (v := 1) hx hb dX2_tally_49 (by decide) ?_
            refine lv_iadd hx hb dX2_tally_50 ?_
            refine lv_topi (fun x_34 ex_34 => ?_)
            obtain rfl : x_34 = nI ((agC Sw ms sh k) + 1) := ex_34.trans (nI_add (agC Sw ms sh k) 1)
            refine va_put (D := (dC, dI)) (ci := 2) (v := .int (nI ((agC Sw ms sh k) + 1))) (ty := .int) (C := RX2) (T := TX2) (N := 5) hx hb hts hin_X2 tyX2 tyX2_ok nmX2 hown hK hP hD hS 4 rfl rfl 3 (by decide) hw3 (fun _ h9 => h9) rfl (by decide +kernel) rfl rfl (Nat.le_of_ble_eq_true rfl) dX2_tally_51 (fun H locs hP hD hS => ?_)
            have hP : va_P (dC, dI) vwCl (wC cI cZ h F1 (va_up V1 12 (nI ((agC Sw ms sh k) + 1)))) H := hP
            have hD : va_D A (wC cI cZ h F1 (va_up V1 12 (nI ((agC Sw ms sh k) + 1)))) := hD
            refine lv_aload_n hx hb dX2_tally_54 rfl (lv_at hl 0 rfl) ?_
            refine va_get (D := (dC, dI)) (ci := 2) (v := .ref (h 30)) (C := RX2) (T := TX2) (N := 5) hx hb hts hin_X2 hown hK hP 4 rfl rfl 4 (by decide) hw0 (fun _ h9 => h9) rfl dX2_tally_55 ?_
            refine lv_iload_n hx hb dX2_tally_58 rfl (lv_at hl 2 rfl) ?_
            refine lv_dup2_11 hx hb dX2_tally_59 rfl rfl ?_
            refine va_iald hx hb hK hP 30 0 rfl rfl (vp_in_nI (n := k) (N := 40) (by omega) (by decide)) dX2_tally_60 ?_
            refine lv_topi (fun x_35 ex_35 => ?_)
            rw [nI_clamp (n := k) (by omega)] at ex_35
            refine lv_iconst (v := 1) hx hb dX2_tally_61 (by decide) ?_
            refine lv_iadd hx hb dX2_tally_62 ?_
            refine va_iast hx hb hK hP hD hS 30 0 rfl rfl (vp_in_nI (n := k) (N := 40) (by omega) (by decide)) dX2_tally_63 (fun H locs hP hD hS => ?_)
            obtain ⟨F_36, eF_36⟩ : ∃ z : Nat → Nat → Int32, z = va_up F1 30 (upd (F1 30) (nI k).toNatClampNeg (x_35 + 1)) := ⟨_, rfl⟩
            have hP : va_P (dC, dI) vwCl (wC cI cZ h F_36 (va_up V1 12 (nI ((agC Sw ms sh k) + 1)))) H := by rw [eF_36]; exact hP
            have hD : va_D A (wC cI cZ h F_36 (va_up V1 12 (nI ((agC Sw ms sh k) + 1)))) := by rw [eF_36]; exact hD
            have hN_37 : ∀ i, i < 40 → F_36 29 i = nI (Mk i) := by rw [eF_36]; exact hN_8
            refine lv_iconst (v := 0) hx hb dX2_tally_64 (by decide) ?_
            refine lv_istore_n (lv' := [(3, .int 0), (0, .ref (h 4)), (1, .int (nI n0)), (2, .int (nI k))]) hx hb dX2_tally_65 rfl hl (by decide) rfl (fun ls hl => ?_)
            have loop66 : ∀ (fu : Nat) (q : Nat) (F2 : Nat → Nat → Int32) (V2 : Nat → Int32), (q ≤ k) → (V2 12 = nI (agC Sw ms sh k + b01 (ag2 Sw ms sh k k) + agW Sw ms sh k q)) → (∀ m, m < 40 → F2 30 m = nI (agL Sw ms sh k q m)) → (∀ j, j ∉ ([30] : List Nat) → F2 j = F j) → (∀ j, j ≠ 12 → V2 j = V j) → (k - q) < fu → ∀ (H : Heap) (locs : List Loc) (ls : Array Slot), va_P (dC, dI) vwCl (wC cI cZ h F2 V2) H → va_D A (wC cI cZ h F2 V2) → va_S A s.heap H locs → lv_has ls 4 [(0, .ref (h 4)), (1, .int (nI n0)), (2, .int (nI k)), (3, .int (nI q))] → W p l e rm_X2_tally s m args below meth c H locs 0 0 Q (F0 m 66 ls []) := by
              intro fu
              induction fu with
              | zero => intro q F2 V2 hq h12b h30b hfr2 hvr2 hn_; exact absurd hn_ (Nat.not_lt_zero _)
              | succ fu ih66 =>
                intro q F2 V2 hq h12b h30b hfr2 hvr2 hn_ H locs ls hP hD hS hl
                have hN_38 : ∀ i, i < 40 → F2 29 i = nI (Mk i) := by rw [hfr2 29 (by decide)]; exact hMk
                have hV_39 : V2 10 = nI mi := by rw [hvr2 10 (by decide)]; exact hV10
                have hcl_ : agC Sw ms sh k ≤ 1641 := agC_le (by omega)
                have hcw_ := agW_n Sw ms sh k q
                have hcb_ := b01_le (ag2 Sw ms sh k k)
                refine lv_iload_n hx hb dX2_tally_66 rfl (lv_at hl 3 rfl) ?_
                refine lv_iload_n hx hb dX2_tally_67 rfl (lv_at hl 2 rfl) ?_
                refine lv_icmp_ge (tgt := 127) hx hb dX2_tally_68 (by decide) (fun c_40 => ?_) (fun c_40 => ?_)
                · have c_40 : k ≤ q := (nI_leI (a := k) (b := q) (by omega) (by omega)).mp c_40
                  refine lv_iinc (v := nI (k + 1)) (lv' := [(2, .int (nI (k + 1))), (0, .ref (h 4)), (1, .int (nI n0)), (3, .int (nI q))]) hx hb dX2_tally_127 hl (k := 2) rfl (nI_1 _) (by decide) rfl (fun ls hl => ?_)
                  refine lv_goto (tgt := 26) hx hb dX2_tally_130 (by decide) ?_
                  exact ih26 (k + 1) F2 V2 (by omega) (by rw [← agC_end]; have z := h12b; rw [show q = k by omega] at z; exact z) (fun m hm_ => by have z := h30b m hm_; rw [show q = k by omega, agL_end] at z; exact z) (fun j hj => (hfr2 j hj)) hvr2 (by omega) H locs ls hP hD hS (lv_sub hl [1, 2, 0] rfl)
                · have c_40 : ¬ k ≤ q := fun h => c_40 ((nI_leI (a := k) (b := q) (by omega) (by omega)).mpr h)
                  refine lv_aload_n hx hb dX2_tally_71 rfl (lv_at hl 0 rfl) ?_
                  refine va_get (D := (dC, dI)) (ci := 2) (v := .ref (h 29)) (C := RX2) (T := TX2) (N := 5) hx hb hts hin_X2 hown hK hP 4 rfl rfl 0 (by decide) hw4 (fun _ h9 => h9) rfl dX2_tally_72 ?_
                  refine lv_iload_n hx hb dX2_tally_75 rfl (lv_at hl 2 rfl) ?_
                  refine va_iald hx hb hK hP 29 0 rfl rfl (vp_in_nI (n := k) (N := 40) (by omega) (by decide)) dX2_tally_76 ?_
                  have hb_41 := bMk k (by omega)
                  refine lv_topi (fun x_42 ex_42 => ?_)
                  obtain rfl : x_42 = nI (Mk k) := ex_42.trans ((congrArg (F2 29) (nI_clamp (n := k) (by omega))).trans (hN_38 k (by omega)))
                  refine lv_aload_n hx hb dX2_tally_77 rfl (lv_at hl 0 rfl) ?_
                  refine va_get (D := (dC, dI)) (ci := 2) (v := .ref (h 29)) (C := RX2) (T := TX2) (N := 5) hx hb hts hin_X2 hown hK hP 4 rfl rfl 0 (by decide) hw4 (fun _ h9 => h9) rfl dX2_tally_78 ?_
                  refine lv_iload_n hx hb dX2_tally_81 rfl (lv_at hl 3 rfl) ?_
                  refine va_iald hx hb hK hP 29 0 rfl rfl (vp_in_nI (n := q) (N := 40) (by omega) (by decide)) dX2_tally_82 ?_
                  have hb_43 := bMk q (by omega)
                  refine lv_topi (fun x_44 ex_44 => ?_)
                  obtain rfl : x_44 = nI (Mk q) := ex_44.trans ((congrArg (F2 29) (nI_clamp (n := q) (by omega))).trans (hN_38 q (by omega)))
                  refine lv_iadd hx hb dX2_tally_83 ?_
                  refine lv_topi (fun x_45 ex_45 => ?_)
                  obtain rfl : x_45 = nI ((Mk k) + (Mk q)) := ex_45.trans (nI_add (Mk k) (Mk q))
                  refine lv_aload_n hx hb dX2_tally_84 rfl (lv_at hl 0 rfl) ?_
                  refine va_get (D := (dC, dI)) (ci := 2) (v := .int (V2 10)) (C := RX2) (T := TX2) (N := 5) hx hb hts hin_X2 hown hK hP 4 rfl rfl 1 (by decide) hw2 (fun _ h9 => h9) rfl dX2_tally_85 ?_
                  refine lv_topi (fun x_46 ex_46 => ?_)
                  obtain rfl : x_46 = nI mi := ex_46.trans (hV_39)
                  refine lv_icmp_ne (tgt := 121) hx hb dX2_tally_88 (by decide) (fun c_47 => ?_) (fun c_47 => ?_)
                  · have c_47 : ¬ ((Mk k) + (Mk q)) = mi := fun h => c_47 ((nI_eq (a := (Mk k) + (Mk q)) (b := mi) (by omega) (by omega)).mpr h)
                    refine lv_iinc (v := nI (q + 1)) (lv' := [(3, .int (nI (q + 1))), (0, .ref (h 4)), (1, .int (nI n0)), (2, .int (nI k))]) hx hb dX2_tally_121 hl (k := 3) rfl (nI_1 _) (by decide) rfl (fun ls hl => ?_)
                    refine lv_goto (tgt := 66) hx hb dX2_tally_124 (by decide) ?_
                    have hag_ : ag2 Sw ms sh q k = false := by
                      rw [ag2_comm]
                      exact b_nt (fun z => c_47 (by rw [hMk_ k (by omega), hMk_ q (by omega), hmi]; exact (ag2_eq (show k ≠ q by omega)).mpr z))
                    exact ih66 (q + 1) F2 V2 (by omega) (h12b.trans (by rw [agW_s, hag_]; rfl)) (fun m hm_ => by
                      rw [agL_step m (by omega), hag_, show (if m = k ∨ m = q then b01 false else 0) = 0 from by split <;> rfl, Nat.add_zero]; exact h30b m hm_) (fun j hj => (hfr2 j hj)) hvr2 (by omega) H locs ls hP hD hS (lv_sub hl [1, 2, 3, 0] rfl)
                  · have c_47 : ((Mk k) + (Mk q)) = mi := (nI_eq (a := (Mk k) + (Mk q)) (b := mi) (by omega) (by omega)).mp c_47
                    refine lv_aload_n hx hb dX2_tally_91 rfl (lv_at hl 0 rfl) ?_
                    refine lv_dup hx hb dX2_tally_92 rfl ?_
                    refine va_get (D := (dC, dI)) (ci := 2) (v := .int (V2 12)) (C := RX2) (T := TX2) (N := 5) hx hb hts hin_X2 hown hK hP 4 rfl rfl 3 (by decide) hw3 (fun _ h9 => h9) rfl dX2_tally_93 ?_
                    refine lv_topi (fun x_48 ex_48 => ?_)
                    obtain rfl : x_48 = nI (agC Sw ms sh k + b01 (ag2 Sw ms sh k k) + agW Sw ms sh k q) := ex_48.trans (h12b)
                    refine lv_iconst (v := 1) hx hb dX2_tally_96 (by decide) ?_
                    refine lv_iadd hx hb dX2_tally_97 ?_
                    refine lv_topi (fun x_49 ex_49 => ?_)
                    obtain rfl : x_49 = nI ((agC Sw ms sh k + b01 (ag2 Sw ms sh k k) + agW Sw ms sh k q) + 1) := ex_49.trans (nI_add (agC Sw ms sh k + b01 (ag2 Sw ms sh k k) + agW Sw ms sh k q) 1)
                    refine va_put (D := (dC, dI)) (ci := 2) (v := .int (nI ((agC Sw ms sh k + b01 (ag2 Sw ms sh k k) + agW Sw ms sh k q) + 1))) (ty := .int) (C := RX2) (T := TX2) (N := 5) hx hb hts hin_X2 tyX2 tyX2_ok nmX2 hown hK hP hD hS 4 rfl rfl 3 (by decide) hw3 (fun _ h9 => h9) rfl (by decide +kernel) rfl rfl (Nat.le_of_ble_eq_true rfl) dX2_tally_98 (fun H locs hP hD hS => ?_)
                    have hP : va_P (dC, dI) vwCl (wC cI cZ h F2 (va_up V2 12 (nI ((agC Sw ms sh k + b01 (ag2 Sw ms sh k k) + agW Sw ms sh k q) + 1)))) H := hP
                    have hD : va_D A (wC cI cZ h F2 (va_up V2 12 (nI ((agC Sw ms sh k + b01 (ag2 Sw ms sh k k) + agW Sw ms sh k q) + 1)))) := hD
                    refine lv_aload_n hx hb dX2_tally_101 rfl (lv_at hl 0 rfl) ?_
                    refine va_get (D := (dC, dI)) (ci := 2) (v := .ref (h 30)) (C := RX2) (T := TX2) (N := 5) hx hb hts hin_X2 hown hK hP 4 rfl rfl 4 (by decide) hw0 (fun _ h9 => h9) rfl dX2_tally_102 ?_
                    refine lv_iload_n hx hb dX2_tally_105 rfl (lv_at hl 2 rfl) ?_
                    refine lv_dup2_11 hx hb dX2_tally_106 rfl rfl ?_
                    refine va_iald hx hb hK hP 30 0 rfl rfl (vp_in_nI (n := k) (N := 40) (by omega) (by decide)) dX2_tally_107 ?_
                    refine lv_topi (fun x_50 ex_50 => ?_)
                    rw [nI_clamp (n := k) (by omega)] at ex_50
                    refine lv_iconst (v := 1) hx hb dX2_tally_108 (by decide) ?_
                    refine lv_iadd hx hb dX2_tally_109 ?_
                    refine va_iast hx hb hK hP hD hS 30 0 rfl rfl (vp_in_nI (n := k) (N := 40) (by omega) (by decide)) dX2_tally_110 (fun H locs hP hD hS => ?_)
                    obtain ⟨F_51, eF_51⟩ : ∃ z : Nat → Nat → Int32, z = va_up F2 30 (upd (F2 30) (nI k).toNatClampNeg (x_50 + 1)) := ⟨_, rfl⟩
                    have hP : va_P (dC, dI) vwCl (wC cI cZ h F_51 (va_up V2 12 (nI ((agC Sw ms sh k + b01 (ag2 Sw ms sh k k) + agW Sw ms sh k q) + 1)))) H := by rw [eF_51]; exact hP
                    have hD : va_D A (wC cI cZ h F_51 (va_up V2 12 (nI ((agC Sw ms sh k + b01 (ag2 Sw ms sh k k) + agW Sw ms sh k q) + 1)))) := by rw [eF_51]; exact hD
                    have hN_52 : ∀ i, i < 40 → F_51 29 i = nI (Mk i) := by rw [eF_51]; exact hN_38
                    refine lv_aload_n hx hb dX2_tally_111 rfl (lv_at hl 0 rfl) ?_
                    refine va_get (D := (dC, dI)) (ci := 2) (v := .ref (h 30)) (C := RX2) (T := TX2) (N := 5) hx hb hts hin_X2 hown hK hP 4 rfl rfl 4 (by decide) hw0 (fun _ h9 => h9) rfl dX2_tally_112 ?_
                    refine lv_iload_n hx hb dX2_tally_115 rfl (lv_at hl 3 rfl) ?_
                    refine lv_dup2_11 hx hb dX2_tally_116 rfl rfl ?_
                    refine va_iald hx hb hK hP 30 0 rfl rfl (vp_in_nI (n := q) (N := 40) (by omega) (by decide)) dX2_tally_117 ?_
                    refine lv_topi (fun x_53 ex_53 => ?_)
                    rw [nI_clamp (n := q) (by omega)] at ex_53
                    refine lv_iconst (v := 1) hx hb dX2_tally_118 (by decide) ?_
                    refine lv_iadd hx hb dX2_tally_119 ?_
                    refine va_iast hx hb hK hP hD hS 30 0 rfl rfl (vp_in_nI (n := q) (N := 40) (by omega) (by decide)) dX2_tally_120 (fun H locs hP hD hS => ?_)
                    obtain ⟨F_54, eF_54⟩ : ∃ z : Nat → Nat → Int32, z = va_up F_51 30 (upd (F_51 30) (nI q).toNatClampNeg (x_53 + 1)) := ⟨_, rfl⟩
                    have hP : va_P (dC, dI) vwCl (wC cI cZ h F_54 (va_up V2 12 (nI ((agC Sw ms sh k + b01 (ag2 Sw ms sh k k) + agW Sw ms sh k q) + 1)))) H := by rw [eF_54]; exact hP
                    have hD : va_D A (wC cI cZ h F_54 (va_up V2 12 (nI ((agC Sw ms sh k + b01 (ag2 Sw ms sh k k) + agW Sw ms sh k q) + 1)))) := by rw [eF_54]; exact hD
                    have hN_55 : ∀ i, i < 40 → F_54 29 i = nI (Mk i) := by rw [eF_54]; exact hN_52
                    refine lv_iinc (v := nI (q + 1)) (lv' := [(3, .int (nI (q + 1))), (0, .ref (h 4)), (1, .int (nI n0)), (2, .int (nI k))]) hx hb dX2_tally_121 hl (k := 3) rfl (nI_1 _) (by decide) rfl (fun ls hl => ?_)
                    refine lv_goto (tgt := 66) hx hb dX2_tally_124 (by decide) ?_
                    have hag_ : ag2 Sw ms sh q k = true := by rw [ag2_comm]; exact (ag2_eq (show k ≠ q by omega)).mp (by rw [← hMk_ k (by omega), ← hMk_ q (by omega), ← hmi]; exact c_47)
                    exact ih66 (q + 1) F_54 (va_up V2 12 (nI ((agC Sw ms sh k + b01 (ag2 Sw ms sh k k) + agW Sw ms sh k q) + 1))) (by omega) (by show nI (agC Sw ms sh k + b01 (ag2 Sw ms sh k k) + agW Sw ms sh k q + 1) = nI (agC Sw ms sh k + b01 (ag2 Sw ms sh k k) + agW Sw ms sh k (q + 1)); rw [agW_s, hag_]; rfl) (fun m hm_ => by
                      have y1 : F_51 30 = upd (F2 30) k (x_50 + 1) := by
                        rw [eF_51]; show upd (F2 30) (nI k).toNatClampNeg _ = _; rw [nI_clamp (by omega)]
                      have y2 : F_54 30 = upd (F_51 30) q (x_53 + 1) := by
                        rw [eF_54]; show upd (F_51 30) (nI q).toNatClampNeg _ = _; rw [nI_clamp (by omega)]
                      have y3 : x_50 = nI (agL Sw ms sh k q k) := (ex_50).trans (h30b k (by omega))
                      have y4 : x_53 = nI (agL Sw ms sh k q q) := by rw [ex_53, y1, pk_un (by omega)]; exact h30b q (by omega)
                      rw [agL_step m (by omega), hag_, y2]
                      by_cases e : m = q
                      · rw [e, if_pos (Or.inr rfl)]; exact pk_us.trans (by rw [y4]; exact nI_1 _)
                      · rw [pk_un e, y1]
                        by_cases e2 : m = k
                        · rw [e2, if_pos (Or.inl rfl)]; exact pk_us.trans (by rw [y3]; exact nI_1 _)
                        · rw [pk_un e2, if_neg (by omega), Nat.add_zero]; exact h30b m hm_) (fun j hj => ((va_ne eF_54 (fun h => hj (by rw [h]; decide))).trans ((va_ne eF_51 (fun h => hj (by rw [h]; decide))).trans (hfr2 j hj)))) (fun j hj => by show (va_up V2 12 (nI ((agC Sw ms sh k + b01 (ag2 Sw ms sh k k) + agW Sw ms sh k q) + 1))) j = V j; simp only [va_up, if_neg hj]; exact hvr2 j hj) (by omega) H locs ls hP hD hS (lv_sub hl [1, 2, 3, 0] rfl)
            have hag_ : ag2 Sw ms sh k k = true := ag1_eq.mp (by rw [← hMk_ k (by omega), ← hmi]; exact c_14)
            exact loop66 _ 0 F_36 (va_up V1 12 (nI ((agC Sw ms sh k) + 1))) (by omega) (by show nI (agC Sw ms sh k + 1) = nI (agC Sw ms sh k + b01 (ag2 Sw ms sh k k) + agW Sw ms sh k 0); rw [hag_]; rfl) (fun m hm_ => by
              rw [agL_0, hag_, eF_36]
              show upd (F1 30) (nI k).toNatClampNeg _ m = _
              rw [nI_clamp (by omega)]
              by_cases e : m = k
              · rw [e, if_pos rfl]; exact pk_us.trans (by rw [ex_35, h30 k (by omega)]; exact nI_1 _)
              · rw [pk_un e, if_neg e, Nat.add_zero]; exact h30 m hm_) (fun j hj => ((va_ne eF_36 (fun h => hj (by rw [h]; decide))).trans (hfr j hj))) (fun j hj => by show (va_up V1 12 (nI ((agC Sw ms sh k) + 1))) j = V j; simp only [va_up, if_neg hj]; exact hvr j hj) (Nat.lt_succ_self _) H locs ls hP hD hS (lv_sub hl [1, 2, 3, 0] rfl)
    exact loop26 _ 0 F_3 (va_up V 12 0) (by omega) (by show (0 : Int32) = nI (b01 (ag0 ms sh) + agT Sw ms sh 0); rw [show ag0 ms sh = false from b_nt (fun q => c_7 (by rw [hmi]; exact ag0_eq.mpr q))]; rfl) (fun m hm_ => (hF_4 m hm_).trans (by rw [agM_0]; rfl)) (fun j hj => (va_ne eF_3 (fun h => hj (by rw [h]; decide)))) (fun j hj => by simp only [va_up, if_neg hj]) (Nat.lt_succ_self _) H locs ls hP hD hS (lv_sub hl [1, 2, 0] rfl)
  · have c_7 : mi = 0 := (nI_eq (a := mi) (b := 0) (by omega) (by omega)).mp c_7
    refine lv_iconst (v := 1) hx hb dX2_tally_16 (by decide) ?_
    refine lv_goto (tgt := 21) hx hb dX2_tally_17 (by decide) ?_
    refine va_put (D := (dC, dI)) (ci := 2) (v := .int 1) (ty := .int) (C := RX2) (T := TX2) (N := 5) hx hb hts hin_X2 tyX2 tyX2_ok nmX2 hown hK hP hD hS 4 rfl rfl 3 (by decide) hw3 (fun _ h9 => h9) rfl (by decide +kernel) rfl rfl (Nat.le_of_ble_eq_true rfl) dX2_tally_21 (fun H locs hP hD hS => ?_)
    have hP : va_P (dC, dI) vwCl (wC cI cZ h F_3 (va_up V 12 1)) H := hP
    have hD : va_D A (wC cI cZ h F_3 (va_up V 12 1)) := hD
    refine lv_iconst (v := 0) hx hb dX2_tally_24 (by decide) ?_
    refine lv_istore_n (lv' := [(2, .int 0), (0, .ref (h 4)), (1, .int (nI n0))]) hx hb dX2_tally_25 rfl hl (by decide) rfl (fun ls hl => ?_)
    have loop26 : ∀ (fu : Nat) (k : Nat) (F1 : Nat → Nat → Int32) (V1 : Nat → Int32), (k ≤ n0) → (V1 12 = nI (agC Sw ms sh k)) → (∀ m, m < 40 → F1 30 m = nI (agM Sw ms sh k m)) → (∀ j, j ∉ ([30] : List Nat) → F1 j = F j) → (∀ j, j ≠ 12 → V1 j = V j) → (n0 - k) < fu → ∀ (H : Heap) (locs : List Loc) (ls : Array Slot), va_P (dC, dI) vwCl (wC cI cZ h F1 V1) H → va_D A (wC cI cZ h F1 V1) → va_S A s.heap H locs → lv_has ls 4 [(0, .ref (h 4)), (1, .int (nI n0)), (2, .int (nI k))] → W p l e rm_X2_tally s m args below meth c H locs 0 0 Q (F0 m 26 ls []) := by
      intro fu
      induction fu with
      | zero => intro k F1 V1 hk h12 h30 hfr hvr hn_; exact absurd hn_ (Nat.not_lt_zero _)
      | succ fu ih26 =>
        intro k F1 V1 hk h12 h30 hfr hvr hn_ H locs ls hP hD hS hl
        have hN_56 : ∀ i, i < 40 → F1 29 i = nI (Mk i) := by rw [hfr 29 (by decide)]; exact hMk
        have hV_57 : V1 10 = nI mi := by rw [hvr 10 (by decide)]; exact hV10
        have hcl_ : agC Sw ms sh k ≤ 1641 := agC_le (by omega)
        refine lv_iload_n hx hb dX2_tally_26 rfl (lv_at hl 2 rfl) ?_
        refine lv_iload_n hx hb dX2_tally_27 rfl (lv_at hl 1 rfl) ?_
        refine lv_icmp_ge (tgt := 133) hx hb dX2_tally_28 (by decide) (fun c_58 => ?_) (fun c_58 => ?_)
        · have c_58 : n0 ≤ k := (nI_leI (a := n0) (b := k) (by omega) (by omega)).mp c_58
          exact hret (F1, V1) H locs 133 ls dX2_tally_133 (by
                      have e_ : k = n0 := by omega
                      rw [e_] at h12 h30
                      exact ⟨hfr, hvr, h12, h30⟩) (hP) (hD) hS
        · have c_58 : ¬ n0 ≤ k := fun h => c_58 ((nI_leI (a := n0) (b := k) (by omega) (by omega)).mpr h)
          refine lv_aload_n hx hb dX2_tally_31 rfl (lv_at hl 0 rfl) ?_
          refine va_get (D := (dC, dI)) (ci := 2) (v := .ref (h 29)) (C := RX2) (T := TX2) (N := 5) hx hb hts hin_X2 hown hK hP 4 rfl rfl 0 (by decide) hw4 (fun _ h9 => h9) rfl dX2_tally_32 ?_
          refine lv_iload_n hx hb dX2_tally_35 rfl (lv_at hl 2 rfl) ?_
          refine va_iald hx hb hK hP 29 0 rfl rfl (vp_in_nI (n := k) (N := 40) (by omega) (by decide)) dX2_tally_36 ?_
          have hb_59 := bMk k (by omega)
          refine lv_topi (fun x_60 ex_60 => ?_)
          obtain rfl : x_60 = nI (Mk k) := ex_60.trans ((congrArg (F1 29) (nI_clamp (n := k) (by omega))).trans (hN_56 k (by omega)))
          refine lv_aload_n hx hb dX2_tally_37 rfl (lv_at hl 0 rfl) ?_
          refine va_get (D := (dC, dI)) (ci := 2) (v := .int (V1 10)) (C := RX2) (T := TX2) (N := 5) hx hb hts hin_X2 hown hK hP 4 rfl rfl 1 (by decide) hw2 (fun _ h9 => h9) rfl dX2_tally_38 ?_
          refine lv_topi (fun x_61 ex_61 => ?_)
          obtain rfl : x_61 = nI mi := ex_61.trans (hV_57)
          refine lv_icmp_ne (tgt := 64) hx hb dX2_tally_41 (by decide) (fun c_62 => ?_) (fun c_62 => ?_)
          · have c_62 : ¬ (Mk k) = mi := fun h => c_62 ((nI_eq (a := Mk k) (b := mi) (by omega) (by omega)).mpr h)
            refine lv_iconst (v := 0) hx hb dX2_tally_64 (by decide) ?_
            refine lv_istore_n (lv' := [(3, .int 0), (0, .ref (h 4)), (1, .int (nI n0)), (2, .int (nI k))]) hx hb dX2_tally_65 rfl hl (by decide) rfl (fun ls hl => ?_)
            have loop66 : ∀ (fu : Nat) (q : Nat) (F2 : Nat → Nat → Int32) (V2 : Nat → Int32), (q ≤ k) → (V2 12 = nI (agC Sw ms sh k + b01 (ag2 Sw ms sh k k) + agW Sw ms sh k q)) → (∀ m, m < 40 → F2 30 m = nI (agL Sw ms sh k q m)) → (∀ j, j ∉ ([30] : List Nat) → F2 j = F j) → (∀ j, j ≠ 12 → V2 j = V j) → (k - q) < fu → ∀ (H : Heap) (locs : List Loc) (ls : Array Slot), va_P (dC, dI) vwCl (wC cI cZ h F2 V2) H → va_D A (wC cI cZ h F2 V2) → va_S A s.heap H locs → lv_has ls 4 [(0, .ref (h 4)), (1, .int (nI n0)), (2, .int (nI k)), (3, .int (nI q))] → W p l e rm_X2_tally s m args below meth c H locs 0 0 Q (F0 m 66 ls []) := by
              intro fu
              induction fu with
              | zero => intro q F2 V2 hq h12b h30b hfr2 hvr2 hn_; exact absurd hn_ (Nat.not_lt_zero _)
              | succ fu ih66 =>
                intro q F2 V2 hq h12b h30b hfr2 hvr2 hn_ H locs ls hP hD hS hl
                have hN_63 : ∀ i, i < 40 → F2 29 i = nI (Mk i) := by rw [hfr2 29 (by decide)]; exact hMk
                have hV_64 : V2 10 = nI mi := by rw [hvr2 10 (by decide)]; exact hV10
                have hcl_ : agC Sw ms sh k ≤ 1641 := agC_le (by omega)
                have hcw_ := agW_n Sw ms sh k q
                have hcb_ := b01_le (ag2 Sw ms sh k k)
                refine lv_iload_n hx hb dX2_tally_66 rfl (lv_at hl 3 rfl) ?_
                refine lv_iload_n hx hb dX2_tally_67 rfl (lv_at hl 2 rfl) ?_
                refine lv_icmp_ge (tgt := 127) hx hb dX2_tally_68 (by decide) (fun c_65 => ?_) (fun c_65 => ?_)
                · have c_65 : k ≤ q := (nI_leI (a := k) (b := q) (by omega) (by omega)).mp c_65
                  refine lv_iinc (v := nI (k + 1)) (lv' := [(2, .int (nI (k + 1))), (0, .ref (h 4)), (1, .int (nI n0)), (3, .int (nI q))]) hx hb dX2_tally_127 hl (k := 2) rfl (nI_1 _) (by decide) rfl (fun ls hl => ?_)
                  refine lv_goto (tgt := 26) hx hb dX2_tally_130 (by decide) ?_
                  exact ih26 (k + 1) F2 V2 (by omega) (by rw [← agC_end]; have z := h12b; rw [show q = k by omega] at z; exact z) (fun m hm_ => by have z := h30b m hm_; rw [show q = k by omega, agL_end] at z; exact z) (fun j hj => (hfr2 j hj)) hvr2 (by omega) H locs ls hP hD hS (lv_sub hl [1, 2, 0] rfl)
                · have c_65 : ¬ k ≤ q := fun h => c_65 ((nI_leI (a := k) (b := q) (by omega) (by omega)).mpr h)
                  refine lv_aload_n hx hb dX2_tally_71 rfl (lv_at hl 0 rfl) ?_
                  refine va_get (D := (dC, dI)) (ci := 2) (v := .ref (h 29)) (C := RX2) (T := TX2) (N := 5) hx hb hts hin_X2 hown hK hP 4 rfl rfl 0 (by decide) hw4 (fun _ h9 => h9) rfl dX2_tally_72 ?_
                  refine lv_iload_n hx hb dX2_tally_75 rfl (lv_at hl 2 rfl) ?_
                  refine va_iald hx hb hK hP 29 0 rfl rfl (vp_in_nI (n := k) (N := 40) (by omega) (by decide)) dX2_tally_76 ?_
                  have hb_66 := bMk k (by omega)
                  refine lv_topi (fun x_67 ex_67 => ?_)
                  obtain rfl : x_67 = nI (Mk k) := ex_67.trans ((congrArg (F2 29) (nI_clamp (n := k) (by omega))).trans (hN_63 k (by omega)))
                  refine lv_aload_n hx hb dX2_tally_77 rfl (lv_at hl 0 rfl) ?_
                  refine va_get (D := (dC, dI)) (ci := 2) (v := .ref (h 29)) (C := RX2) (T := TX2) (N := 5) hx hb hts hin_X2 hown hK hP 4 rfl rfl 0 (by decide) hw4 (fun _ h9 => h9) rfl dX2_tally_78 ?_
                  refine lv_iload_n hx hb dX2_tally_81 rfl (lv_at hl 3 rfl) ?_
                  refine va_iald hx hb hK hP 29 0 rfl rfl (vp_in_nI (n := q) (N := 40) (by omega) (by decide)) dX2_tally_82 ?_
                  have hb_68 := bMk q (by omega)
                  refine lv_topi (fun x_69 ex_69 => ?_)
                  obtain rfl : x_69 = nI (Mk q) := ex_69.trans ((congrArg (F2 29) (nI_clamp (n := q) (by omega))).trans (hN_63 q (by omega)))
                  refine lv_iadd hx hb dX2_tally_83 ?_
                  refine lv_topi (fun x_70 ex_70 => ?_)
                  obtain rfl : x_70 = nI ((Mk k) + (Mk q)) := ex_70.trans (nI_add (Mk k) (Mk q))
                  refine lv_aload_n hx hb dX2_tally_84 rfl (lv_at hl 0 rfl) ?_
                  refine va_get (D := (dC, dI)) (ci := 2) (v := .int (V2 10)) (C := RX2) (T := TX2) (N := 5) hx hb hts hin_X2 hown hK hP 4 rfl rfl 1 (by decide) hw2 (fun _ h9 => h9) rfl dX2_tally_85 ?_
                  refine lv_topi (fun x_71 ex_71 => ?_)
                  obtain rfl : x_71 = nI mi := ex_71.trans (hV_64)
                  refine lv_icmp_ne (tgt := 121) hx hb dX2_tally_88 (by decide) (fun c_72 => ?_) (fun c_72 => ?_)
                  · have c_72 : ¬ ((Mk k) + (Mk q)) = mi := fun h => c_72 ((nI_eq (a := (Mk k) + (Mk q)) (b := mi) (by omega) (by omega)).mpr h)
                    refine lv_iinc (v := nI (q + 1)) (lv' := [(3, .int (nI (q + 1))), (0, .ref (h 4)), (1, .int (nI n0)), (2, .int (nI k))]) hx hb dX2_tally_121 hl (k := 3) rfl (nI_1 _) (by decide) rfl (fun ls hl => ?_)
                    refine lv_goto (tgt := 66) hx hb dX2_tally_124 (by decide) ?_
                    have hag_ : ag2 Sw ms sh q k = false := by
                      rw [ag2_comm]
                      exact b_nt (fun z => c_72 (by rw [hMk_ k (by omega), hMk_ q (by omega), hmi]; exact (ag2_eq (show k ≠ q by omega)).mpr z))
                    exact ih66 (q + 1) F2 V2 (by omega) (h12b.trans (by rw [agW_s, hag_]; rfl)) (fun m hm_ => by
                      rw [agL_step m (by omega), hag_, show (if m = k ∨ m = q then b01 false else 0) = 0 from by split <;> rfl, Nat.add_zero]; exact h30b m hm_) (fun j hj => (hfr2 j hj)) hvr2 (by omega) H locs ls hP hD hS (lv_sub hl [1, 2, 3, 0] rfl)
                  · have c_72 : ((Mk k) + (Mk q)) = mi := (nI_eq (a := (Mk k) + (Mk q)) (b := mi) (by omega) (by omega)).mp c_72
                    refine lv_aload_n hx hb dX2_tally_91 rfl (lv_at hl 0 rfl) ?_
                    refine lv_dup hx hb dX2_tally_92 rfl ?_
                    refine va_get (D := (dC, dI)) (ci := 2) (v := .int (V2 12)) (C := RX2) (T := TX2) (N := 5) hx hb hts hin_X2 hown hK hP 4 rfl rfl 3 (by decide) hw3 (fun _ h9 => h9) rfl dX2_tally_93 ?_
                    refine lv_topi (fun x_73 ex_73 => ?_)
                    obtain rfl : x_73 = nI (agC Sw ms sh k + b01 (ag2 Sw ms sh k k) + agW Sw ms sh k q) := ex_73.trans (h12b)
                    refine lv_iconst (v := 1) hx hb dX2_tally_96 (by decide) ?_
                    refine lv_iadd hx hb dX2_tally_97 ?_
                    refine lv_topi (fun x_74 ex_74 => ?_)
                    obtain rfl : x_74 = nI ((agC Sw ms sh k + b01 (ag2 Sw ms sh k k) + agW Sw ms sh k q) + 1) := ex_74.trans (nI_add (agC Sw ms sh k + b01 (ag2 Sw ms sh k k) + agW Sw ms sh k q) 1)
                    refine va_put (D := (dC, dI)) (ci := 2) (v := .int (nI ((agC Sw ms sh k + b01 (ag2 Sw ms sh k k) + agW Sw ms sh k q) + 1))) (ty := .int) (C := RX2) (T := TX2) (N := 5) hx hb hts hin_X2 tyX2 tyX2_ok nmX2 hown hK hP hD hS 4 rfl rfl 3 (by decide) hw3 (fun _ h9 => h9) rfl (by decide +kernel) rfl rfl (Nat.le_of_ble_eq_true rfl) dX2_tally_98 (fun H locs hP hD hS => ?_)
                    have hP : va_P (dC, dI) vwCl (wC cI cZ h F2 (va_up V2 12 (nI ((agC Sw ms sh k + b01 (ag2 Sw ms sh k k) + agW Sw ms sh k q) + 1)))) H := hP
                    have hD : va_D A (wC cI cZ h F2 (va_up V2 12 (nI ((agC Sw ms sh k + b01 (ag2 Sw ms sh k k) + agW Sw ms sh k q) + 1)))) := hD
                    refine lv_aload_n hx hb dX2_tally_101 rfl (lv_at hl 0 rfl) ?_
                    refine va_get (D := (dC, dI)) (ci := 2) (v := .ref (h 30)) (C := RX2) (T := TX2) (N := 5) hx hb hts hin_X2 hown hK hP 4 rfl rfl 4 (by decide) hw0 (fun _ h9 => h9) rfl dX2_tally_102 ?_
                    refine lv_iload_n hx hb dX2_tally_105 rfl (lv_at hl 2 rfl) ?_
                    refine lv_dup2_11 hx hb dX2_tally_106 rfl rfl ?_
                    refine va_iald hx hb hK hP 30 0 rfl rfl (vp_in_nI (n := k) (N := 40) (by omega) (by decide)) dX2_tally_107 ?_
                    refine lv_topi (fun x_75 ex_75 => ?_)
                    rw [nI_clamp (n := k) (by omega)] at ex_75
                    refine lv_iconst (v := 1) hx hb dX2_tally_108 (by decide) ?_
                    refine lv_iadd hx hb dX2_tally_109 ?_
                    refine va_iast hx hb hK hP hD hS 30 0 rfl rfl (vp_in_nI (n := k) (N := 40) (by omega) (by decide)) dX2_tally_110 (fun H locs hP hD hS => ?_)
                    obtain ⟨F_76, eF_76⟩ : ∃ z : Nat → Nat → Int32, z = va_up F2 30 (upd (F2 30) (nI k).toNatClampNeg (x_75 + 1)) := ⟨_, rfl⟩
                    have hP : va_P (dC, dI) vwCl (wC cI cZ h F_76 (va_up V2 12 (nI ((agC Sw ms sh k + b01 (ag2 Sw ms sh k k) + agW Sw ms sh k q) + 1)))) H := by rw [eF_76]; exact hP
                    have hD : va_D A (wC cI cZ h F_76 (va_up V2 12 (nI ((agC Sw ms sh k + b01 (ag2 Sw ms sh k k) + agW Sw ms sh k q) + 1)))) := by rw [eF_76]; exact hD
                    have hN_77 : ∀ i, i < 40 → F_76 29 i = nI (Mk i) := by rw [eF_76]; exact hN_63
                    refine lv_aload_n hx hb dX2_tally_111 rfl (lv_at hl 0 rfl) ?_
                    refine va_get (D := (dC, dI)) (ci := 2) (v := .ref (h 30)) (C := RX2) (T := TX2) (N := 5) hx hb hts hin_X2 hown hK hP 4 rfl rfl 4 (by decide) hw0 (fun _ h9 => h9) rfl dX2_tally_112 ?_
                    refine lv_iload_n hx hb dX2_tally_115 rfl (lv_at hl 3 rfl) ?_
                    refine lv_dup2_11 hx hb dX2_tally_116 rfl rfl ?_
                    refine va_iald hx hb hK hP 30 0 rfl rfl (vp_in_nI (n := q) (N := 40) (by omega) (by decide)) dX2_tally_117 ?_
                    refine lv_topi (fun x_78 ex_78 => ?_)
                    rw [nI_clamp (n := q) (by omega)] at ex_78
                    refine lv_iconst (v := 1) hx hb dX2_tally_118 (by decide) ?_
                    refine lv_iadd hx hb dX2_tally_119 ?_
                    refine va_iast hx hb hK hP hD hS 30 0 rfl rfl (vp_in_nI (n := q) (N := 40) (by omega) (by decide)) dX2_tally_120 (fun H locs hP hD hS => ?_)
                    obtain ⟨F_79, eF_79⟩ : ∃ z : Nat → Nat → Int32, z = va_up F_76 30 (upd (F_76 30) (nI q).toNatClampNeg (x_78 + 1)) := ⟨_, rfl⟩
                    have hP : va_P (dC, dI) vwCl (wC cI cZ h F_79 (va_up V2 12 (nI ((agC Sw ms sh k + b01 (ag2 Sw ms sh k k) + agW Sw ms sh k q) + 1)))) H := by rw [eF_79]; exact hP
                    have hD : va_D A (wC cI cZ h F_79 (va_up V2 12 (nI ((agC Sw ms sh k + b01 (ag2 Sw ms sh k k) + agW Sw ms sh k q) + 1)))) := by rw [eF_79]; exact hD
                    have hN_80 : ∀ i, i < 40 → F_79 29 i = nI (Mk i) := by rw [eF_79]; exact hN_77
                    refine lv_iinc (v := nI (q + 1)) (lv' := [(3, .int (nI (q + 1))), (0, .ref (h 4)), (1, .int (nI n0)), (2, .int (nI k))]) hx hb dX2_tally_121 hl (k := 3) rfl (nI_1 _) (by decide) rfl (fun ls hl => ?_)
                    refine lv_goto (tgt := 66) hx hb dX2_tally_124 (by decide) ?_
                    have hag_ : ag2 Sw ms sh q k = true := by rw [ag2_comm]; exact (ag2_eq (show k ≠ q by omega)).mp (by rw [← hMk_ k (by omega), ← hMk_ q (by omega), ← hmi]; exact c_72)
                    exact ih66 (q + 1) F_79 (va_up V2 12 (nI ((agC Sw ms sh k + b01 (ag2 Sw ms sh k k) + agW Sw ms sh k q) + 1))) (by omega) (by show nI (agC Sw ms sh k + b01 (ag2 Sw ms sh k k) + agW Sw ms sh k q + 1) = nI (agC Sw ms sh k + b01 (ag2 Sw ms sh k k) + agW Sw ms sh k (q + 1)); rw [agW_s, hag_]; rfl) (fun m hm_ => by
                      have y1 : F_76 30 = upd (F2 30) k (x_75 + 1) := by
                        rw [eF_76]; show upd (F2 30) (nI k).toNatClampNeg _ = _; rw [nI_clamp (by omega)]
                      have y2 : F_79 30 = upd (F_76 30) q (x_78 + 1) := by
                        rw [eF_79]; show upd (F_76 30) (nI q).toNatClampNeg _ = _; rw [nI_clamp (by omega)]
                      have y3 : x_75 = nI (agL Sw ms sh k q k) := (ex_75).trans (h30b k (by omega))
                      have y4 : x_78 = nI (agL Sw ms sh k q q) := by rw [ex_78, y1, pk_un (by omega)]; exact h30b q (by omega)
                      rw [agL_step m (by omega), hag_, y2]
                      by_cases e : m = q
                      · rw [e, if_pos (Or.inr rfl)]; exact pk_us.trans (by rw [y4]; exact nI_1 _)
                      · rw [pk_un e, y1]
                        by_cases e2 : m = k
                        · rw [e2, if_pos (Or.inl rfl)]; exact pk_us.trans (by rw [y3]; exact nI_1 _)
                        · rw [pk_un e2, if_neg (by omega), Nat.add_zero]; exact h30b m hm_) (fun j hj => ((va_ne eF_79 (fun h => hj (by rw [h]; decide))).trans ((va_ne eF_76 (fun h => hj (by rw [h]; decide))).trans (hfr2 j hj)))) (fun j hj => by show (va_up V2 12 (nI ((agC Sw ms sh k + b01 (ag2 Sw ms sh k k) + agW Sw ms sh k q) + 1))) j = V j; simp only [va_up, if_neg hj]; exact hvr2 j hj) (by omega) H locs ls hP hD hS (lv_sub hl [1, 2, 3, 0] rfl)
            have hag_ : ag2 Sw ms sh k k = false := b_nt (fun q => c_62 (by rw [hMk_ k (by omega), hmi]; exact ag1_eq.mpr q))
            exact loop66 _ 0 F1 V1 (by omega) (h12.trans (by rw [hag_]; rfl)) (fun m hm_ => by
              rw [agL_0, hag_, show (if m = k then b01 false else 0) = 0 from by split <;> rfl, Nat.add_zero]; exact h30 m hm_) (fun j hj => (hfr j hj)) hvr (Nat.lt_succ_self _) H locs ls hP hD hS (lv_sub hl [1, 2, 3, 0] rfl)
          · have c_62 : (Mk k) = mi := (nI_eq (a := Mk k) (b := mi) (by omega) (by omega)).mp c_62
            refine lv_aload_n hx hb dX2_tally_44 rfl (lv_at hl 0 rfl) ?_
            refine lv_dup hx hb dX2_tally_45 rfl ?_
            refine va_get (D := (dC, dI)) (ci := 2) (v := .int (V1 12)) (C := RX2) (T := TX2) (N := 5) hx hb hts hin_X2 hown hK hP 4 rfl rfl 3 (by decide) hw3 (fun _ h9 => h9) rfl dX2_tally_46 ?_
            refine lv_topi (fun x_81 ex_81 => ?_)
            obtain rfl : x_81 = nI (agC Sw ms sh k) := ex_81.trans (h12)
            refine lv_iconst (v := 1) hx hb dX2_tally_49 (by decide) ?_
            refine lv_iadd hx hb dX2_tally_50 ?_
            refine lv_topi (fun x_82 ex_82 => ?_)
            obtain rfl : x_82 = nI ((agC Sw ms sh k) + 1) := ex_82.trans (nI_add (agC Sw ms sh k) 1)
            refine va_put (D := (dC, dI)) (ci := 2) (v := .int (nI ((agC Sw ms sh k) + 1))) (ty := .int) (C := RX2) (T := TX2) (N := 5) hx hb hts hin_X2 tyX2 tyX2_ok nmX2 hown hK hP hD hS 4 rfl rfl 3 (by decide) hw3 (fun _ h9 => h9) rfl (by decide +kernel) rfl rfl (Nat.le_of_ble_eq_true rfl) dX2_tally_51 (fun H locs hP hD hS => ?_)
            have hP : va_P (dC, dI) vwCl (wC cI cZ h F1 (va_up V1 12 (nI ((agC Sw ms sh k) + 1)))) H := hP
            have hD : va_D A (wC cI cZ h F1 (va_up V1 12 (nI ((agC Sw ms sh k) + 1)))) := hD
            refine lv_aload_n hx hb dX2_tally_54 rfl (lv_at hl 0 rfl) ?_
            refine va_get (D := (dC, dI)) (ci := 2) (v := .ref (h 30)) (C := RX2) (T := TX2) (N := 5) hx hb hts hin_X2 hown hK hP 4 rfl rfl 4 (by decide) hw0 (fun _ h9 => h9) rfl dX2_tally_55 ?_
            refine lv_iload_n hx hb dX2_tally_58 rfl (lv_at hl 2 rfl) ?_
            refine lv_dup2_11 hx hb dX2_tally_59 rfl rfl ?_
            refine va_iald hx hb hK hP 30 0 rfl rfl (vp_in_nI (n := k) (N := 40) (by omega) (by decide)) dX2_tally_60 ?_
            refine lv_topi (fun x_83 ex_83 => ?_)
            rw [nI_clamp (n := k) (by omega)] at ex_83
            refine lv_iconst (v := 1) hx hb dX2_tally_61 (by decide) ?_
            refine lv_iadd hx hb dX2_tally_62 ?_
            refine va_iast hx hb hK hP hD hS 30 0 rfl rfl (vp_in_nI (n := k) (N := 40) (by omega) (by decide)) dX2_tally_63 (fun H locs hP hD hS => ?_)
            obtain ⟨F_84, eF_84⟩ : ∃ z : Nat → Nat → Int32, z = va_up F1 30 (upd (F1 30) (nI k).toNatClampNeg (x_83 + 1)) := ⟨_, rfl⟩
            have hP : va_P (dC, dI) vwCl (wC cI cZ h F_84 (va_up V1 12 (nI ((agC Sw ms sh k) + 1)))) H := by rw [eF_84]; exact hP
            have hD : va_D A (wC cI cZ h F_84 (va_up V1 12 (nI ((agC Sw ms sh k) + 1)))) := by rw [eF_84]; exact hD
            have hN_85 : ∀ i, i < 40 → F_84 29 i = nI (Mk i) := by rw [eF_84]; exact hN_56
            refine lv_iconst (v := 0) hx hb dX2_tally_64 (by decide) ?_
            refine lv_istore_n (lv' := [(3, .int 0), (0, .ref (h 4)), (1, .int (nI n0)), (2, .int (nI k))]) hx hb dX2_tally_65 rfl hl (by decide) rfl (fun ls hl => ?_)
            have loop66 : ∀ (fu : Nat) (q : Nat) (F2 : Nat → Nat → Int32) (V2 : Nat → Int32), (q ≤ k) → (V2 12 = nI (agC Sw ms sh k + b01 (ag2 Sw ms sh k k) + agW Sw ms sh k q)) → (∀ m, m < 40 → F2 30 m = nI (agL Sw ms sh k q m)) → (∀ j, j ∉ ([30] : List Nat) → F2 j = F j) → (∀ j, j ≠ 12 → V2 j = V j) → (k - q) < fu → ∀ (H : Heap) (locs : List Loc) (ls : Array Slot), va_P (dC, dI) vwCl (wC cI cZ h F2 V2) H → va_D A (wC cI cZ h F2 V2) → va_S A s.heap H locs → lv_has ls 4 [(0, .ref (h 4)), (1, .int (nI n0)), (2, .int (nI k)), (3, .int (nI q))] → W p l e rm_X2_tally s m args below meth c H locs 0 0 Q (F0 m 66 ls []) := by
              intro fu
              induction fu with
              | zero => intro q F2 V2 hq h12b h30b hfr2 hvr2 hn_; exact absurd hn_ (Nat.not_lt_zero _)
              | succ fu ih66 =>
                intro q F2 V2 hq h12b h30b hfr2 hvr2 hn_ H locs ls hP hD hS hl
                have hN_86 : ∀ i, i < 40 → F2 29 i = nI (Mk i) := by rw [hfr2 29 (by decide)]; exact hMk
                have hV_87 : V2 10 = nI mi := by rw [hvr2 10 (by decide)]; exact hV10
                have hcl_ : agC Sw ms sh k ≤ 1641 := agC_le (by omega)
                have hcw_ := agW_n Sw ms sh k q
                have hcb_ := b01_le (ag2 Sw ms sh k k)
                refine lv_iload_n hx hb dX2_tally_66 rfl (lv_at hl 3 rfl) ?_
                refine lv_iload_n hx hb dX2_tally_67 rfl (lv_at hl 2 rfl) ?_
                refine lv_icmp_ge (tgt := 127) hx hb dX2_tally_68 (by decide) (fun c_88 => ?_) (fun c_88 => ?_)
                · have c_88 : k ≤ q := (nI_leI (a := k) (b := q) (by omega) (by omega)).mp c_88
                  refine lv_iinc (v := nI (k + 1)) (lv' := [(2, .int (nI (k + 1))), (0, .ref (h 4)), (1, .int (nI n0)), (3, .int (nI q))]) hx hb dX2_tally_127 hl (k := 2) rfl (nI_1 _) (by decide) rfl (fun ls hl => ?_)
                  refine lv_goto (tgt := 26) hx hb dX2_tally_130 (by decide) ?_
                  exact ih26 (k + 1) F2 V2 (by omega) (by rw [← agC_end]; have z := h12b; rw [show q = k by omega] at z; exact z) (fun m hm_ => by have z := h30b m hm_; rw [show q = k by omega, agL_end] at z; exact z) (fun j hj => (hfr2 j hj)) hvr2 (by omega) H locs ls hP hD hS (lv_sub hl [1, 2, 0] rfl)
                · have c_88 : ¬ k ≤ q := fun h => c_88 ((nI_leI (a := k) (b := q) (by omega) (by omega)).mpr h)
                  refine lv_aload_n hx hb dX2_tally_71 rfl (lv_at hl 0 rfl) ?_
                  refine va_get (D := (dC, dI)) (ci := 2) (v := .ref (h 29)) (C := RX2) (T := TX2) (N := 5) hx hb hts hin_X2 hown hK hP 4 rfl rfl 0 (by decide) hw4 (fun _ h9 => h9) rfl dX2_tally_72 ?_
                  refine lv_iload_n hx hb dX2_tally_75 rfl (lv_at hl 2 rfl) ?_
                  refine va_iald hx hb hK hP 29 0 rfl rfl (vp_in_nI (n := k) (N := 40) (by omega) (by decide)) dX2_tally_76 ?_
                  have hb_89 := bMk k (by omega)
                  refine lv_topi (fun x_90 ex_90 => ?_)
                  obtain rfl : x_90 = nI (Mk k) := ex_90.trans ((congrArg (F2 29) (nI_clamp (n := k) (by omega))).trans (hN_86 k (by omega)))
                  refine lv_aload_n hx hb dX2_tally_77 rfl (lv_at hl 0 rfl) ?_
                  refine va_get (D := (dC, dI)) (ci := 2) (v := .ref (h 29)) (C := RX2) (T := TX2) (N := 5) hx hb hts hin_X2 hown hK hP 4 rfl rfl 0 (by decide) hw4 (fun _ h9 => h9) rfl dX2_tally_78 ?_
                  refine lv_iload_n hx hb dX2_tally_81 rfl (lv_at hl 3 rfl) ?_
                  refine va_iald hx hb hK hP 29 0 rfl rfl (vp_in_nI (n := q) (N := 40) (by omega) (by decide)) dX2_tally_82 ?_
                  have hb_91 := bMk q (by omega)
                  refine lv_topi (fun x_92 ex_92 => ?_)
                  obtain rfl : x_92 = nI (Mk q) := ex_92.trans ((congrArg (F2 29) (nI_clamp (n := q) (by omega))).trans (hN_86 q (by omega)))
                  refine lv_iadd hx hb dX2_tally_83 ?_
                  refine lv_topi (fun x_93 ex_93 => ?_)
                  obtain rfl : x_93 = nI ((Mk k) + (Mk q)) := ex_93.trans (nI_add (Mk k) (Mk q))
                  refine lv_aload_n hx hb dX2_tally_84 rfl (lv_at hl 0 rfl) ?_
                  refine va_get (D := (dC, dI)) (ci := 2) (v := .int (V2 10)) (C := RX2) (T := TX2) (N := 5) hx hb hts hin_X2 hown hK hP 4 rfl rfl 1 (by decide) hw2 (fun _ h9 => h9) rfl dX2_tally_85 ?_
                  refine lv_topi (fun x_94 ex_94 => ?_)
                  obtain rfl : x_94 = nI mi := ex_94.trans (hV_87)
                  refine lv_icmp_ne (tgt := 121) hx hb dX2_tally_88 (by decide) (fun c_95 => ?_) (fun c_95 => ?_)
                  · have c_95 : ¬ ((Mk k) + (Mk q)) = mi := fun h => c_95 ((nI_eq (a := (Mk k) + (Mk q)) (b := mi) (by omega) (by omega)).mpr h)
                    refine lv_iinc (v := nI (q + 1)) (lv' := [(3, .int (nI (q + 1))), (0, .ref (h 4)), (1, .int (nI n0)), (2, .int (nI k))]) hx hb dX2_tally_121 hl (k := 3) rfl (nI_1 _) (by decide) rfl (fun ls hl => ?_)
                    refine lv_goto (tgt := 66) hx hb dX2_tally_124 (by decide) ?_
                    have hag_ : ag2 Sw ms sh q k = false := by
                      rw [ag2_comm]
                      exact b_nt (fun z => c_95 (by rw [hMk_ k (by omega), hMk_ q (by omega), hmi]; exact (ag2_eq (show k ≠ q by omega)).mpr z))
                    exact ih66 (q + 1) F2 V2 (by omega) (h12b.trans (by rw [agW_s, hag_]; rfl)) (fun m hm_ => by
                      rw [agL_step m (by omega), hag_, show (if m = k ∨ m = q then b01 false else 0) = 0 from by split <;> rfl, Nat.add_zero]; exact h30b m hm_) (fun j hj => (hfr2 j hj)) hvr2 (by omega) H locs ls hP hD hS (lv_sub hl [1, 2, 3, 0] rfl)
                  · have c_95 : ((Mk k) + (Mk q)) = mi := (nI_eq (a := (Mk k) + (Mk q)) (b := mi) (by omega) (by omega)).mp c_95
                    refine lv_aload_n hx hb dX2_tally_91 rfl (lv_at hl 0 rfl) ?_
                    refine lv_dup hx hb dX2_tally_92 rfl ?_
                    refine va_get (D := (dC, dI)) (ci := 2) (v := .int (V2 12)) (C := RX2) (T := TX2) (N := 5) hx hb hts hin_X2 hown hK hP 4 rfl rfl 3 (by decide) hw3 (fun _ h9 => h9) rfl dX2_tally_93 ?_
                    refine lv_topi (fun x_96 ex_96 => ?_)
                    obtain rfl : x_96 = nI (agC Sw ms sh k + b01 (ag2 Sw ms sh k k) + agW Sw ms sh k q) := ex_96.trans (h12b)
                    refine lv_iconst (v := 1) hx hb dX2_tally_96 (by decide) ?_
                    refine lv_iadd hx hb dX2_tally_97 ?_
                    refine lv_topi (fun x_97 ex_97 => ?_)
                    obtain rfl : x_97 = nI ((agC Sw ms sh k + b01 (ag2 Sw ms sh k k) + agW Sw ms sh k q) + 1) := ex_97.trans (nI_add (agC Sw ms sh k + b01 (ag2 Sw ms sh k k) + agW Sw ms sh k q) 1)
                    refine va_put (D := (dC, dI)) (ci := 2) (v := .int (nI ((agC Sw ms sh k + b01 (ag2 Sw ms sh k k) + agW Sw ms sh k q) + 1))) (ty := .int) (C := RX2) (T := TX2) (N := 5) hx hb hts hin_X2 tyX2 tyX2_ok nmX2 hown hK hP hD hS 4 rfl rfl 3 (by decide) hw3 (fun _ h9 => h9) rfl (by decide +kernel) rfl rfl (Nat.le_of_ble_eq_true rfl) dX2_tally_98 (fun H locs hP hD hS => ?_)
                    have hP : va_P (dC, dI) vwCl (wC cI cZ h F2 (va_up V2 12 (nI ((agC Sw ms sh k + b01 (ag2 Sw ms sh k k) + agW Sw ms sh k q) + 1)))) H := hP
                    have hD : va_D A (wC cI cZ h F2 (va_up V2 12 (nI ((agC Sw ms sh k + b01 (ag2 Sw ms sh k k) + agW Sw ms sh k q) + 1)))) := hD
                    refine lv_aload_n hx hb dX2_tally_101 rfl (lv_at hl 0 rfl) ?_
                    refine va_get (D := (dC, dI)) (ci := 2) (v := .ref (h 30)) (C := RX2) (T := TX2) (N := 5) hx hb hts hin_X2 hown hK hP 4 rfl rfl 4 (by decide) hw0 (fun _ h9 => h9) rfl dX2_tally_102 ?_
                    refine lv_iload_n hx hb dX2_tally_105 rfl (lv_at hl 2 rfl) ?_
                    refine lv_dup2_11 hx hb dX2_tally_106 rfl rfl ?_
                    refine va_iald hx hb hK hP 30 0 rfl rfl (vp_in_nI (n := k) (N := 40) (by omega) (by decide)) dX2_tally_107 ?_
                    refine lv_topi (fun x_98 ex_98 => ?_)
                    rw [nI_clamp (n := k) (by omega)] at ex_98
                    refine lv_iconst (v := 1) hx hb dX2_tally_108 (by decide) ?_
                    refine lv_iadd hx hb dX2_tally_109 ?_
                    refine va_iast hx hb hK hP hD hS 30 0 rfl rfl (vp_in_nI (n := k) (N := 40) (by omega) (by decide)) dX2_tally_110 (fun H locs hP hD hS => ?_)
                    obtain ⟨F_99, eF_99⟩ : ∃ z : Nat → Nat → Int32, z = va_up F2 30 (upd (F2 30) (nI k).toNatClampNeg (x_98 + 1)) := ⟨_, rfl⟩
                    have hP : va_P (dC, dI) vwCl (wC cI cZ h F_99 (va_up V2 12 (nI ((agC Sw ms sh k + b01 (ag2 Sw ms sh k k) + agW Sw ms sh k q) + 1)))) H := by rw [eF_99]; exact hP
                    have hD : va_D A (wC cI cZ h F_99 (va_up V2 12 (nI ((agC Sw ms sh k + b01 (ag2 Sw ms sh k k) + agW Sw ms sh k q) + 1)))) := by rw [eF_99]; exact hD
                    have hN_100 : ∀ i, i < 40 → F_99 29 i = nI (Mk i) := by rw [eF_99]; exact hN_86
                    refine lv_aload_n hx hb dX2_tally_111 rfl (lv_at hl 0 rfl) ?_
                    refine va_get (D := (dC, dI)) (ci := 2) (v := .ref (h 30)) (C := RX2) (T := TX2) (N := 5) hx hb hts hin_X2 hown hK hP 4 rfl rfl 4 (by decide) hw0 (fun _ h9 => h9) rfl dX2_tally_112 ?_
                    refine lv_iload_n hx hb dX2_tally_115 rfl (lv_at hl 3 rfl) ?_
                    refine lv_dup2_11 hx hb dX2_tally_116 rfl rfl ?_
                    refine va_iald hx hb hK hP 30 0 rfl rfl (vp_in_nI (n := q) (N := 40) (by omega) (by decide)) dX2_tally_117 ?_
                    refine lv_topi (fun x_101 ex_101 => ?_)
                    rw [nI_clamp (n := q) (by omega)] at ex_101
                    refine lv_iconst (v := 1) hx hb dX2_tally_118 (by decide) ?_
                    refine lv_iadd hx hb dX2_tally_119 ?_
                    refine va_iast hx hb hK hP hD hS 30 0 rfl rfl (vp_in_nI (n := q) (N := 40) (by omega) (by decide)) dX2_tally_120 (fun H locs hP hD hS => ?_)
                    obtain ⟨F_102, eF_102⟩ : ∃ z : Nat → Nat → Int32, z = va_up F_99 30 (upd (F_99 30) (nI q).toNatClampNeg (x_101 + 1)) := ⟨_, rfl⟩
                    have hP : va_P (dC, dI) vwCl (wC cI cZ h F_102 (va_up V2 12 (nI ((agC Sw ms sh k + b01 (ag2 Sw ms sh k k) + agW Sw ms sh k q) + 1)))) H := by rw [eF_102]; exact hP
                    have hD : va_D A (wC cI cZ h F_102 (va_up V2 12 (nI ((agC Sw ms sh k + b01 (ag2 Sw ms sh k k) + agW Sw ms sh k q) + 1)))) := by rw [eF_102]; exact hD
                    have hN_103 : ∀ i, i < 40 → F_102 29 i = nI (Mk i) := by rw [eF_102]; exact hN_100
                    refine lv_iinc (v := nI (q + 1)) (lv' := [(3, .int (nI (q + 1))), (0, .ref (h 4)), (1, .int (nI n0)), (2, .int (nI k))]) hx hb dX2_tally_121 hl (k := 3) rfl (nI_1 _) (by decide) rfl (fun ls hl => ?_)
                    refine lv_goto (tgt := 66) hx hb dX2_tally_124 (by decide) ?_
                    have hag_ : ag2 Sw ms sh q k = true := by rw [ag2_comm]; exact (ag2_eq (show k ≠ q by omega)).mp (by rw [← hMk_ k (by omega), ← hMk_ q (by omega), ← hmi]; exact c_95)
                    exact ih66 (q + 1) F_102 (va_up V2 12 (nI ((agC Sw ms sh k + b01 (ag2 Sw ms sh k k) + agW Sw ms sh k q) + 1))) (by omega) (by show nI (agC Sw ms sh k + b01 (ag2 Sw ms sh k k) + agW Sw ms sh k q + 1) = nI (agC Sw ms sh k + b01 (ag2 Sw ms sh k k) + agW Sw ms sh k (q + 1)); rw [agW_s, hag_]; rfl) (fun m hm_ => by
                      have y1 : F_99 30 = upd (F2 30) k (x_98 + 1) := by
                        rw [eF_99]; show upd (F2 30) (nI k).toNatClampNeg _ = _; rw [nI_clamp (by omega)]
                      have y2 : F_102 30 = upd (F_99 30) q (x_101 + 1) := by
                        rw [eF_102]; show upd (F_99 30) (nI q).toNatClampNeg _ = _; rw [nI_clamp (by omega)]
                      have y3 : x_98 = nI (agL Sw ms sh k q k) := (ex_98).trans (h30b k (by omega))
                      have y4 : x_101 = nI (agL Sw ms sh k q q) := by rw [ex_101, y1, pk_un (by omega)]; exact h30b q (by omega)
                      rw [agL_step m (by omega), hag_, y2]
                      by_cases e : m = q
                      · rw [e, if_pos (Or.inr rfl)]; exact pk_us.trans (by rw [y4]; exact nI_1 _)
                      · rw [pk_un e, y1]
                        by_cases e2 : m = k
                        · rw [e2, if_pos (Or.inl rfl)]; exact pk_us.trans (by rw [y3]; exact nI_1 _)
                        · rw [pk_un e2, if_neg (by omega), Nat.add_zero]; exact h30b m hm_) (fun j hj => ((va_ne eF_102 (fun h => hj (by rw [h]; decide))).trans ((va_ne eF_99 (fun h => hj (by rw [h]; decide))).trans (hfr2 j hj)))) (fun j hj => by show (va_up V2 12 (nI ((agC Sw ms sh k + b01 (ag2 Sw ms sh k k) + agW Sw ms sh k q) + 1))) j = V j; simp only [va_up, if_neg hj]; exact hvr2 j hj) (by omega) H locs ls hP hD hS (lv_sub hl [1, 2, 3, 0] rfl)
            have hag_ : ag2 Sw ms sh k k = true := ag1_eq.mp (by rw [← hMk_ k (by omega), ← hmi]; exact c_62)
            exact loop66 _ 0 F_84 (va_up V1 12 (nI ((agC Sw ms sh k) + 1))) (by omega) (by show nI (agC Sw ms sh k + 1) = nI (agC Sw ms sh k + b01 (ag2 Sw ms sh k k) + agW Sw ms sh k 0); rw [hag_]; rfl) (fun m hm_ => by
              rw [agL_0, hag_, eF_84]
              show upd (F1 30) (nI k).toNatClampNeg _ m = _
              rw [nI_clamp (by omega)]
              by_cases e : m = k
              · rw [e, if_pos rfl]; exact pk_us.trans (by rw [ex_83, h30 k (by omega)]; exact nI_1 _)
              · rw [pk_un e, if_neg e, Nat.add_zero]; exact h30 m hm_) (fun j hj => ((va_ne eF_84 (fun h => hj (by rw [h]; decide))).trans (hfr j hj))) (fun j hj => by show (va_up V1 12 (nI ((agC Sw ms sh k) + 1))) j = V j; simp only [va_up, if_neg hj]; exact hvr j hj) (Nat.lt_succ_self _) H locs ls hP hD hS (lv_sub hl [1, 2, 3, 0] rfl)
    exact loop26 _ 0 F_3 (va_up V 12 1) (by omega) (by show (1 : Int32) = nI (b01 (ag0 ms sh) + agT Sw ms sh 0); rw [ag0_eq.mp (by rw [← hmi]; exact c_7)]; rfl) (fun m hm_ => (hF_4 m hm_).trans (by rw [agM_0]; rfl)) (fun j hj => (va_ne eF_3 (fun h => hj (by rw [h]; decide)))) (fun j hj => by simp only [va_up, if_neg hj]) (Nat.lt_succ_self _) H locs ls hP hD hS (lv_sub hl [1, 2, 0] rfl)
def rm_X2_setsOf : Room := { frames := 2, cells := 0, slots := 0, locals := 46 }
set_option maxHeartbeats 4000000 in
set_option maxRecDepth 100000 in
theorem c_X2_setsOf (l : Launch) (dC : Nat → ClassId) (dI : Nat → Nat → Nat) (cI cZ cJ : ClassId) (h : Nat → Nat) (F : Nat → Nat → Int32) (V : Nat → Int32) (mi : Nat) (hV10 : V 10 = nI mi) (bV10 : mi ≤ 16777215) (Mk : Nat → Nat) (hMk : ∀ i, i < 40 → F 29 i = nI (Mk i)) (bMk : ∀ i, i < 40 → Mk i ≤ 16777215) (n0 : Nat) (hn0 : n0 ≤ 40)  (Sw : Nat → Int64) (ms : Nat → Nat) (sh : Nat) (hMk_ : ∀ m, m < 40 → Mk m = mkD Sw sh m) (hmi : mi = msD ms sh) : CtI l (dC, dI) vwCl (tys3 cI cZ cJ) yX2_setsOf wsX2_setsOf rm_X2_setsOf [.ref (h 4), .int (nI n0)] (wC cI cZ h F V) (S := (Nat → Nat → Int32) × (Nat → Int32)) (fun r u => (r = nI (agC Sw ms sh n0)) ∧ (∀ j, j ∉ ([30] : List Nat) → u.1 j = F j) ∧ (∀ j, j ≠ 12 → u.2 j = V j)) (fun u => wC cI cZ h u.1 u.2) 0 0 := by
  refine ct_I (cc := cX2_setsOf) (maxL := 2) (ty := .int) (own := RX2) (by decide) rfl rfl (Nat.le_of_ble_eq_true rfl) (lv := [(0, .ref (h 4)), (1, .int (nI n0))]) rfl ?_
  intro p e s m args below meth c A Q ls fx hK hP hD hA hl hret
  obtain ⟨hx, hb, hml, hown, hts⟩ := id fx
  have hS : va_S A s.heap s.heap [] := va_S.rf
  have hw0 := hts (.fieldLink RX2 47 "MirrorTower$Shots" "sets" "I") (by decide +kernel)
  have hin_X2 : ∀ w ∈ u_ws RX2 TX2 5, w ∈ wsX2_setsOf := by decide +kernel
  obtain ⟨H, hH⟩ : ∃ H, H = s.heap := ⟨_, rfl⟩
  rw [← hH] at hP ⊢
  have hS : va_S A s.heap H [] := by rw [hH]; exact hS
  generalize ([] : List Loc) = locs at hS ⊢
  refine lv_aload_n hx hb dX2_setsOf_0 rfl (lv_at hl 0 rfl) ?_
  refine lv_iload_n hx hb dX2_setsOf_1 rfl (lv_at hl 1 rfl) ?_
  refine cw_Vv (As := [.int (nI n0)]) (rest := []) (c_X2_tally l dC dI cI cZ cJ h F V mi hV10 (by omega) Mk hMk bMk n0 (by omega) Sw ms sh hMk_ hmi) fx (cwV 1 hts gX2_setsOf_X2_tally rfl rfl rfl (by decide +kernel) ⟨Nat.le_of_ble_eq_true rfl, Nat.le_of_ble_eq_true rfl⟩) hK hP hD hS hA 4 rfl rfl rfl rfl hl.1 rfl (Nat.le_of_ble_eq_true rfl) dX2_setsOf_2 ⟨Nat.le_of_ble_eq_true rfl, Nat.le_of_ble_eq_true rfl⟩ (fun u_2 H locs hw_3 hP hD hS => ?_)
  obtain ⟨F_4, V_5⟩ := u_2
  have hf_6 : ∀ j, j ∉ ([30] : List Nat) → F_4 j = F j := hw_3.1
  have hv_7 : ∀ j, j ≠ 12 → V_5 j = V j := hw_3.2.1
  have hV_8 : V_5 12 = nI (agC Sw ms sh n0) := hw_3.2.2.1
  have hN_9 : ∀ m, m < 40 → F_4 30 m = nI (agM Sw ms sh n0 m) := hw_3.2.2.2
  have hcl_ : agC Sw ms sh n0 ≤ 1641 := agC_le (by omega)
  have bN_10 : ∀ m, m < 40 → agM Sw ms sh n0 m ≤ 41 := fun m _ => Nat.le_trans (agM_le (by omega)) (by decide)
  have hP : va_P (dC, dI) vwCl (wC cI cZ h F_4 V_5) H := hP
  have hD : va_D A (wC cI cZ h F_4 V_5) := hD
  refine lv_aload_n hx hb dX2_setsOf_5 rfl (lv_at hl 0 rfl) ?_
  refine va_get (D := (dC, dI)) (ci := 2) (v := .int (V_5 12)) (C := RX2) (T := TX2) (N := 5) hx hb hts hin_X2 hown hK hP 4 rfl rfl 3 (by decide) hw0 (fun _ h9 => h9) rfl dX2_setsOf_6 ?_
  refine lv_topi (fun x_11 ex_11 => ?_)
  obtain rfl : x_11 = nI (agC Sw ms sh n0) := ex_11.trans (hV_8)
  exact hret (nI (agC Sw ms sh n0)) (F_4, V_5) H locs 9 ls rfl dX2_setsOf_9 (⟨rfl, fun j hj => (hf_6 j (fun h => hj ((by decide : ∀ x ∈ ([30] : List Nat), x ∈ ([30] : List Nat)) j h))), hv_7⟩) (hP) (hD) hS
def rm_X2_isSure : Room := { frames := 0, cells := 0, slots := 0, locals := 0 }
set_option maxHeartbeats 4000000 in
set_option maxRecDepth 100000 in
theorem c_X2_isSure (l : Launch) (dC : Nat → ClassId) (dI : Nat → Nat → Nat) (cI cZ cJ : ClassId) (h : Nat → Nat) (F : Nat → Nat → Int32) (V : Nat → Int32) (tt : Nat) (hV12 : V 12 = nI tt) (bV12 : tt ≤ 2000) (Ws : Nat → Nat) (hWs : ∀ i, i < 40 → F 30 i = nI (Ws i)) (bWs : ∀ i, i < 40 → Ws i ≤ 41) (k0 : Nat) (hk0 : k0 < 40)   : CtI l (dC, dI) vwCl (tys3 cI cZ cJ) yX2_isSure wsX2_isSure rm_X2_isSure [.ref (h 4), .int (nI k0)] (wC cI cZ h F V) (S := Unit) (fun r _ => r = bI (decide (0 < tt ∧ (Ws k0 = 0 ∨ Ws k0 = tt)))) (fun _ => wC cI cZ h F V) 0 0 := by
  refine ct_I (cc := cX2_isSure) (maxL := 2) (ty := .boolean) (own := RX2) (by decide) rfl rfl (Nat.le_of_ble_eq_true rfl) (lv := [(0, .ref (h 4)), (1, .int (nI k0))]) rfl ?_
  intro p e s m args below meth c A Q ls fx hK hP hD hA hl hret
  obtain ⟨hx, hb, hml, hown, hts⟩ := id fx
  have hS : va_S A s.heap s.heap [] := va_S.rf
  have hw0 := hts (.fieldLink RX2 47 "MirrorTower$Shots" "sets" "I") (by decide +kernel)
  have hin_X2 : ∀ w ∈ u_ws RX2 TX2 5, w ∈ wsX2_isSure := by decide +kernel
  have hw2 := hts (.fieldLink RX2 15 "MirrorTower$Shots" "setsWith" "[I") (by decide +kernel)
  obtain ⟨H, hH⟩ : ∃ H, H = s.heap := ⟨_, rfl⟩
  rw [← hH] at hP ⊢
  have hS : va_S A s.heap H [] := by rw [hH]; exact hS
  generalize ([] : List Loc) = locs at hS ⊢
  refine lv_aload_n hx hb dX2_isSure_0 rfl (lv_at hl 0 rfl) ?_
  refine va_get (D := (dC, dI)) (ci := 2) (v := .int (V 12)) (C := RX2) (T := TX2) (N := 5) hx hb hts hin_X2 hown hK hP 4 rfl rfl 3 (by decide) hw0 (fun _ h9 => h9) rfl dX2_isSure_1 ?_
  refine lv_topi (fun x_1 ex_1 => ?_)
  obtain rfl : x_1 = nI tt := ex_1.trans (hV12)
  refine lv_if_le (tgt := 33) hx hb dX2_isSure_4 (by decide) (fun c_2 => ?_) (fun c_2 => ?_)
  · have c_2 : tt ≤ 0 := (nI_leI (a := tt) (b := 0) (by omega) (by omega)).mp c_2
    refine lv_iconst (v := 0) hx hb dX2_isSure_33 (by decide) ?_
    exact hret 0 () H locs 34 ls rfl dX2_isSure_34 (by rw [decide_eq_false (by omega)]; rfl) (hP) (hD) hS
  · have c_2 : ¬ tt ≤ 0 := fun h => c_2 ((nI_leI (a := tt) (b := 0) (by omega) (by omega)).mpr h)
    refine lv_aload_n hx hb dX2_isSure_7 rfl (lv_at hl 0 rfl) ?_
    refine va_get (D := (dC, dI)) (ci := 2) (v := .ref (h 30)) (C := RX2) (T := TX2) (N := 5) hx hb hts hin_X2 hown hK hP 4 rfl rfl 4 (by decide) hw2 (fun _ h9 => h9) rfl dX2_isSure_8 ?_
    refine lv_iload_n hx hb dX2_isSure_11 rfl (lv_at hl 1 rfl) ?_
    refine va_iald hx hb hK hP 30 0 rfl rfl (vp_in_nI (n := k0) (N := 40) (by omega) (by decide)) dX2_isSure_12 ?_
    have hb_3 := bWs k0 (by omega)
    refine lv_topi (fun x_4 ex_4 => ?_)
    obtain rfl : x_4 = nI (Ws k0) := ex_4.trans ((congrArg (F 30) (nI_clamp (n := k0) (by omega))).trans (hWs k0 (by omega)))
    refine lv_if_eq (tgt := 29) hx hb dX2_isSure_13 (by decide) (fun c_5 => ?_) (fun c_5 => ?_)
    · have c_5 : (Ws k0) = 0 := (nI_eq (a := Ws k0) (b := 0) (by omega) (by omega)).mp c_5
      refine lv_iconst (v := 1) hx hb dX2_isSure_29 (by decide) ?_
      refine lv_goto (tgt := 34) hx hb dX2_isSure_30 (by decide) ?_
      exact hret 1 () H locs 34 ls rfl dX2_isSure_34 (by rw [decide_eq_true (by omega)]; rfl) (hP) (hD) hS
    · have c_5 : ¬ (Ws k0) = 0 := fun h => c_5 ((nI_eq (a := Ws k0) (b := 0) (by omega) (by omega)).mpr h)
      refine lv_aload_n hx hb dX2_isSure_16 rfl (lv_at hl 0 rfl) ?_
      refine va_get (D := (dC, dI)) (ci := 2) (v := .ref (h 30)) (C := RX2) (T := TX2) (N := 5) hx hb hts hin_X2 hown hK hP 4 rfl rfl 4 (by decide) hw2 (fun _ h9 => h9) rfl dX2_isSure_17 ?_
      refine lv_iload_n hx hb dX2_isSure_20 rfl (lv_at hl 1 rfl) ?_
      refine va_iald hx hb hK hP 30 0 rfl rfl (vp_in_nI (n := k0) (N := 40) (by omega) (by decide)) dX2_isSure_21 ?_
      have hb_6 := bWs k0 (by omega)
      refine lv_topi (fun x_7 ex_7 => ?_)
      obtain rfl : x_7 = nI (Ws k0) := ex_7.trans ((congrArg (F 30) (nI_clamp (n := k0) (by omega))).trans (hWs k0 (by omega)))
      refine lv_aload_n hx hb dX2_isSure_22 rfl (lv_at hl 0 rfl) ?_
      refine va_get (D := (dC, dI)) (ci := 2) (v := .int (V 12)) (C := RX2) (T := TX2) (N := 5) hx hb hts hin_X2 hown hK hP 4 rfl rfl 3 (by decide) hw0 (fun _ h9 => h9) rfl dX2_isSure_23 ?_
      refine lv_topi (fun x_8 ex_8 => ?_)
      obtain rfl : x_8 = nI tt := ex_8.trans (hV12)
      refine lv_icmp_ne (tgt := 33) hx hb dX2_isSure_26 (by decide) (fun c_9 => ?_) (fun c_9 => ?_)
      · have c_9 : ¬ (Ws k0) = tt := fun h => c_9 ((nI_eq (a := Ws k0) (b := tt) (by omega) (by omega)).mpr h)
        refine lv_iconst (v := 0) hx hb dX2_isSure_33 (by decide) ?_
        exact hret 0 () H locs 34 ls rfl dX2_isSure_34 (by rw [decide_eq_false (by omega)]; rfl) (hP) (hD) hS
      · have c_9 : (Ws k0) = tt := (nI_eq (a := Ws k0) (b := tt) (by omega) (by omega)).mp c_9
        refine lv_iconst (v := 1) hx hb dX2_isSure_29 (by decide) ?_
        refine lv_goto (tgt := 34) hx hb dX2_isSure_30 (by decide) ?_
        exact hret 1 () H locs 34 ls rfl dX2_isSure_34 (by rw [decide_eq_true (by omega)]; rfl) (hP) (hD) hS
def rm_X2_verdictOn : Room := { frames := 2, cells := 0, slots := 0, locals := 46 }
set_option maxHeartbeats 4000000 in
set_option maxRecDepth 100000 in
theorem c_X2_verdictOn (l : Launch) (dC : Nat → ClassId) (dI : Nat → Nat → Nat) (cI cZ cJ : ClassId) (h : Nat → Nat) (F : Nat → Nat → Int32) (V : Nat → Int32) (mi : Nat) (hV10 : V 10 = nI mi) (bV10 : mi ≤ 16777215) (Mk : Nat → Nat) (hMk : ∀ i, i < 40 → F 29 i = nI (Mk i)) (bMk : ∀ i, i < 40 → Mk i ≤ 16777215) (k0 n0 : Nat) (hk0 : k0 < 40) (hn0 : n0 ≤ 40)  (Sw : Nat → Int64) (ms : Nat → Nat) (sh : Nat) (hMk_ : ∀ m, m < 40 → Mk m = mkD Sw sh m) (hmi : mi = msD ms sh) : CtI l (dC, dI) vwCl (tys3 cI cZ cJ) yX2_verdictOn wsX2_verdictOn rm_X2_verdictOn [.ref (h 4), .int (nI k0), .int (nI n0)] (wC cI cZ h F V) (S := (Nat → Nat → Int32) × (Nat → Int32)) (fun r u => (r = vdt (agM Sw ms sh n0 k0) (agC Sw ms sh n0)) ∧ (∀ j, j ∉ ([30] : List Nat) → u.1 j = F j) ∧ (∀ j, j ≠ 12 → u.2 j = V j)) (fun u => wC cI cZ h u.1 u.2) 0 0 := by
  refine ct_I (cc := cX2_verdictOn) (maxL := 3) (ty := .int) (own := RX2) (by decide) rfl rfl (Nat.le_of_ble_eq_true rfl) (lv := [(0, .ref (h 4)), (1, .int (nI k0)), (2, .int (nI n0))]) rfl ?_
  intro p e s m args below meth c A Q ls fx hK hP hD hA hl hret
  obtain ⟨hx, hb, hml, hown, hts⟩ := id fx
  have hS : va_S A s.heap s.heap [] := va_S.rf
  have hw0 := hts (.fieldLink RX2 15 "MirrorTower$Shots" "setsWith" "[I") (by decide +kernel)
  have hin_X2 : ∀ w ∈ u_ws RX2 TX2 5, w ∈ wsX2_verdictOn := by decide +kernel
  obtain ⟨H, hH⟩ : ∃ H, H = s.heap := ⟨_, rfl⟩
  rw [← hH] at hP ⊢
  have hS : va_S A s.heap H [] := by rw [hH]; exact hS
  generalize ([] : List Loc) = locs at hS ⊢
  refine lv_aload_n hx hb dX2_verdictOn_0 rfl (lv_at hl 0 rfl) ?_
  refine lv_iload_n hx hb dX2_verdictOn_1 rfl (lv_at hl 2 rfl) ?_
  refine cw_Vv (As := [.int (nI n0)]) (rest := []) (c_X2_tally l dC dI cI cZ cJ h F V mi hV10 (by omega) Mk hMk bMk n0 (by omega) Sw ms sh hMk_ hmi) fx (cwV 1 hts gX2_verdictOn_X2_tally rfl rfl rfl (by decide +kernel) ⟨Nat.le_of_ble_eq_true rfl, Nat.le_of_ble_eq_true rfl⟩) hK hP hD hS hA 4 rfl rfl rfl rfl hl.1 rfl (Nat.le_of_ble_eq_true rfl) dX2_verdictOn_2 ⟨Nat.le_of_ble_eq_true rfl, Nat.le_of_ble_eq_true rfl⟩ (fun u_2 H locs hw_3 hP hD hS => ?_)
  obtain ⟨F_4, V_5⟩ := u_2
  have hf_6 : ∀ j, j ∉ ([30] : List Nat) → F_4 j = F j := hw_3.1
  have hv_7 : ∀ j, j ≠ 12 → V_5 j = V j := hw_3.2.1
  have hV_8 : V_5 12 = nI (agC Sw ms sh n0) := hw_3.2.2.1
  have hN_9 : ∀ m, m < 40 → F_4 30 m = nI (agM Sw ms sh n0 m) := hw_3.2.2.2
  have hcl_ : agC Sw ms sh n0 ≤ 1641 := agC_le (by omega)
  have bN_10 : ∀ m, m < 40 → agM Sw ms sh n0 m ≤ 41 := fun m _ => Nat.le_trans (agM_le (by omega)) (by decide)
  have hP : va_P (dC, dI) vwCl (wC cI cZ h F_4 V_5) H := hP
  have hD : va_D A (wC cI cZ h F_4 V_5) := hD
  refine lv_aload_n hx hb dX2_verdictOn_5 rfl (lv_at hl 0 rfl) ?_
  refine lv_iload_n hx hb dX2_verdictOn_6 rfl (lv_at hl 1 rfl) ?_
  refine cw_Vi (As := [.int (nI k0)]) (rest := []) (c_X2_isSure l dC dI cI cZ cJ h F_4 V_5 (agC Sw ms sh n0) hV_8 (by omega) (agM Sw ms sh n0) hN_9 bN_10 k0 (by omega)) fx (cwV 1 hts gX2_verdictOn_X2_isSure rfl rfl rfl (by decide +kernel) ⟨Nat.le_of_ble_eq_true rfl, Nat.le_of_ble_eq_true rfl⟩) hK hP hD hS hA 4 rfl rfl rfl rfl hl.1 rfl (Nat.le_of_ble_eq_true rfl) dX2_verdictOn_7 ⟨Nat.le_of_ble_eq_true rfl, Nat.le_of_ble_eq_true rfl⟩ (fun r_11 u_12 H locs hw_13 hP hD hS => ?_)
  have hP : va_P (dC, dI) vwCl (wC cI cZ h F_4 V_5) H := hP
  have hD : va_D A (wC cI cZ h F_4 V_5) := hD
  have hw_13 : r_11 = bI (decide (0 < (agC Sw ms sh n0) ∧ ((agM Sw ms sh n0) k0 = 0 ∨ (agM Sw ms sh n0) k0 = (agC Sw ms sh n0)))) := hw_13
  refine lv_if_ne (tgt := 15) hx hb dX2_verdictOn_10 (by decide) (fun c_14 => ?_) (fun c_14 => ?_)
  · have c_14 : decide (0 < (agC Sw ms sh n0) ∧ ((agM Sw ms sh n0) k0 = 0 ∨ (agM Sw ms sh n0) k0 = (agC Sw ms sh n0))) = true := bI_t hw_13 c_14
    refine lv_aload_n hx hb dX2_verdictOn_15 rfl (lv_at hl 0 rfl) ?_
    refine va_get (D := (dC, dI)) (ci := 2) (v := .ref (h 30)) (C := RX2) (T := TX2) (N := 5) hx hb hts hin_X2 hown hK hP 4 rfl rfl 4 (by decide) hw0 (fun _ h9 => h9) rfl dX2_verdictOn_16 ?_
    refine lv_iload_n hx hb dX2_verdictOn_19 rfl (lv_at hl 1 rfl) ?_
    refine va_iald hx hb hK hP 30 0 rfl rfl (vp_in_nI (n := k0) (N := 40) (by omega) (by decide)) dX2_verdictOn_20 ?_
    have hb_15 := bN_10 k0 (by omega)
    try dsimp only at hb_15
    refine lv_topi (fun x_16 ex_16 => ?_)
    obtain rfl : x_16 = nI ((agM Sw ms sh n0) k0) := ex_16.trans ((congrArg (F_4 30) (nI_clamp (n := k0) (by omega))).trans (hN_9 k0 (by omega)))
    refine lv_if_ne (tgt := 28) hx hb dX2_verdictOn_21 (by decide) (fun c_17 => ?_) (fun c_17 => ?_)
    · have c_17 : ¬ ((agM Sw ms sh n0) k0) = 0 := fun h => c_17 ((nI_eq (a := (agM Sw ms sh n0) k0) (b := 0) (by omega) (by omega)).mpr h)
      refine lv_iconst (v := 1) hx hb dX2_verdictOn_28 (by decide) ?_
      exact hret 1 (F_4, V_5) H locs 29 ls rfl dX2_verdictOn_29 (⟨(vd_1 (of_decide_eq_true c_14).1 c_17 (by have z := (of_decide_eq_true c_14).2; omega)).symm, fun j hj => (hf_6 j (fun h => hj ((by decide : ∀ x ∈ ([30] : List Nat), x ∈ ([30] : List Nat)) j h))), hv_7⟩) (hP) (hD) hS
    · have c_17 : ((agM Sw ms sh n0) k0) = 0 := (nI_eq (a := (agM Sw ms sh n0) k0) (b := 0) (by omega) (by omega)).mp c_17
      refine lv_iconst (v := 0) hx hb dX2_verdictOn_24 (by decide) ?_
      refine lv_goto (tgt := 29) hx hb dX2_verdictOn_25 (by decide) ?_
      exact hret 0 (F_4, V_5) H locs 29 ls rfl dX2_verdictOn_29 (⟨(vd_0 (of_decide_eq_true c_14).1 c_17).symm, fun j hj => (hf_6 j (fun h => hj ((by decide : ∀ x ∈ ([30] : List Nat), x ∈ ([30] : List Nat)) j h))), hv_7⟩) (hP) (hD) hS
  · have c_14 : decide (0 < (agC Sw ms sh n0) ∧ ((agM Sw ms sh n0) k0 = 0 ∨ (agM Sw ms sh n0) k0 = (agC Sw ms sh n0))) = false := bI_f hw_13 c_14
    refine lv_iconst (v := 2) hx hb dX2_verdictOn_13 (by decide) ?_
    exact hret 2 (F_4, V_5) H locs 14 ls rfl dX2_verdictOn_14 (⟨(vd_2 (of_decide_eq_false c_14)).symm, fun j hj => (hf_6 j (fun h => hj ((by decide : ∀ x ∈ ([30] : List Nat), x ∈ ([30] : List Nat)) j h))), hv_7⟩) (hP) (hD) hS
def rm_X2_unsureOf : Room := { frames := 2, cells := 0, slots := 0, locals := 46 }
set_option maxHeartbeats 4000000 in
set_option maxRecDepth 100000 in
theorem c_X2_unsureOf (l : Launch) (dC : Nat → ClassId) (dI : Nat → Nat → Nat) (cI cZ cJ : ClassId) (h : Nat → Nat) (F : Nat → Nat → Int32) (V : Nat → Int32) (mi : Nat) (hV10 : V 10 = nI mi) (bV10 : mi ≤ 16777215) (Mk : Nat → Nat) (hMk : ∀ i, i < 40 → F 29 i = nI (Mk i)) (bMk : ∀ i, i < 40 → Mk i ≤ 16777215) (n0 : Nat) (hn0 : n0 ≤ 40)  (Sw : Nat → Int64) (ms : Nat → Nat) (sh : Nat) (hMk_ : ∀ m, m < 40 → Mk m = mkD Sw sh m) (hmi : mi = msD ms sh) : CtI l (dC, dI) vwCl (tys3 cI cZ cJ) yX2_unsureOf wsX2_unsureOf rm_X2_unsureOf [.ref (h 4), .int (nI n0)] (wC cI cZ h F V) (S := (Nat → Nat → Int32) × (Nat → Int32)) (fun r u => (r = nI (sumN (fun m => uns (agM Sw ms sh n0 m) (agC Sw ms sh n0)) n0)) ∧ (∀ j, j ∉ ([30] : List Nat) → u.1 j = F j) ∧ (∀ j, j ≠ 12 → u.2 j = V j)) (fun u => wC cI cZ h u.1 u.2) 0 0 := by
  refine ct_I (cc := cX2_unsureOf) (maxL := 4) (ty := .int) (own := RX2) (by decide) rfl rfl (Nat.le_of_ble_eq_true rfl) (lv := [(0, .ref (h 4)), (1, .int (nI n0))]) rfl ?_
  intro p e s m args below meth c A Q ls fx hK hP hD hA hl hret
  obtain ⟨hx, hb, hml, hown, hts⟩ := id fx
  have hS : va_S A s.heap s.heap [] := va_S.rf
  obtain ⟨H, hH⟩ : ∃ H, H = s.heap := ⟨_, rfl⟩
  rw [← hH] at hP ⊢
  have hS : va_S A s.heap H [] := by rw [hH]; exact hS
  generalize ([] : List Loc) = locs at hS ⊢
  refine lv_aload_n hx hb dX2_unsureOf_0 rfl (lv_at hl 0 rfl) ?_
  refine lv_iload_n hx hb dX2_unsureOf_1 rfl (lv_at hl 1 rfl) ?_
  refine cw_Vv (As := [.int (nI n0)]) (rest := []) (c_X2_tally l dC dI cI cZ cJ h F V mi hV10 (by omega) Mk hMk bMk n0 (by omega) Sw ms sh hMk_ hmi) fx (cwV 1 hts gX2_unsureOf_X2_tally rfl rfl rfl (by decide +kernel) ⟨Nat.le_of_ble_eq_true rfl, Nat.le_of_ble_eq_true rfl⟩) hK hP hD hS hA 4 rfl rfl rfl rfl hl.1 rfl (Nat.le_of_ble_eq_true rfl) dX2_unsureOf_2 ⟨Nat.le_of_ble_eq_true rfl, Nat.le_of_ble_eq_true rfl⟩ (fun u_2 H locs hw_3 hP hD hS => ?_)
  obtain ⟨F_4, V_5⟩ := u_2
  have hf_6 : ∀ j, j ∉ ([30] : List Nat) → F_4 j = F j := hw_3.1
  have hv_7 : ∀ j, j ≠ 12 → V_5 j = V j := hw_3.2.1
  have hV_8 : V_5 12 = nI (agC Sw ms sh n0) := hw_3.2.2.1
  have hN_9 : ∀ m, m < 40 → F_4 30 m = nI (agM Sw ms sh n0 m) := hw_3.2.2.2
  have hcl_ : agC Sw ms sh n0 ≤ 1641 := agC_le (by omega)
  have bN_10 : ∀ m, m < 40 → agM Sw ms sh n0 m ≤ 41 := fun m _ => Nat.le_trans (agM_le (by omega)) (by decide)
  have hP : va_P (dC, dI) vwCl (wC cI cZ h F_4 V_5) H := hP
  have hD : va_D A (wC cI cZ h F_4 V_5) := hD
  refine lv_iconst (v := 0) hx hb dX2_unsureOf_5 (by decide) ?_
  refine lv_istore_n (lv' := [(2, .int 0), (0, .ref (h 4)), (1, .int (nI n0))]) hx hb dX2_unsureOf_6 rfl hl (by decide) rfl (fun ls hl => ?_)
  refine lv_iconst (v := 0) hx hb dX2_unsureOf_7 (by decide) ?_
  refine lv_istore_n (lv' := [(3, .int 0), (2, .int 0), (0, .ref (h 4)), (1, .int (nI n0))]) hx hb dX2_unsureOf_8 rfl hl (by decide) rfl (fun ls hl => ?_)
  have loop9 : ∀ (fu : Nat) (k : Nat), (k ≤ n0) → (n0 - k) < fu → ∀ (H : Heap) (locs : List Loc) (ls : Array Slot), va_P (dC, dI) vwCl (wC cI cZ h F_4 V_5) H → va_D A (wC cI cZ h F_4 V_5) → va_S A s.heap H locs → lv_has ls 4 [(0, .ref (h 4)), (1, .int (nI n0)), (2, .int (nI (sumN (fun m => uns (agM Sw ms sh n0 m) (agC Sw ms sh n0)) k))), (3, .int (nI k))] → W p l e rm_X2_unsureOf s m args below meth c H locs 0 0 Q (F0 m 9 ls []) := by
    intro fu
    induction fu with
    | zero => intro k hk hn_; exact absurd hn_ (Nat.not_lt_zero _)
    | succ fu ih9 =>
      intro k hk hn_ H locs ls hP hD hS hl
      refine lv_iload_n hx hb dX2_unsureOf_9 rfl (lv_at hl 3 rfl) ?_
      refine lv_iload_n hx hb dX2_unsureOf_10 rfl (lv_at hl 1 rfl) ?_
      refine lv_icmp_ge (tgt := 31) hx hb dX2_unsureOf_11 (by decide) (fun c_11 => ?_) (fun c_11 => ?_)
      · have c_11 : n0 ≤ k := (nI_leI (a := n0) (b := k) (by omega) (by omega)).mp c_11
        refine lv_iload_n hx hb dX2_unsureOf_31 rfl (lv_at hl 2 rfl) ?_
        exact hret (nI (sumN (fun m => uns (agM Sw ms sh n0 m) (agC Sw ms sh n0)) k)) (F_4, V_5) H locs 32 ls rfl dX2_unsureOf_32 (⟨by rw [show k = n0 by omega], fun j hj => (hf_6 j (fun h => hj ((by decide : ∀ x ∈ ([30] : List Nat), x ∈ ([30] : List Nat)) j h))), hv_7⟩) (hP) (hD) hS
      · have c_11 : ¬ n0 ≤ k := fun h => c_11 ((nI_leI (a := n0) (b := k) (by omega) (by omega)).mpr h)
        refine lv_aload_n hx hb dX2_unsureOf_14 rfl (lv_at hl 0 rfl) ?_
        refine lv_iload_n hx hb dX2_unsureOf_15 rfl (lv_at hl 3 rfl) ?_
        refine cw_Vi (As := [.int (nI k)]) (rest := []) (c_X2_isSure l dC dI cI cZ cJ h F_4 V_5 (agC Sw ms sh n0) hV_8 (by omega) (agM Sw ms sh n0) hN_9 bN_10 k (by omega)) fx (cwV 1 hts gX2_unsureOf_X2_isSure rfl rfl rfl (by decide +kernel) ⟨Nat.le_of_ble_eq_true rfl, Nat.le_of_ble_eq_true rfl⟩) hK hP hD hS hA 4 rfl rfl rfl rfl hl.1 rfl (Nat.le_of_ble_eq_true rfl) dX2_unsureOf_16 ⟨Nat.le_of_ble_eq_true rfl, Nat.le_of_ble_eq_true rfl⟩ (fun r_12 u_13 H locs hw_14 hP hD hS => ?_)
        have hP : va_P (dC, dI) vwCl (wC cI cZ h F_4 V_5) H := hP
        have hD : va_D A (wC cI cZ h F_4 V_5) := hD
        have hw_14 : r_12 = bI (decide (0 < (agC Sw ms sh n0) ∧ ((agM Sw ms sh n0) k = 0 ∨ (agM Sw ms sh n0) k = (agC Sw ms sh n0)))) := hw_14
        refine lv_if_ne (tgt := 25) hx hb dX2_unsureOf_19 (by decide) (fun c_15 => ?_) (fun c_15 => ?_)
        · have c_15 : decide (0 < (agC Sw ms sh n0) ∧ ((agM Sw ms sh n0) k = 0 ∨ (agM Sw ms sh n0) k = (agC Sw ms sh n0))) = true := bI_t hw_14 c_15
          refine lv_iinc (v := nI (k + 1)) (lv' := [(3, .int (nI (k + 1))), (0, .ref (h 4)), (1, .int (nI n0)), (2, .int (nI (sumN (fun m => uns (agM Sw ms sh n0 m) (agC Sw ms sh n0)) k)))]) hx hb dX2_unsureOf_25 hl (k := 3) rfl (nI_1 _) (by decide) rfl (fun ls hl => ?_)
          refine lv_goto (tgt := 9) hx hb dX2_unsureOf_28 (by decide) ?_
          have hu_ : sumN (fun m => uns (agM Sw ms sh n0 m) (agC Sw ms sh n0)) (k + 1) = sumN (fun m => uns (agM Sw ms sh n0 m) (agC Sw ms sh n0)) k + 0 := by
            show sumN (fun m => uns (agM Sw ms sh n0 m) (agC Sw ms sh n0)) k + uns (agM Sw ms sh n0 k) (agC Sw ms sh n0) = _
            rw [uns_0 (of_decide_eq_true c_15)]
          have hl : lv_has ls 4 [(3, .int (nI (k + 1))), (0, .ref (h 4)), (1, .int (nI n0)), (2, .int (nI (sumN (fun m => uns (agM Sw ms sh n0 m) (agC Sw ms sh n0)) (k + 1))))] := by rw [hu_]; exact hl
          exact ih9 (k + 1) (by omega) (by omega) H locs ls hP hD hS (lv_sub hl [1, 2, 3, 0] rfl)
        · have c_15 : decide (0 < (agC Sw ms sh n0) ∧ ((agM Sw ms sh n0) k = 0 ∨ (agM Sw ms sh n0) k = (agC Sw ms sh n0))) = false := bI_f hw_14 c_15
          refine lv_iinc (v := nI ((sumN (fun m => uns (agM Sw ms sh n0 m) (agC Sw ms sh n0)) k) + 1)) (lv' := [(2, .int (nI ((sumN (fun m => uns (agM Sw ms sh n0 m) (agC Sw ms sh n0)) k) + 1))), (0, .ref (h 4)), (1, .int (nI n0)), (3, .int (nI k))]) hx hb dX2_unsureOf_22 hl (k := 2) rfl (nI_1 _) (by decide) rfl (fun ls hl => ?_)
          refine lv_iinc (v := nI (k + 1)) (lv' := [(3, .int (nI (k + 1))), (2, .int (nI ((sumN (fun m => uns (agM Sw ms sh n0 m) (agC Sw ms sh n0)) k) + 1))), (0, .ref (h 4)), (1, .int (nI n0))]) hx hb dX2_unsureOf_25 hl (k := 3) rfl (nI_1 _) (by decide) rfl (fun ls hl => ?_)
          refine lv_goto (tgt := 9) hx hb dX2_unsureOf_28 (by decide) ?_
          have hu_ : sumN (fun m => uns (agM Sw ms sh n0 m) (agC Sw ms sh n0)) (k + 1) = sumN (fun m => uns (agM Sw ms sh n0 m) (agC Sw ms sh n0)) k + 1 := by
            show sumN (fun m => uns (agM Sw ms sh n0 m) (agC Sw ms sh n0)) k + uns (agM Sw ms sh n0 k) (agC Sw ms sh n0) = _
            rw [uns_1 (of_decide_eq_false c_15)]
          have hl : lv_has ls 4 [(3, .int (nI (k + 1))), (2, .int (nI (sumN (fun m => uns (agM Sw ms sh n0 m) (agC Sw ms sh n0)) (k + 1)))), (0, .ref (h 4)), (1, .int (nI n0))] := by rw [hu_]; exact hl
          exact ih9 (k + 1) (by omega) (by omega) H locs ls hP hD hS (lv_sub hl [2, 3, 1, 0] rfl)
  exact loop9 _ 0 (by omega) (Nat.lt_succ_self _) H locs ls hP hD hS (lv_sub hl [2, 3, 1, 0] rfl)
