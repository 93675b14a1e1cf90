def rm_X5_aim : Room := { frames := 4, cells := 0, slots := 0, locals := 104 }
set_option maxHeartbeats 4000000 in
set_option maxRecDepth 100000 in
theorem c_X5_aim (l : Launch) (dC : Nat → ClassId) (dI : Nat → Nat → Nat) (cI cZ cJ : ClassId) (h : Nat → Nat) (F : Nat → Nat → Int32) (G : Nat → Int64) (V : Nat → Int32) (n : Nat) (hV2 : V 2 = nI n) (bV2 : n ≤ 40) (nw : Nat) (hV3 : V 3 = nI nw) (bV3 : nw ≤ 23) (un : Nat) (hV4 : V 4 = nI un) (bV4 : un ≤ 200) (d : Nat) (hV6 : V 6 = nI d) (bV6 : d ≤ 20) (wm : Nat) (hV7 : V 7 = nI wm) (bV7 : wm ≤ 1) (pf : Nat) (hV10 : V 10 = nI pf) (bV10 : pf ≤ 24) (sh : Nat) (hV11 : V 11 = nI sh) (bV11 : sh ≤ 12) (So : Nat → Nat) (hSo : ∀ i, i < 40 → F 3 i = nI (So i)) (bSo : ∀ i, i < 40 → So i ≤ 90) (Lm : Nat → Nat) (hLm : ∀ i, i < 4 → F 4 i = nI (Lm i)) (bLm : ∀ i, i < 4 → Lm i ≤ 10000) (Hh : Nat → Nat) (hHh : ∀ i, i < 24 → F 7 i = nI (Hh i)) (bHh : ∀ i, i < 24 → Hh i ≤ 9) (Wd : Nat → Nat) (hWd : ∀ i, i < 24 → F 8 i = nI (Wd i)) (bWd : ∀ i, i < 24 → Wd i ≤ 99) (Pr : Nat → Nat) (hPr : ∀ i, i < 24 → F 9 i = nI (Pr i)) (bPr : ∀ i, i < 24 → Pr i ≤ 999) (p0 : Int32)  (am : Nat) (hV8 : V 8 = nI am - 1) (bam : am ≤ 41) : CtI l (dC, dI) vwCl (tys3 cI cZ cJ) yX5_aim wsX5_aim rm_X5_aim [.ref (h 0), .int p0] (wM cI cZ cJ h F G V) (S := (Nat → Nat → Int32) × (Nat → Int64) × (Nat → Int32)) (fun r u => (True) ∧ IM u.1 u.2.2) (fun u => wM cI cZ cJ h u.1 u.2.1 u.2.2) 0 0 := by
  refine ct_I (cc := cX5_aim) (maxL := 4) (ty := .int) (own := RX5) (by decide) rfl rfl (Nat.le_of_ble_eq_true rfl) (lv := [(0, .ref (h 0)), (1, .int p0)]) rfl ?_
  intro p e s m args below meth c A Q ls fx hK hP hD hA hl hret
  obtain ⟨hx, hb, hml, hown, hts⟩ := id fx
  have hS : va_S A s.heap s.heap [] := va_S.rf
  have hw0 := hts (.fieldLink RX5 1 "MirrorTowerModel" "thrown" "I") (by decide +kernel)
  have hin_X5 : ∀ w ∈ u_ws RX5 TX5 33, w ∈ wsX5_aim := by decide +kernel
  have hw2 := hts (.fieldLink RX5 91 "MirrorTowerModel" "mirrors" "I") (by decide +kernel)
  have hw3 := hts (.fieldLink RX5 65 "MirrorTowerModel" "aimedMirrors" "I") (by decide +kernel)
  have hw4 := hts (.fieldLink RX5 62 "MirrorTowerModel" "atFace" "[I") (by decide +kernel)
  have hw5 := hts (.fieldLink RX5 29 "MirrorTowerModel" "limit" "[I") (by decide +kernel)
  have hw6 := hts (.fieldLink RX5 53 "MirrorTowerModel" "left" "[I") (by decide +kernel)
  have hw7 := hts (.fieldLink RX5 56 "MirrorTowerModel" "aimed" "[I") (by decide +kernel)
  have hw8 := hts (.fieldLink RX5 59 "MirrorTowerModel" "at" "[I") (by decide +kernel)
  obtain ⟨H, hH⟩ : ∃ H, H = s.heap := ⟨_, rfl⟩
  rw [← hH] at hP ⊢
  have hS : va_S A s.heap H [] := by rw [hH]; exact hS
  generalize ([] : List Loc) = locs at hS ⊢
  refine lv_aload_n hx hb dX5_aim_0 rfl (lv_at hl 0 rfl) ?_
  refine lv_iconst (v := 0) hx hb dX5_aim_1 (by decide) ?_
  refine va_put (D := (dC, dI)) (ci := 5) (v := .int 0) (ty := .int) (C := RX5) (T := TX5) (N := 33) hx hb hts hin_X5 tyX5 tyX5_ok nmX5 hown hK hP hD hS 0 rfl rfl 0 (by decide) hw0 (fun _ h9 => h9) rfl (by decide +kernel) rfl rfl (Nat.le_of_ble_eq_true rfl) dX5_aim_2 (fun H locs hP hD hS => ?_)
  have hP : va_P (dC, dI) vwCl (wM cI cZ cJ h F G (va_up V 0 0)) H := hP
  have hD : va_D A (wM cI cZ cJ h F G (va_up V 0 0)) := hD
  refine lv_iload_n hx hb dX5_aim_5 rfl (lv_at hl 1 rfl) ?_
  refine cw_Si (As := [.int p0]) (rest := []) (c_X5_isHour l dC dI cI cZ cJ (wM cI cZ cJ h F G (va_up V 0 0)) p0) fx (va_cwS 1 hts gX5_aim_X5_isHour rfl rfl rfl (by decide +kernel) ⟨Nat.le_of_ble_eq_true rfl, Nat.le_of_ble_eq_true rfl⟩) hK hP hD hS hA rfl hl.1 rfl (Nat.le_of_ble_eq_true rfl) dX5_aim_6 ⟨Nat.le_of_ble_eq_true rfl, Nat.le_of_ble_eq_true rfl⟩ (fun r_1 u_2 H locs hw_3 hP hD hS => ?_)
  have hP : va_P (dC, dI) vwCl (wM cI cZ cJ h F G (va_up V 0 0)) H := hP
  have hD : va_D A (wM cI cZ cJ h F G (va_up V 0 0)) := hD
  have hw_3 : r_1 = bI (isW p0 0 23) := hw_3
  refine lv_if_ne (tgt := 18) hx hb dX5_aim_9 (by decide) (fun c_4 => ?_) (fun c_4 => ?_)
  · have c_4 : isW p0 0 23 = true := bI_t hw_3 c_4
    refine lv_aload_n hx hb dX5_aim_18 rfl (lv_at hl 0 rfl) ?_
    refine lv_iload_n hx hb dX5_aim_19 rfl (lv_at hl 1 rfl) ?_
    refine lv_iconst (v := 0) hx hb dX5_aim_20 (by decide) ?_
    obtain ⟨k0, hk0, rfl⟩ := isW_nat (M := 23) (n := 23) (by decide) c_4
    refine cw_Vi (As := [.int (nI k0), .int 0]) (rest := []) (c_X5_aims l dC dI cI cZ cJ h F G (va_up V 0 0) n hV2 (by omega) So hSo bSo Hh hHh bHh Wd hWd bWd Lm hLm bLm k0 0 (by omega) (by omega)) fx (cwV 2 hts gX5_aim_X5_aims rfl rfl rfl (by decide +kernel) ⟨Nat.le_of_ble_eq_true rfl, Nat.le_of_ble_eq_true rfl⟩) hK hP hD hS hA 0 rfl rfl rfl rfl hl.1 rfl (Nat.le_of_ble_eq_true rfl) dX5_aim_21 ⟨Nat.le_of_ble_eq_true rfl, Nat.le_of_ble_eq_true rfl⟩ (fun r_5 u_6 H locs hw_7 hP hD hS => ?_)
    obtain ⟨F_8, rfl⟩ : ∃ z, z = u_6 := ⟨_, rfl⟩
    obtain ⟨Pa_9, hq_10, hq_11, hf_12, -, -, -, -⟩ := hw_7
    have hf_12 : ∀ j, j ∉ ([10, 11, 12, 14] : List Nat) → F_8 j = F j := hf_12
    have hP : va_P (dC, dI) vwCl (wM cI cZ cJ h F_8 G (va_up V 0 0)) H := hP
    have hD : va_D A (wM cI cZ cJ h F_8 G (va_up V 0 0)) := hD
    have hN_13 : ∀ i, i < 40 → F_8 3 i = nI (So i) := by rw [hf_12 3 (by decide)]; exact hSo
    have hN_14 : ∀ i, i < 4 → F_8 4 i = nI (Lm i) := by rw [hf_12 4 (by decide)]; exact hLm
    have hN_15 : ∀ i, i < 24 → F_8 7 i = nI (Hh i) := by rw [hf_12 7 (by decide)]; exact hHh
    have hN_16 : ∀ i, i < 24 → F_8 8 i = nI (Wd i) := by rw [hf_12 8 (by decide)]; exact hWd
    have hN_17 : ∀ i, i < 24 → F_8 9 i = nI (Pr i) := by rw [hf_12 9 (by decide)]; exact hPr
    have hb_18 : aimH Pa_9 (ordn Pa_9 n) Lm n ≤ 4000 := aimHn_le (by omega) hq_10
    obtain rfl : r_5 = nI (aimH Pa_9 (ordn Pa_9 n) Lm n) := hq_11
    refine lv_istore_n (lv' := [(2, .int (nI (aimH Pa_9 (ordn Pa_9 n) Lm n))), (0, .ref (h 0)), (1, .int (nI k0))]) hx hb dX5_aim_24 rfl hl (by decide) rfl (fun ls hl => ?_)
    refine lv_aload_n hx hb dX5_aim_25 rfl (lv_at hl 1 rfl) ?_
    refine lv_aload_n hx hb dX5_aim_26 rfl (lv_at hl 1 rfl) ?_
    refine va_get (D := (dC, dI)) (ci := 5) (v := .int (V 2)) (C := RX5) (T := TX5) (N := 33) hx hb hts hin_X5 hown hK hP 0 rfl rfl 2 (by decide) hw2 (fun _ h9 => h9) rfl dX5_aim_27 ?_
    refine lv_topi (fun x_19 ex_19 => ?_)
    obtain rfl : x_19 = nI n := ex_19.trans (hV2)
    refine va_put (D := (dC, dI)) (ci := 5) (v := .int (nI n)) (ty := .int) (C := RX5) (T := TX5) (N := 33) hx hb hts hin_X5 tyX5 tyX5_ok nmX5 hown hK hP hD hS 0 rfl rfl 23 (by decide) hw3 (fun _ h9 => h9) rfl (by decide +kernel) rfl rfl (Nat.le_of_ble_eq_true rfl) dX5_aim_30 (fun H locs hP hD hS => ?_)
    have hP : va_P (dC, dI) vwCl (wM cI cZ cJ h F_8 G (va_up (va_up V 0 0) 8 (nI n))) H := hP
    have hD : va_D A (wM cI cZ cJ h F_8 G (va_up (va_up V 0 0) 8 (nI n))) := hD
    refine lv_iconst (v := 0) hx hb dX5_aim_33 (by decide) ?_
    refine lv_istore_n (lv' := [(3, .int 0), (2, .int (nI (aimH Pa_9 (ordn Pa_9 n) Lm n))), (0, .ref (h 0)), (1, .int (nI k0))]) hx hb dX5_aim_34 rfl hl (by decide) rfl (fun ls hl => ?_)
    have loop35 : ∀ (fu : Nat) (k : Nat) (F1 : Nat → Nat → Int32), (k ≤ n) → (∀ j, j ∉ ([13] : List Nat) → F1 j = F_8 j) → (n - k) < fu → ∀ (H : Heap) (locs : List Loc) (ls : Array Slot), va_P (dC, dI) vwCl (wM cI cZ cJ h F1 G (va_up (va_up V 0 0) 8 (nI n))) H → va_D A (wM cI cZ cJ h F1 G (va_up (va_up V 0 0) 8 (nI n))) → va_S A s.heap H locs → lv_has ls 4 [(0, .ref (h 0)), (1, .int (nI k0)), (2, .int (nI (aimH Pa_9 (ordn Pa_9 n) Lm n))), (3, .int (nI k))] → W p l e rm_X5_aim s m args below meth c H locs 0 0 Q (F0 m 35 ls []) := by
      intro fu
      induction fu with
      | zero => intro k F1 hk hfr hn_; exact absurd hn_ (Nat.not_lt_zero _)
      | succ fu ih35 =>
        intro k F1 hk hfr hn_ H locs ls hP hD hS hl
        have hN_20 : ∀ i, i < 40 → F1 3 i = nI (So i) := by rw [hfr 3 (by decide)]; exact hN_13
        have hN_21 : ∀ i, i < 4 → F1 4 i = nI (Lm i) := by rw [hfr 4 (by decide)]; exact hN_14
        have hN_22 : ∀ i, i < 24 → F1 7 i = nI (Hh i) := by rw [hfr 7 (by decide)]; exact hN_15
        have hN_23 : ∀ i, i < 24 → F1 8 i = nI (Wd i) := by rw [hfr 8 (by decide)]; exact hN_16
        have hN_24 : ∀ i, i < 24 → F1 9 i = nI (Pr i) := by rw [hfr 9 (by decide)]; exact hN_17
        refine lv_iload_n hx hb dX5_aim_35 rfl (lv_at hl 3 rfl) ?_
        refine lv_aload_n hx hb dX5_aim_36 rfl (lv_at hl 0 rfl) ?_
        refine va_get (D := (dC, dI)) (ci := 5) (v := .int (V 2)) (C := RX5) (T := TX5) (N := 33) hx hb hts hin_X5 hown hK hP 0 rfl rfl 2 (by decide) hw2 (fun _ h9 => h9) rfl dX5_aim_37 ?_
        refine lv_topi (fun x_25 ex_25 => ?_)
        obtain rfl : x_25 = nI n := ex_25.trans (hV2)
        refine lv_icmp_ge (tgt := 61) hx hb dX5_aim_40 (by decide) (fun c_26 => ?_) (fun c_26 => ?_)
        · have c_26 : n ≤ k := (nI_leI (a := n) (b := k) (by omega) (by omega)).mp c_26
          refine lv_iconst (v := 0) hx hb dX5_aim_61 (by decide) ?_
          refine lv_istore_n (lv' := [(3, .int 0), (0, .ref (h 0)), (1, .int (nI k0)), (2, .int (nI (aimH Pa_9 (ordn Pa_9 n) Lm n)))]) hx hb dX5_aim_62 rfl hl (by decide) rfl (fun ls hl => ?_)
          refine lv_iload_n hx hb dX5_aim_63 rfl (lv_at hl 0 rfl) ?_
          refine lv_iconst (v := 4) hx hb dX5_aim_64 (by decide) ?_
          refine lv_icmp_ge (tgt := 93) hx hb dX5_aim_65 (by decide) (fun c_27 => ?_) (fun c_27 => ?_)
          · exact absurd c_27 (by decide)
          · refine lv_aload_n hx hb dX5_aim_68 rfl (lv_at hl 1 rfl) ?_
            refine va_get (D := (dC, dI)) (ci := 5) (v := .ref (h 15)) (C := RX5) (T := TX5) (N := 33) hx hb hts hin_X5 hown hK hP 0 rfl rfl 22 (by decide) hw4 (fun _ h9 => h9) rfl dX5_aim_69 ?_
            refine lv_iload_n hx hb dX5_aim_72 rfl (lv_at hl 0 rfl) ?_
            refine lv_aload_n hx hb dX5_aim_73 rfl (lv_at hl 1 rfl) ?_
            refine va_get (D := (dC, dI)) (ci := 5) (v := .ref (h 4)) (C := RX5) (T := TX5) (N := 33) hx hb hts hin_X5 hown hK hP 0 rfl rfl 11 (by decide) hw5 (fun _ h9 => h9) rfl dX5_aim_74 ?_
            refine lv_iload_n hx hb dX5_aim_77 rfl (lv_at hl 0 rfl) ?_
            refine va_iald hx hb hK hP 4 0 rfl rfl (vp_in_nI (n := 0) (N := 4) (by decide) (by decide)) dX5_aim_78 ?_
            have hb_28 := bLm 0 (by omega)
            refine lv_topi (fun x_29 ex_29 => ?_)
            obtain rfl : x_29 = nI (Lm 0) := ex_29.trans ((congrArg (F1 4) (by decide : (0 : Int32).toNatClampNeg = 0)).trans (hN_21 0 (by omega)))
            refine lv_aload_n hx hb dX5_aim_79 rfl (lv_at hl 1 rfl) ?_
            refine va_get (D := (dC, dI)) (ci := 5) (v := .ref (h 12)) (C := RX5) (T := TX5) (N := 33) hx hb hts hin_X5 hown hK hP 0 rfl rfl 19 (by decide) hw6 (fun _ h9 => h9) rfl dX5_aim_80 ?_
            refine lv_iload_n hx hb dX5_aim_83 rfl (lv_at hl 0 rfl) ?_
            refine va_iald hx hb hK hP 12 0 rfl rfl (vp_in_nI (n := 0) (N := 4) (by decide) (by decide)) dX5_aim_84 ?_
            refine lv_topi (fun x_30 ex_30 => ?_)
            rw [show (0 : Int32).toNatClampNeg = 0 from by decide] at ex_30
            refine lv_isub hx hb dX5_aim_85 ?_
            refine va_iast hx hb hK hP hD hS 15 0 rfl rfl (vp_in_nI (n := 0) (N := 4) (by decide) (by decide)) dX5_aim_86 (fun H locs hP hD hS => ?_)
            obtain ⟨F_31, eF_31⟩ : ∃ z : Nat → Nat → Int32, z = va_up F1 15 (upd (F1 15) (0 : Int32).toNatClampNeg ((nI (Lm 0)) - x_30)) := ⟨_, rfl⟩
            have hP : va_P (dC, dI) vwCl (wM cI cZ cJ h F_31 G (va_up (va_up V 0 0) 8 (nI n))) H := by rw [eF_31]; exact hP
            have hD : va_D A (wM cI cZ cJ h F_31 G (va_up (va_up V 0 0) 8 (nI n))) := by rw [eF_31]; exact hD
            have hN_32 : ∀ i, i < 40 → F_31 3 i = nI (So i) := by rw [eF_31]; exact hN_20
            have hN_33 : ∀ i, i < 4 → F_31 4 i = nI (Lm i) := by rw [eF_31]; exact hN_21
            have hN_34 : ∀ i, i < 24 → F_31 7 i = nI (Hh i) := by rw [eF_31]; exact hN_22
            have hN_35 : ∀ i, i < 24 → F_31 8 i = nI (Wd i) := by rw [eF_31]; exact hN_23
            have hN_36 : ∀ i, i < 24 → F_31 9 i = nI (Pr i) := by rw [eF_31]; exact hN_24
            refine lv_iinc (v := 1) (lv' := [(3, .int 1), (0, .ref (h 0)), (1, .int (nI k0)), (2, .int (nI (aimH Pa_9 (ordn Pa_9 n) Lm n)))]) hx hb dX5_aim_87 hl (k := 0) rfl (by decide) (by decide) rfl (fun ls hl => ?_)
            refine lv_goto (tgt := 63) hx hb dX5_aim_90 (by decide) ?_
            refine lv_iload_n hx hb dX5_aim_63 rfl (lv_at hl 0 rfl) ?_
            refine lv_iconst (v := 4) hx hb dX5_aim_64 (by decide) ?_
            refine lv_icmp_ge (tgt := 93) hx hb dX5_aim_65 (by decide) (fun c_37 => ?_) (fun c_37 => ?_)
            · exact absurd c_37 (by decide)
            · refine lv_aload_n hx hb dX5_aim_68 rfl (lv_at hl 1 rfl) ?_
              refine va_get (D := (dC, dI)) (ci := 5) (v := .ref (h 15)) (C := RX5) (T := TX5) (N := 33) hx hb hts hin_X5 hown hK hP 0 rfl rfl 22 (by decide) hw4 (fun _ h9 => h9) rfl dX5_aim_69 ?_
              refine lv_iload_n hx hb dX5_aim_72 rfl (lv_at hl 0 rfl) ?_
              refine lv_aload_n hx hb dX5_aim_73 rfl (lv_at hl 1 rfl) ?_
              refine va_get (D := (dC, dI)) (ci := 5) (v := .ref (h 4)) (C := RX5) (T := TX5) (N := 33) hx hb hts hin_X5 hown hK hP 0 rfl rfl 11 (by decide) hw5 (fun _ h9 => h9) rfl dX5_aim_74 ?_
              refine lv_iload_n hx hb dX5_aim_77 rfl (lv_at hl 0 rfl) ?_
              refine va_iald hx hb hK hP 4 0 rfl rfl (vp_in_nI (n := 1) (N := 4) (by decide) (by decide)) dX5_aim_78 ?_
              have hb_38 := bLm 1 (by omega)
              refine lv_topi (fun x_39 ex_39 => ?_)
              obtain rfl : x_39 = nI (Lm 1) := ex_39.trans ((congrArg (F_31 4) (by decide : (1 : Int32).toNatClampNeg = 1)).trans (hN_33 1 (by omega)))
              refine lv_aload_n hx hb dX5_aim_79 rfl (lv_at hl 1 rfl) ?_
              refine va_get (D := (dC, dI)) (ci := 5) (v := .ref (h 12)) (C := RX5) (T := TX5) (N := 33) hx hb hts hin_X5 hown hK hP 0 rfl rfl 19 (by decide) hw6 (fun _ h9 => h9) rfl dX5_aim_80 ?_
              refine lv_iload_n hx hb dX5_aim_83 rfl (lv_at hl 0 rfl) ?_
              refine va_iald hx hb hK hP 12 0 rfl rfl (vp_in_nI (n := 1) (N := 4) (by decide) (by decide)) dX5_aim_84 ?_
              refine lv_topi (fun x_40 ex_40 => ?_)
              rw [show (1 : Int32).toNatClampNeg = 1 from by decide] at ex_40
              refine lv_isub hx hb dX5_aim_85 ?_
              refine va_iast hx hb hK hP hD hS 15 0 rfl rfl (vp_in_nI (n := 1) (N := 4) (by decide) (by decide)) dX5_aim_86 (fun H locs hP hD hS => ?_)
              obtain ⟨F_41, eF_41⟩ : ∃ z : Nat → Nat → Int32, z = va_up F_31 15 (upd (F_31 15) (1 : Int32).toNatClampNeg ((nI (Lm 1)) - x_40)) := ⟨_, rfl⟩
              have hP : va_P (dC, dI) vwCl (wM cI cZ cJ h F_41 G (va_up (va_up V 0 0) 8 (nI n))) H := by rw [eF_41]; exact hP
              have hD : va_D A (wM cI cZ cJ h F_41 G (va_up (va_up V 0 0) 8 (nI n))) := by rw [eF_41]; exact hD
              have hN_42 : ∀ i, i < 40 → F_41 3 i = nI (So i) := by rw [eF_41]; exact hN_32
              have hN_43 : ∀ i, i < 4 → F_41 4 i = nI (Lm i) := by rw [eF_41]; exact hN_33
              have hN_44 : ∀ i, i < 24 → F_41 7 i = nI (Hh i) := by rw [eF_41]; exact hN_34
              have hN_45 : ∀ i, i < 24 → F_41 8 i = nI (Wd i) := by rw [eF_41]; exact hN_35
              have hN_46 : ∀ i, i < 24 → F_41 9 i = nI (Pr i) := by rw [eF_41]; exact hN_36
              refine lv_iinc (v := 2) (lv' := [(3, .int 2), (0, .ref (h 0)), (1, .int (nI k0)), (2, .int (nI (aimH Pa_9 (ordn Pa_9 n) Lm n)))]) hx hb dX5_aim_87 hl (k := 0) rfl (by decide) (by decide) rfl (fun ls hl => ?_)
              refine lv_goto (tgt := 63) hx hb dX5_aim_90 (by decide) ?_
              refine lv_iload_n hx hb dX5_aim_63 rfl (lv_at hl 0 rfl) ?_
              refine lv_iconst (v := 4) hx hb dX5_aim_64 (by decide) ?_
              refine lv_icmp_ge (tgt := 93) hx hb dX5_aim_65 (by decide) (fun c_47 => ?_) (fun c_47 => ?_)
              · exact absurd c_47 (by decide)
              · refine lv_aload_n hx hb dX5_aim_68 rfl (lv_at hl 1 rfl) ?_
                refine va_get (D := (dC, dI)) (ci := 5) (v := .ref (h 15)) (C := RX5) (T := TX5) (N := 33) hx hb hts hin_X5 hown hK hP 0 rfl rfl 22 (by decide) hw4 (fun _ h9 => h9) rfl dX5_aim_69 ?_
                refine lv_iload_n hx hb dX5_aim_72 rfl (lv_at hl 0 rfl) ?_
                refine lv_aload_n hx hb dX5_aim_73 rfl (lv_at hl 1 rfl) ?_
                refine va_get (D := (dC, dI)) (ci := 5) (v := .ref (h 4)) (C := RX5) (T := TX5) (N := 33) hx hb hts hin_X5 hown hK hP 0 rfl rfl 11 (by decide) hw5 (fun _ h9 => h9) rfl dX5_aim_74 ?_
                refine lv_iload_n hx hb dX5_aim_77 rfl (lv_at hl 0 rfl) ?_
                refine va_iald hx hb hK hP 4 0 rfl rfl (vp_in_nI (n := 2) (N := 4) (by decide) (by decide)) dX5_aim_78 ?_
                have hb_48 := bLm 2 (by omega)
                refine lv_topi (fun x_49 ex_49 => ?_)
                obtain rfl : x_49 = nI (Lm 2) := ex_49.trans ((congrArg (F_41 4) (by decide : (2 : Int32).toNatClampNeg = 2)).trans (hN_43 2 (by omega)))
                refine lv_aload_n hx hb dX5_aim_79 rfl (lv_at hl 1 rfl) ?_
                refine va_get (D := (dC, dI)) (ci := 5) (v := .ref (h 12)) (C := RX5) (T := TX5) (N := 33) hx hb hts hin_X5 hown hK hP 0 rfl rfl 19 (by decide) hw6 (fun _ h9 => h9) rfl dX5_aim_80 ?_
                refine lv_iload_n hx hb dX5_aim_83 rfl (lv_at hl 0 rfl) ?_
                refine va_iald hx hb hK hP 12 0 rfl rfl (vp_in_nI (n := 2) (N := 4) (by decide) (by decide)) dX5_aim_84 ?_
                refine lv_topi (fun x_50 ex_50 => ?_)
                rw [show (2 : Int32).toNatClampNeg = 2 from by decide] at ex_50
                refine lv_isub hx hb dX5_aim_85 ?_
                refine va_iast hx hb hK hP hD hS 15 0 rfl rfl (vp_in_nI (n := 2) (N := 4) (by decide) (by decide)) dX5_aim_86 (fun H locs hP hD hS => ?_)
                obtain ⟨F_51, eF_51⟩ : ∃ z : Nat → Nat → Int32, z = va_up F_41 15 (upd (F_41 15) (2 : Int32).toNatClampNeg ((nI (Lm 2)) - x_50)) := ⟨_, rfl⟩
                have hP : va_P (dC, dI) vwCl (wM cI cZ cJ h F_51 G (va_up (va_up V 0 0) 8 (nI n))) H := by rw [eF_51]; exact hP
                have hD : va_D A (wM cI cZ cJ h F_51 G (va_up (va_up V 0 0) 8 (nI n))) := by rw [eF_51]; exact hD
                have hN_52 : ∀ i, i < 40 → F_51 3 i = nI (So i) := by rw [eF_51]; exact hN_42
                have hN_53 : ∀ i, i < 4 → F_51 4 i = nI (Lm i) := by rw [eF_51]; exact hN_43
                have hN_54 : ∀ i, i < 24 → F_51 7 i = nI (Hh i) := by rw [eF_51]; exact hN_44
                have hN_55 : ∀ i, i < 24 → F_51 8 i = nI (Wd i) := by rw [eF_51]; exact hN_45
                have hN_56 : ∀ i, i < 24 → F_51 9 i = nI (Pr i) := by rw [eF_51]; exact hN_46
                refine lv_iinc (v := 3) (lv' := [(3, .int 3), (0, .ref (h 0)), (1, .int (nI k0)), (2, .int (nI (aimH Pa_9 (ordn Pa_9 n) Lm n)))]) hx hb dX5_aim_87 hl (k := 0) rfl (by decide) (by decide) rfl (fun ls hl => ?_)
                refine lv_goto (tgt := 63) hx hb dX5_aim_90 (by decide) ?_
                refine lv_iload_n hx hb dX5_aim_63 rfl (lv_at hl 0 rfl) ?_
                refine lv_iconst (v := 4) hx hb dX5_aim_64 (by decide) ?_
                refine lv_icmp_ge (tgt := 93) hx hb dX5_aim_65 (by decide) (fun c_57 => ?_) (fun c_57 => ?_)
                · exact absurd c_57 (by decide)
                · refine lv_aload_n hx hb dX5_aim_68 rfl (lv_at hl 1 rfl) ?_
                  refine va_get (D := (dC, dI)) (ci := 5) (v := .ref (h 15)) (C := RX5) (T := TX5) (N := 33) hx hb hts hin_X5 hown hK hP 0 rfl rfl 22 (by decide) hw4 (fun _ h9 => h9) rfl dX5_aim_69 ?_
                  refine lv_iload_n hx hb dX5_aim_72 rfl (lv_at hl 0 rfl) ?_
                  refine lv_aload_n hx hb dX5_aim_73 rfl (lv_at hl 1 rfl) ?_
                  refine va_get (D := (dC, dI)) (ci := 5) (v := .ref (h 4)) (C := RX5) (T := TX5) (N := 33) hx hb hts hin_X5 hown hK hP 0 rfl rfl 11 (by decide) hw5 (fun _ h9 => h9) rfl dX5_aim_74 ?_
                  refine lv_iload_n hx hb dX5_aim_77 rfl (lv_at hl 0 rfl) ?_
                  refine va_iald hx hb hK hP 4 0 rfl rfl (vp_in_nI (n := 3) (N := 4) (by decide) (by decide)) dX5_aim_78 ?_
                  have hb_58 := bLm 3 (by omega)
                  refine lv_topi (fun x_59 ex_59 => ?_)
                  obtain rfl : x_59 = nI (Lm 3) := ex_59.trans ((congrArg (F_51 4) (by decide : (3 : Int32).toNatClampNeg = 3)).trans (hN_53 3 (by omega)))
                  refine lv_aload_n hx hb dX5_aim_79 rfl (lv_at hl 1 rfl) ?_
                  refine va_get (D := (dC, dI)) (ci := 5) (v := .ref (h 12)) (C := RX5) (T := TX5) (N := 33) hx hb hts hin_X5 hown hK hP 0 rfl rfl 19 (by decide) hw6 (fun _ h9 => h9) rfl dX5_aim_80 ?_
                  refine lv_iload_n hx hb dX5_aim_83 rfl (lv_at hl 0 rfl) ?_
                  refine va_iald hx hb hK hP 12 0 rfl rfl (vp_in_nI (n := 3) (N := 4) (by decide) (by decide)) dX5_aim_84 ?_
                  refine lv_topi (fun x_60 ex_60 => ?_)
                  rw [show (3 : Int32).toNatClampNeg = 3 from by decide] at ex_60
                  refine lv_isub hx hb dX5_aim_85 ?_
                  refine va_iast hx hb hK hP hD hS 15 0 rfl rfl (vp_in_nI (n := 3) (N := 4) (by decide) (by decide)) dX5_aim_86 (fun H locs hP hD hS => ?_)
                  obtain ⟨F_61, eF_61⟩ : ∃ z : Nat → Nat → Int32, z = va_up F_51 15 (upd (F_51 15) (3 : Int32).toNatClampNeg ((nI (Lm 3)) - x_60)) := ⟨_, rfl⟩
                  have hP : va_P (dC, dI) vwCl (wM cI cZ cJ h F_61 G (va_up (va_up V 0 0) 8 (nI n))) H := by rw [eF_61]; exact hP
                  have hD : va_D A (wM cI cZ cJ h F_61 G (va_up (va_up V 0 0) 8 (nI n))) := by rw [eF_61]; exact hD
                  have hN_62 : ∀ i, i < 40 → F_61 3 i = nI (So i) := by rw [eF_61]; exact hN_52
                  have hN_63 : ∀ i, i < 4 → F_61 4 i = nI (Lm i) := by rw [eF_61]; exact hN_53
                  have hN_64 : ∀ i, i < 24 → F_61 7 i = nI (Hh i) := by rw [eF_61]; exact hN_54
                  have hN_65 : ∀ i, i < 24 → F_61 8 i = nI (Wd i) := by rw [eF_61]; exact hN_55
                  have hN_66 : ∀ i, i < 24 → F_61 9 i = nI (Pr i) := by rw [eF_61]; exact hN_56
                  refine lv_iinc (v := 4) (lv' := [(3, .int 4), (0, .ref (h 0)), (1, .int (nI k0)), (2, .int (nI (aimH Pa_9 (ordn Pa_9 n) Lm n)))]) hx hb dX5_aim_87 hl (k := 0) rfl (by decide) (by decide) rfl (fun ls hl => ?_)
                  refine lv_goto (tgt := 63) hx hb dX5_aim_90 (by decide) ?_
                  refine lv_iload_n hx hb dX5_aim_63 rfl (lv_at hl 0 rfl) ?_
                  refine lv_iconst (v := 4) hx hb dX5_aim_64 (by decide) ?_
                  refine lv_icmp_ge (tgt := 93) hx hb dX5_aim_65 (by decide) (fun c_67 => ?_) (fun c_67 => ?_)
                  · refine lv_aload_n hx hb dX5_aim_93 rfl (lv_at hl 1 rfl) ?_
                    refine lv_iload_n hx hb dX5_aim_94 rfl (lv_at hl 3 rfl) ?_
                    refine cw_Vi (As := [.int (nI (aimH Pa_9 (ordn Pa_9 n) Lm n))]) (rest := []) (c_X5_done l dC dI cI cZ cJ h F_61 G (va_up (va_up V 0 0) 8 (nI n)) (nI (aimH Pa_9 (ordn Pa_9 n) Lm n))) fx (cwV 1 hts gX5_aim_X5_done rfl rfl rfl (by decide +kernel) ⟨Nat.le_of_ble_eq_true rfl, Nat.le_of_ble_eq_true rfl⟩) hK hP hD hS hA 0 rfl rfl rfl rfl hl.1 rfl (Nat.le_of_ble_eq_true rfl) dX5_aim_95 ⟨Nat.le_of_ble_eq_true rfl, Nat.le_of_ble_eq_true rfl⟩ (fun r_68 u_69 H locs hw_70 hP hD hS => ?_)
                    have hP : va_P (dC, dI) vwCl (wM cI cZ cJ h F_61 G (va_up (va_up (va_up V 0 0) 8 (nI n)) 1 0)) H := hP
                    have hD : va_D A (wM cI cZ cJ h F_61 G (va_up (va_up (va_up V 0 0) 8 (nI n)) 1 0)) := hD
                    obtain rfl : r_68 = nI (aimH Pa_9 (ordn Pa_9 n) Lm n) := hw_70
                    exact hret (nI (aimH Pa_9 (ordn Pa_9 n) Lm n)) (F_61, G, va_up (va_up (va_up V 0 0) 8 (nI n)) 1 0) H locs 98 ls rfl dX5_aim_98 (⟨trivial, ⟨n, nw, un, d, wm, pf, sh, (n + 1), So, Lm, Hh, Wd, Pr, ⟨hV2, by omega⟩, ⟨hV3, by omega⟩, ⟨hV4, by omega⟩, ⟨hV6, by omega⟩, ⟨hV7, by omega⟩, ⟨hV10, by omega⟩, ⟨hV11, by omega⟩, ⟨(nI_pred _).symm, by omega⟩, ⟨hN_62, bSo⟩, ⟨hN_63, bLm⟩, ⟨hN_64, bHh⟩, ⟨hN_65, bWd⟩, ⟨hN_66, bPr⟩⟩⟩) (hP) (hD) hS
                  · exact absurd c_67 (by decide)
        · have c_26 : ¬ n ≤ k := fun h => c_26 ((nI_leI (a := n) (b := k) (by omega) (by omega)).mpr h)
          refine lv_aload_n hx hb dX5_aim_43 rfl (lv_at hl 0 rfl) ?_
          refine va_get (D := (dC, dI)) (ci := 5) (v := .ref (h 13)) (C := RX5) (T := TX5) (N := 33) hx hb hts hin_X5 hown hK hP 0 rfl rfl 20 (by decide) hw7 (fun _ h9 => h9) rfl dX5_aim_44 ?_
          refine lv_iload_n hx hb dX5_aim_47 rfl (lv_at hl 3 rfl) ?_
          refine lv_aload_n hx hb dX5_aim_48 rfl (lv_at hl 0 rfl) ?_
          refine va_get (D := (dC, dI)) (ci := 5) (v := .ref (h 14)) (C := RX5) (T := TX5) (N := 33) hx hb hts hin_X5 hown hK hP 0 rfl rfl 21 (by decide) hw8 (fun _ h9 => h9) rfl dX5_aim_49 ?_
          refine lv_iload_n hx hb dX5_aim_52 rfl (lv_at hl 3 rfl) ?_
          refine va_iald hx hb hK hP 14 0 rfl rfl (vp_in_nI (n := k) (N := 40) (by omega) (by decide)) dX5_aim_53 ?_
          refine lv_topi (fun x_71 ex_71 => ?_)
          rw [nI_clamp (n := k) (by omega)] at ex_71
          refine va_iast hx hb hK hP hD hS 13 0 rfl rfl (vp_in_nI (n := k) (N := 40) (by omega) (by decide)) dX5_aim_54 (fun H locs hP hD hS => ?_)
          obtain ⟨F_72, eF_72⟩ : ∃ z : Nat → Nat → Int32, z = va_up F1 13 (upd (F1 13) (nI k).toNatClampNeg x_71) := ⟨_, rfl⟩
          have hP : va_P (dC, dI) vwCl (wM cI cZ cJ h F_72 G (va_up (va_up V 0 0) 8 (nI n))) H := by rw [eF_72]; exact hP
          have hD : va_D A (wM cI cZ cJ h F_72 G (va_up (va_up V 0 0) 8 (nI n))) := by rw [eF_72]; exact hD
          have hN_73 : ∀ i, i < 40 → F_72 3 i = nI (So i) := by rw [eF_72]; exact hN_20
          have hN_74 : ∀ i, i < 4 → F_72 4 i = nI (Lm i) := by rw [eF_72]; exact hN_21
          have hN_75 : ∀ i, i < 24 → F_72 7 i = nI (Hh i) := by rw [eF_72]; exact hN_22
          have hN_76 : ∀ i, i < 24 → F_72 8 i = nI (Wd i) := by rw [eF_72]; exact hN_23
          have hN_77 : ∀ i, i < 24 → F_72 9 i = nI (Pr i) := by rw [eF_72]; exact hN_24
          refine lv_iinc (v := nI (k + 1)) (lv' := [(3, .int (nI (k + 1))), (0, .ref (h 0)), (1, .int (nI k0)), (2, .int (nI (aimH Pa_9 (ordn Pa_9 n) Lm n)))]) hx hb dX5_aim_55 hl (k := 3) rfl (nI_1 _) (by decide) rfl (fun ls hl => ?_)
          refine lv_goto (tgt := 35) hx hb dX5_aim_58 (by decide) ?_
          exact ih35 (k + 1) F_72 (by omega) (fun j hj => ((va_ne eF_72 (fun h => hj (by rw [h]; decide))).trans (hfr j hj))) (by omega) H locs ls hP hD hS (lv_sub hl [1, 2, 3, 0] rfl)
    exact loop35 _ 0 F_8 (by omega) (fun _ _ => rfl) (Nat.lt_succ_self _) H locs ls hP hD hS (lv_sub hl [2, 3, 1, 0] rfl)
  · have c_4 : isW p0 0 23 = false := bI_f hw_3 c_4
    refine lv_aload_n hx hb dX5_aim_12 rfl (lv_at hl 0 rfl) ?_
    refine lv_iconst (v := 2) hx hb dX5_aim_13 (by decide) ?_
    refine cw_Vi (As := [.int 2]) (rest := []) (c_X5_refused l dC dI cI cZ cJ h F G (va_up V 0 0) 2) fx (cwV 1 hts gX5_aim_X5_refused rfl rfl rfl (by decide +kernel) ⟨Nat.le_of_ble_eq_true rfl, Nat.le_of_ble_eq_true rfl⟩) hK hP hD hS hA 0 rfl rfl rfl rfl hl.1 rfl (Nat.le_of_ble_eq_true rfl) dX5_aim_14 ⟨Nat.le_of_ble_eq_true rfl, Nat.le_of_ble_eq_true rfl⟩ (fun r_78 u_79 H locs hw_80 hP hD hS => ?_)
    have hP : va_P (dC, dI) vwCl (wM cI cZ cJ h F G (va_up (va_up V 0 0) 1 2)) H := hP
    have hD : va_D A (wM cI cZ cJ h F G (va_up (va_up V 0 0) 1 2)) := hD
    obtain rfl : r_78 = (-1) := hw_80
    exact hret (-1) (F, G, va_up (va_up V 0 0) 1 2) H locs 17 ls rfl dX5_aim_17 (⟨trivial, ⟨n, nw, un, d, wm, pf, sh, am, So, Lm, Hh, Wd, Pr, ⟨hV2, by omega⟩, ⟨hV3, by omega⟩, ⟨hV4, by omega⟩, ⟨hV6, by omega⟩, ⟨hV7, by omega⟩, ⟨hV10, by omega⟩, ⟨hV11, by omega⟩, ⟨hV8, by omega⟩, ⟨hSo, bSo⟩, ⟨hLm, bLm⟩, ⟨hHh, bHh⟩, ⟨hWd, bWd⟩, ⟨hPr, bPr⟩⟩⟩) (hP) (hD) hS
def rm_X5_count : Room := { frames := 0, cells := 0, slots := 0, locals := 0 }
set_option maxHeartbeats 4000000 in
set_option maxRecDepth 100000 in
theorem c_X5_count (l : Launch) (dC : Nat → ClassId) (dI : Nat → Nat → Nat) (cI cZ cJ : ClassId) (h : Nat → Nat) (F : Nat → Nat → Int32) (G : Nat → Int64) (V : Nat → Int32) (n : Nat) (hV2 : V 2 = nI n) (bV2 : n ≤ 40) (nw : Nat) (hV3 : V 3 = nI nw) (bV3 : nw ≤ 23) (un : Nat) (hV4 : V 4 = nI un) (bV4 : un ≤ 200) (d : Nat) (hV6 : V 6 = nI d) (bV6 : d ≤ 20) (wm : Nat) (hV7 : V 7 = nI wm) (bV7 : wm ≤ 1) (pf : Nat) (hV10 : V 10 = nI pf) (bV10 : pf ≤ 24) (sh : Nat) (hV11 : V 11 = nI sh) (bV11 : sh ≤ 12) (So : Nat → Nat) (hSo : ∀ i, i < 40 → F 3 i = nI (So i)) (bSo : ∀ i, i < 40 → So i ≤ 90) (Lm : Nat → Nat) (hLm : ∀ i, i < 4 → F 4 i = nI (Lm i)) (bLm : ∀ i, i < 4 → Lm i ≤ 10000) (Hh : Nat → Nat) (hHh : ∀ i, i < 24 → F 7 i = nI (Hh i)) (bHh : ∀ i, i < 24 → Hh i ≤ 9) (Wd : Nat → Nat) (hWd : ∀ i, i < 24 → F 8 i = nI (Wd i)) (bWd : ∀ i, i < 24 → Wd i ≤ 99) (Pr : Nat → Nat) (hPr : ∀ i, i < 24 → F 9 i = nI (Pr i)) (bPr : ∀ i, i < 24 → Pr i ≤ 999) (p0 : Int32)  (am : Nat) (hV8 : V 8 = nI am - 1) (bam : am ≤ 41) : CtI l (dC, dI) vwCl (tys3 cI cZ cJ) yX5_count wsX5_count rm_X5_count [.ref (h 0), .int p0] (wM cI cZ cJ h F G V) (S := (Nat → Nat → Int32) × (Nat → Int64) × (Nat → Int32)) (fun r u => (True) ∧ IM u.1 u.2.2) (fun u => wM cI cZ cJ h u.1 u.2.1 u.2.2) 0 0 := by
  refine ct_I (cc := cX5_count) (maxL := 4) (ty := .int) (own := RX5) (by decide) rfl rfl (Nat.le_of_ble_eq_true rfl) (lv := [(0, .ref (h 0)), (1, .int p0)]) rfl ?_
  intro p e s m args below meth c A Q ls fx hK hP hD hA hl hret
  obtain ⟨hx, hb, hml, hown, hts⟩ := id fx
  have hS : va_S A s.heap s.heap [] := va_S.rf
  have hw0 := hts (.fieldLink RX5 1 "MirrorTowerModel" "thrown" "I") (by decide +kernel)
  have hin_X5 : ∀ w ∈ u_ws RX5 TX5 33, w ∈ wsX5_count := by decide +kernel
  have hw2 := hts (.fieldLink RX5 91 "MirrorTowerModel" "mirrors" "I") (by decide +kernel)
  have hw3 := hts (.fieldLink RX5 154 "MirrorTowerModel" "now" "I") (by decide +kernel)
  have hw4 := hts (.fieldLink RX5 168 "MirrorTowerModel" "store" "I") (by decide +kernel)
  have hw5 := hts (.fieldLink RX5 171 "MirrorTowerModel" "isWarm" "Z") (by decide +kernel)
  have hw6 := hts (.fieldLink RX5 186 "MirrorTowerModel" "shots" "I") (by decide +kernel)
  have hw7 := hts (.fieldLink RX5 26 "MirrorTowerModel" "soil" "[I") (by decide +kernel)
  obtain ⟨H, hH⟩ : ∃ H, H = s.heap := ⟨_, rfl⟩
  rw [← hH] at hP ⊢
  have hS : va_S A s.heap H [] := by rw [hH]; exact hS
  generalize ([] : List Loc) = locs at hS ⊢
  refine lv_aload_n hx hb dX5_count_0 rfl (lv_at hl 0 rfl) ?_
  refine lv_iconst (v := 0) hx hb dX5_count_1 (by decide) ?_
  refine va_put (D := (dC, dI)) (ci := 5) (v := .int 0) (ty := .int) (C := RX5) (T := TX5) (N := 33) hx hb hts hin_X5 tyX5 tyX5_ok nmX5 hown hK hP hD hS 0 rfl rfl 0 (by decide) hw0 (fun _ h9 => h9) rfl (by decide +kernel) rfl rfl (Nat.le_of_ble_eq_true rfl) dX5_count_2 (fun H locs hP hD hS => ?_)
  have hP : va_P (dC, dI) vwCl (wM cI cZ cJ h F G (va_up V 0 0)) H := hP
  have hD : va_D A (wM cI cZ cJ h F G (va_up V 0 0)) := hD
  refine lv_iload_n hx hb dX5_count_5 rfl (lv_at hl 1 rfl) ?_
  rcases tsw p0 0 5 (by decide) with c_1 | c_1
  · refine lv_tableOut (tgt := 106) hx hb dX5_count_6 c_1 (by decide) ?_
    refine lv_iconst (v := (-1)) hx hb dX5_count_106 (by decide) ?_
    exact hret (-1) (F, G, va_up V 0 0) H locs 107 ls rfl dX5_count_107 (⟨trivial, ⟨n, nw, un, d, wm, pf, sh, am, So, Lm, Hh, Wd, Pr, ⟨hV2, by omega⟩, ⟨hV3, by omega⟩, ⟨hV4, by omega⟩, ⟨hV6, by omega⟩, ⟨hV7, by omega⟩, ⟨hV10, by omega⟩, ⟨hV11, by omega⟩, ⟨hV8, by omega⟩, ⟨hSo, bSo⟩, ⟨hLm, bLm⟩, ⟨hHh, bHh⟩, ⟨hWd, bWd⟩, ⟨hPr, bPr⟩⟩⟩) (hP) (hD) hS
  · obtain ⟨j_, hj_, c_1⟩ := c_1
    match j_, hj_, c_1 with
    | 0, _, c_1 =>
      refine lv_tableIn (tgt := 44) (off := 38) hx hb dX5_count_6 (by rw [c_1]; decide) (by rw [c_1]; decide) (by rw [c_1]; rfl) (by decide) ?_
      refine lv_aload_n hx hb dX5_count_44 rfl (lv_at hl 0 rfl) ?_
      refine va_get (D := (dC, dI)) (ci := 5) (v := .int (V 2)) (C := RX5) (T := TX5) (N := 33) hx hb hts hin_X5 hown hK hP 0 rfl rfl 2 (by decide) hw2 (fun _ h9 => h9) rfl dX5_count_45 ?_
      refine lv_topi (fun x_2 ex_2 => ?_)
      obtain rfl : x_2 = nI n := ex_2.trans (hV2)
      exact hret (nI n) (F, G, va_up V 0 0) H locs 48 ls rfl dX5_count_48 (⟨trivial, ⟨n, nw, un, d, wm, pf, sh, am, So, Lm, Hh, Wd, Pr, ⟨hV2, by omega⟩, ⟨hV3, by omega⟩, ⟨hV4, by omega⟩, ⟨hV6, by omega⟩, ⟨hV7, by omega⟩, ⟨hV10, by omega⟩, ⟨hV11, by omega⟩, ⟨hV8, by omega⟩, ⟨hSo, bSo⟩, ⟨hLm, bLm⟩, ⟨hHh, bHh⟩, ⟨hWd, bWd⟩, ⟨hPr, bPr⟩⟩⟩) (hP) (hD) hS
    | 1, _, c_1 =>
      refine lv_tableIn (tgt := 49) (off := 43) hx hb dX5_count_6 (by rw [c_1]; decide) (by rw [c_1]; decide) (by rw [c_1]; rfl) (by decide) ?_
      refine lv_aload_n hx hb dX5_count_49 rfl (lv_at hl 0 rfl) ?_
      refine va_get (D := (dC, dI)) (ci := 5) (v := .int (V 3)) (C := RX5) (T := TX5) (N := 33) hx hb hts hin_X5 hown hK hP 0 rfl rfl 3 (by decide) hw3 (fun _ h9 => h9) rfl dX5_count_50 ?_
      refine lv_topi (fun x_3 ex_3 => ?_)
      obtain rfl : x_3 = nI nw := ex_3.trans (hV3)
      exact hret (nI nw) (F, G, va_up V 0 0) H locs 53 ls rfl dX5_count_53 (⟨trivial, ⟨n, nw, un, d, wm, pf, sh, am, So, Lm, Hh, Wd, Pr, ⟨hV2, by omega⟩, ⟨hV3, by omega⟩, ⟨hV4, by omega⟩, ⟨hV6, by omega⟩, ⟨hV7, by omega⟩, ⟨hV10, by omega⟩, ⟨hV11, by omega⟩, ⟨hV8, by omega⟩, ⟨hSo, bSo⟩, ⟨hLm, bLm⟩, ⟨hHh, bHh⟩, ⟨hWd, bWd⟩, ⟨hPr, bPr⟩⟩⟩) (hP) (hD) hS
    | 2, _, c_1 =>
      refine lv_tableIn (tgt := 54) (off := 48) hx hb dX5_count_6 (by rw [c_1]; decide) (by rw [c_1]; decide) (by rw [c_1]; rfl) (by decide) ?_
      refine lv_aload_n hx hb dX5_count_54 rfl (lv_at hl 0 rfl) ?_
      refine va_get (D := (dC, dI)) (ci := 5) (v := .int (V 4)) (C := RX5) (T := TX5) (N := 33) hx hb hts hin_X5 hown hK hP 0 rfl rfl 4 (by decide) hw4 (fun _ h9 => h9) rfl dX5_count_55 ?_
      refine lv_topi (fun x_4 ex_4 => ?_)
      obtain rfl : x_4 = nI un := ex_4.trans (hV4)
      exact hret (nI un) (F, G, va_up V 0 0) H locs 58 ls rfl dX5_count_58 (⟨trivial, ⟨n, nw, un, d, wm, pf, sh, am, So, Lm, Hh, Wd, Pr, ⟨hV2, by omega⟩, ⟨hV3, by omega⟩, ⟨hV4, by omega⟩, ⟨hV6, by omega⟩, ⟨hV7, by omega⟩, ⟨hV10, by omega⟩, ⟨hV11, by omega⟩, ⟨hV8, by omega⟩, ⟨hSo, bSo⟩, ⟨hLm, bLm⟩, ⟨hHh, bHh⟩, ⟨hWd, bWd⟩, ⟨hPr, bPr⟩⟩⟩) (hP) (hD) hS
    | 3, _, c_1 =>
      refine lv_tableIn (tgt := 59) (off := 53) hx hb dX5_count_6 (by rw [c_1]; decide) (by rw [c_1]; decide) (by rw [c_1]; rfl) (by decide) ?_
      refine lv_aload_n hx hb dX5_count_59 rfl (lv_at hl 0 rfl) ?_
      refine va_get (D := (dC, dI)) (ci := 5) (v := .int (V 7)) (C := RX5) (T := TX5) (N := 33) hx hb hts hin_X5 hown hK hP 0 rfl rfl 7 (by decide) hw5 (fun _ h9 => h9) rfl dX5_count_60 ?_
      refine lv_topi (fun x_5 ex_5 => ?_)
      obtain rfl : x_5 = nI wm := ex_5.trans (hV7)
      refine lv_if_eq (tgt := 70) hx hb dX5_count_63 (by decide) (fun c_6 => ?_) (fun c_6 => ?_)
      · have c_6 : wm = 0 := (nI_eq (a := wm) (b := 0) (by omega) (by omega)).mp c_6
        refine lv_iconst (v := 0) hx hb dX5_count_70 (by decide) ?_
        exact hret 0 (F, G, va_up V 0 0) H locs 71 ls rfl dX5_count_71 (⟨trivial, ⟨n, nw, un, d, wm, pf, sh, am, So, Lm, Hh, Wd, Pr, ⟨hV2, by omega⟩, ⟨hV3, by omega⟩, ⟨hV4, by omega⟩, ⟨hV6, by omega⟩, ⟨hV7, by omega⟩, ⟨hV10, by omega⟩, ⟨hV11, by omega⟩, ⟨hV8, by omega⟩, ⟨hSo, bSo⟩, ⟨hLm, bLm⟩, ⟨hHh, bHh⟩, ⟨hWd, bWd⟩, ⟨hPr, bPr⟩⟩⟩) (hP) (hD) hS
      · have c_6 : ¬ wm = 0 := fun h => c_6 ((nI_eq (a := wm) (b := 0) (by omega) (by omega)).mpr h)
        refine lv_iconst (v := 1) hx hb dX5_count_66 (by decide) ?_
        refine lv_goto (tgt := 71) hx hb dX5_count_67 (by decide) ?_
        exact hret 1 (F, G, va_up V 0 0) H locs 71 ls rfl dX5_count_71 (⟨trivial, ⟨n, nw, un, d, wm, pf, sh, am, So, Lm, Hh, Wd, Pr, ⟨hV2, by omega⟩, ⟨hV3, by omega⟩, ⟨hV4, by omega⟩, ⟨hV6, by omega⟩, ⟨hV7, by omega⟩, ⟨hV10, by omega⟩, ⟨hV11, by omega⟩, ⟨hV8, by omega⟩, ⟨hSo, bSo⟩, ⟨hLm, bLm⟩, ⟨hHh, bHh⟩, ⟨hWd, bWd⟩, ⟨hPr, bPr⟩⟩⟩) (hP) (hD) hS
    | 4, _, c_1 =>
      refine lv_tableIn (tgt := 72) (off := 66) hx hb dX5_count_6 (by rw [c_1]; decide) (by rw [c_1]; decide) (by rw [c_1]; rfl) (by decide) ?_
      refine lv_aload_n hx hb dX5_count_72 rfl (lv_at hl 0 rfl) ?_
      refine va_get (D := (dC, dI)) (ci := 5) (v := .int (V 11)) (C := RX5) (T := TX5) (N := 33) hx hb hts hin_X5 hown hK hP 0 rfl rfl 31 (by decide) hw6 (fun _ h9 => h9) rfl dX5_count_73 ?_
      refine lv_topi (fun x_7 ex_7 => ?_)
      obtain rfl : x_7 = nI sh := ex_7.trans (hV11)
      exact hret (nI sh) (F, G, va_up V 0 0) H locs 76 ls rfl dX5_count_76 (⟨trivial, ⟨n, nw, un, d, wm, pf, sh, am, So, Lm, Hh, Wd, Pr, ⟨hV2, by omega⟩, ⟨hV3, by omega⟩, ⟨hV4, by omega⟩, ⟨hV6, by omega⟩, ⟨hV7, by omega⟩, ⟨hV10, by omega⟩, ⟨hV11, by omega⟩, ⟨hV8, by omega⟩, ⟨hSo, bSo⟩, ⟨hLm, bLm⟩, ⟨hHh, bHh⟩, ⟨hWd, bWd⟩, ⟨hPr, bPr⟩⟩⟩) (hP) (hD) hS
    | 5, _, c_1 =>
      refine lv_tableIn (tgt := 77) (off := 71) hx hb dX5_count_6 (by rw [c_1]; decide) (by rw [c_1]; decide) (by rw [c_1]; rfl) (by decide) ?_
      refine lv_iconst (v := 0) hx hb dX5_count_77 (by decide) ?_
      refine lv_istore_n (lv' := [(2, .int 0), (0, .ref (h 0)), (1, .int p0)]) hx hb dX5_count_78 rfl hl (by decide) rfl (fun ls hl => ?_)
      refine lv_iconst (v := 0) hx hb dX5_count_79 (by decide) ?_
      refine lv_istore_n (lv' := [(3, .int 0), (2, .int 0), (0, .ref (h 0)), (1, .int p0)]) hx hb dX5_count_80 rfl hl (by decide) rfl (fun ls hl => ?_)
      have loop81 : ∀ (fu : Nat) (k : Nat), (k ≤ n) → (n - k) < fu → ∀ (H : Heap) (locs : List Loc) (ls : Array Slot), va_P (dC, dI) vwCl (wM cI cZ cJ h F G (va_up V 0 0)) H → va_D A (wM cI cZ cJ h F G (va_up V 0 0)) → va_S A s.heap H locs → lv_has ls 4 [(0, .ref (h 0)), (1, .int p0), (2, .int (nI (sumN So k))), (3, .int (nI k))] → W p l e rm_X5_count s m args below meth c H locs 0 0 Q (F0 m 81 ls []) := by
        intro fu
        induction fu with
        | zero => intro k hk hn_; exact absurd hn_ (Nat.not_lt_zero _)
        | succ fu ih81 =>
          intro k hk hn_ H locs ls hP hD hS hl
          refine lv_iload_n hx hb dX5_count_81 rfl (lv_at hl 3 rfl) ?_
          refine lv_aload_n hx hb dX5_count_82 rfl (lv_at hl 0 rfl) ?_
          refine va_get (D := (dC, dI)) (ci := 5) (v := .int (V 2)) (C := RX5) (T := TX5) (N := 33) hx hb hts hin_X5 hown hK hP 0 rfl rfl 2 (by decide) hw2 (fun _ h9 => h9) rfl dX5_count_83 ?_
          refine lv_topi (fun x_8 ex_8 => ?_)
          obtain rfl : x_8 = nI n := ex_8.trans (hV2)
          refine lv_icmp_ge (tgt := 104) hx hb dX5_count_86 (by decide) (fun c_9 => ?_) (fun c_9 => ?_)
          · have c_9 : n ≤ k := (nI_leI (a := n) (b := k) (by omega) (by omega)).mp c_9
            refine lv_iload_n hx hb dX5_count_104 rfl (lv_at hl 2 rfl) ?_
            exact hret (nI (sumN So k)) (F, G, va_up V 0 0) H locs 105 ls rfl dX5_count_105 (⟨trivial, ⟨n, nw, un, d, wm, pf, sh, am, So, Lm, Hh, Wd, Pr, ⟨hV2, by omega⟩, ⟨hV3, by omega⟩, ⟨hV4, by omega⟩, ⟨hV6, by omega⟩, ⟨hV7, by omega⟩, ⟨hV10, by omega⟩, ⟨hV11, by omega⟩, ⟨hV8, by omega⟩, ⟨hSo, bSo⟩, ⟨hLm, bLm⟩, ⟨hHh, bHh⟩, ⟨hWd, bWd⟩, ⟨hPr, bPr⟩⟩⟩) (hP) (hD) hS
          · have c_9 : ¬ n ≤ k := fun h => c_9 ((nI_leI (a := n) (b := k) (by omega) (by omega)).mpr h)
            refine lv_iload_n hx hb dX5_count_89 rfl (lv_at hl 2 rfl) ?_
            refine lv_aload_n hx hb dX5_count_90 rfl (lv_at hl 0 rfl) ?_
            refine va_get (D := (dC, dI)) (ci := 5) (v := .ref (h 3)) (C := RX5) (T := TX5) (N := 33) hx hb hts hin_X5 hown hK hP 0 rfl rfl 10 (by decide) hw7 (fun _ h9 => h9) rfl dX5_count_91 ?_
            refine lv_iload_n hx hb dX5_count_94 rfl (lv_at hl 3 rfl) ?_
            refine va_iald hx hb hK hP 3 0 rfl rfl (vp_in_nI (n := k) (N := 40) (by omega) (by decide)) dX5_count_95 ?_
            have hb_10 := bSo k (by omega)
            refine lv_topi (fun x_11 ex_11 => ?_)
            obtain rfl : x_11 = nI (So k) := ex_11.trans ((congrArg (F 3) (nI_clamp (n := k) (by omega))).trans (hSo k (by omega)))
            refine lv_iadd hx hb dX5_count_96 ?_
            refine lv_topi (fun x_12 ex_12 => ?_)
            obtain rfl : x_12 = nI ((sumN So k) + (So k)) := ex_12.trans (nI_add (sumN So k) (So k))
            refine lv_istore_n (lv' := [(2, .int (nI ((sumN So k) + (So k)))), (0, .ref (h 0)), (1, .int p0), (3, .int (nI k))]) hx hb dX5_count_97 rfl hl (by decide) rfl (fun ls hl => ?_)
            refine lv_iinc (v := nI (k + 1)) (lv' := [(3, .int (nI (k + 1))), (2, .int (nI ((sumN So k) + (So k)))), (0, .ref (h 0)), (1, .int p0)]) hx hb dX5_count_98 hl (k := 3) rfl (nI_1 _) (by decide) rfl (fun ls hl => ?_)
            refine lv_goto (tgt := 81) hx hb dX5_count_101 (by decide) ?_
            exact ih81 (k + 1) (by omega) (by omega) H locs ls hP hD hS (lv_sub hl [2, 3, 1, 0] rfl)
      exact loop81 _ 0 (by omega) (Nat.lt_succ_self _) H locs ls hP hD hS (lv_sub hl [2, 3, 1, 0] rfl)
    | j_ + 6, hj_, _ => exact absurd hj_ (by omega)
def rm_X5_stuck : Room := { frames := 3, cells := 0, slots := 0, locals := 71 }
set_option maxHeartbeats 4000000 in
set_option maxRecDepth 100000 in
theorem c_X5_stuck (l : Launch) (dC : Nat → ClassId) (dI : Nat → Nat → Nat) (cI cZ cJ : ClassId) (h : Nat → Nat) (F : Nat → Nat → Int32) (G : Nat → Int64) (V : Nat → Int32) (n : Nat) (hV2 : V 2 = nI n) (bV2 : n ≤ 40) (nw : Nat) (hV3 : V 3 = nI nw) (bV3 : nw ≤ 23) (un : Nat) (hV4 : V 4 = nI un) (bV4 : un ≤ 200) (d : Nat) (hV6 : V 6 = nI d) (bV6 : d ≤ 20) (wm : Nat) (hV7 : V 7 = nI wm) (bV7 : wm ≤ 1) (pf : Nat) (hV10 : V 10 = nI pf) (bV10 : pf ≤ 24) (sh : Nat) (hV11 : V 11 = nI sh) (bV11 : sh ≤ 12) (So : Nat → Nat) (hSo : ∀ i, i < 40 → F 3 i = nI (So i)) (bSo : ∀ i, i < 40 → So i ≤ 90) (Lm : Nat → Nat) (hLm : ∀ i, i < 4 → F 4 i = nI (Lm i)) (bLm : ∀ i, i < 4 → Lm i ≤ 10000) (Hh : Nat → Nat) (hHh : ∀ i, i < 24 → F 7 i = nI (Hh i)) (bHh : ∀ i, i < 24 → Hh i ≤ 9) (Wd : Nat → Nat) (hWd : ∀ i, i < 24 → F 8 i = nI (Wd i)) (bWd : ∀ i, i < 24 → Wd i ≤ 99) (Pr : Nat → Nat) (hPr : ∀ i, i < 24 → F 9 i = nI (Pr i)) (bPr : ∀ i, i < 24 → Pr i ≤ 999) (p0 : Int32)  (am : Nat) (hV8 : V 8 = nI am - 1) (bam : am ≤ 41) : CtI l (dC, dI) vwCl (tys3 cI cZ cJ) yX5_stuck wsX5_stuck rm_X5_stuck [.ref (h 0), .int p0] (wM cI cZ cJ h F G V) (S := (Nat → Nat → Int32) × (Nat → Int64) × (Nat → Int32)) (fun r u => (True) ∧ IM u.1 u.2.2) (fun u => wM cI cZ cJ h u.1 u.2.1 u.2.2) 0 0 := by
  refine ct_I (cc := cX5_stuck) (maxL := 3) (ty := .int) (own := RX5) (by decide) rfl rfl (Nat.le_of_ble_eq_true rfl) (lv := [(0, .ref (h 0)), (1, .int p0)]) rfl ?_
  intro p e s m args below meth c A Q ls fx hK hP hD hA hl hret
  obtain ⟨hx, hb, hml, hown, hts⟩ := id fx
  have hS : va_S A s.heap s.heap [] := va_S.rf
  have hw0 := hts (.fieldLink RX5 1 "MirrorTowerModel" "thrown" "I") (by decide +kernel)
  have hin_X5 : ∀ w ∈ u_ws RX5 TX5 33, w ∈ wsX5_stuck := by decide +kernel
  have hw2 := hts (.fieldLink RX5 88 "MirrorTowerModel" "inSets" "[I") (by decide +kernel)
  obtain ⟨H, hH⟩ : ∃ H, H = s.heap := ⟨_, rfl⟩
  rw [← hH] at hP ⊢
  have hS : va_S A s.heap H [] := by rw [hH]; exact hS
  generalize ([] : List Loc) = locs at hS ⊢
  refine lv_aload_n hx hb dX5_stuck_0 rfl (lv_at hl 0 rfl) ?_
  refine lv_iconst (v := 0) hx hb dX5_stuck_1 (by decide) ?_
  refine va_put (D := (dC, dI)) (ci := 5) (v := .int 0) (ty := .int) (C := RX5) (T := TX5) (N := 33) hx hb hts hin_X5 tyX5 tyX5_ok nmX5 hown hK hP hD hS 0 rfl rfl 0 (by decide) hw0 (fun _ h9 => h9) rfl (by decide +kernel) rfl rfl (Nat.le_of_ble_eq_true rfl) dX5_stuck_2 (fun H locs hP hD hS => ?_)
  have hP : va_P (dC, dI) vwCl (wM cI cZ cJ h F G (va_up V 0 0)) H := hP
  have hD : va_D A (wM cI cZ cJ h F G (va_up V 0 0)) := hD
  refine lv_aload_n hx hb dX5_stuck_5 rfl (lv_at hl 0 rfl) ?_
  refine lv_iload_n hx hb dX5_stuck_6 rfl (lv_at hl 1 rfl) ?_
  refine cw_Vi (As := [.int p0]) (rest := []) (c_X5_isMirror l dC dI cI cZ cJ h F G (va_up V 0 0) n hV2 (by omega) p0) fx (cwV 1 hts gX5_stuck_X5_isMirror rfl rfl rfl (by decide +kernel) ⟨Nat.le_of_ble_eq_true rfl, Nat.le_of_ble_eq_true rfl⟩) hK hP hD hS hA 0 rfl rfl rfl rfl hl.1 rfl (Nat.le_of_ble_eq_true rfl) dX5_stuck_7 ⟨Nat.le_of_ble_eq_true rfl, Nat.le_of_ble_eq_true rfl⟩ (fun r_1 u_2 H locs hw_3 hP hD hS => ?_)
  have hP : va_P (dC, dI) vwCl (wM cI cZ cJ h F G (va_up V 0 0)) H := hP
  have hD : va_D A (wM cI cZ cJ h F G (va_up V 0 0)) := hD
  have hw_3 : r_1 = bI ((!ltI p0 0 && ltI p0 (nI n))) := hw_3
  refine lv_if_ne (tgt := 15) hx hb dX5_stuck_10 (by decide) (fun c_4 => ?_) (fun c_4 => ?_)
  · have c_4 : (!ltI p0 0 && ltI p0 (nI n)) = true := bI_t hw_3 c_4
    refine lv_aload_n hx hb dX5_stuck_15 rfl (lv_at hl 0 rfl) ?_
    obtain ⟨k0, hk0, rfl⟩ := mir_nat bV2 c_4
    refine cw_Vi (As := []) (rest := []) (c_X5_agreeing l dC dI cI cZ cJ h F G (va_up V 0 0) n hV2 (by omega) sh hV11 (by omega)) fx (cwV 0 hts gX5_stuck_X5_agreeing rfl rfl rfl (by decide +kernel) ⟨Nat.le_of_ble_eq_true rfl, Nat.le_of_ble_eq_true rfl⟩) hK hP hD hS hA 0 rfl rfl rfl rfl hl.1 rfl (Nat.le_of_ble_eq_true rfl) dX5_stuck_16 ⟨Nat.le_of_ble_eq_true rfl, Nat.le_of_ble_eq_true rfl⟩ (fun r_5 u_6 H locs hw_7 hP hD hS => ?_)
    obtain ⟨F_8, rfl⟩ : ∃ z, z = u_6 := ⟨_, rfl⟩
    have hf_9 : ∀ j, j ∉ ([21] : List Nat) → F_8 j = F j := hw_7.2.1
    have hP : va_P (dC, dI) vwCl (wM cI cZ cJ h F_8 G (va_up V 0 0)) H := hP
    have hD : va_D A (wM cI cZ cJ h F_8 G (va_up V 0 0)) := hD
    have hN_10 : ∀ i, i < 40 → F_8 3 i = nI (So i) := by rw [hf_9 3 (by decide)]; exact hSo
    have hN_11 : ∀ i, i < 4 → F_8 4 i = nI (Lm i) := by rw [hf_9 4 (by decide)]; exact hLm
    have hN_12 : ∀ i, i < 24 → F_8 7 i = nI (Hh i) := by rw [hf_9 7 (by decide)]; exact hHh
    have hN_13 : ∀ i, i < 24 → F_8 8 i = nI (Wd i) := by rw [hf_9 8 (by decide)]; exact hWd
    have hN_14 : ∀ i, i < 24 → F_8 9 i = nI (Pr i) := by rw [hf_9 9 (by decide)]; exact hPr
    refine lv_istore_n (lv' := [(2, .int r_5), (0, .ref (h 0)), (1, .int (nI k0))]) hx hb dX5_stuck_19 rfl hl (by decide) rfl (fun ls hl => ?_)
    refine lv_iload_n hx hb dX5_stuck_20 rfl (lv_at hl 0 rfl) ?_
    refine lv_if_ne (tgt := 28) hx hb dX5_stuck_21 (by decide) (fun c_15 => ?_) (fun c_15 => ?_)
    · have c_15 : eqI r_5 0 = false := decide_eq_false c_15
      refine lv_aload_n hx hb dX5_stuck_28 rfl (lv_at hl 1 rfl) ?_
      refine va_get (D := (dC, dI)) (ci := 5) (v := .ref (h 21)) (C := RX5) (T := TX5) (N := 33) hx hb hts hin_X5 hown hK hP 0 rfl rfl 32 (by decide) hw2 (fun _ h9 => h9) rfl dX5_stuck_29 ?_
      refine lv_iload_n hx hb dX5_stuck_32 rfl (lv_at hl 2 rfl) ?_
      refine va_iald hx hb hK hP 21 0 rfl rfl (vp_in_nI (n := k0) (N := 40) (by omega) (by decide)) dX5_stuck_33 ?_
      refine lv_topi (fun x_16 ex_16 => ?_)
      rw [nI_clamp (n := k0) (by omega)] at ex_16
      refine lv_iload_n hx hb dX5_stuck_34 rfl (lv_at hl 0 rfl) ?_
      refine lv_icmp_ne (tgt := 42) hx hb dX5_stuck_35 (by decide) (fun c_17 => ?_) (fun c_17 => ?_)
      · have c_17 : eqI x_16 r_5 = false := decide_eq_false c_17
        refine lv_aload_n hx hb dX5_stuck_42 rfl (lv_at hl 1 rfl) ?_
        refine va_get (D := (dC, dI)) (ci := 5) (v := .ref (h 21)) (C := RX5) (T := TX5) (N := 33) hx hb hts hin_X5 hown hK hP 0 rfl rfl 32 (by decide) hw2 (fun _ h9 => h9) rfl dX5_stuck_43 ?_
        refine lv_iload_n hx hb dX5_stuck_46 rfl (lv_at hl 2 rfl) ?_
        refine va_iald hx hb hK hP 21 0 rfl rfl (vp_in_nI (n := k0) (N := 40) (by omega) (by decide)) dX5_stuck_47 ?_
        refine lv_topi (fun x_18 ex_18 => ?_)
        rw [nI_clamp (n := k0) (by omega)] at ex_18
        refine lv_if_ne (tgt := 55) hx hb dX5_stuck_48 (by decide) (fun c_19 => ?_) (fun c_19 => ?_)
        · have c_19 : eqI x_18 0 = false := decide_eq_false c_19
          refine lv_iconst (v := 2) hx hb dX5_stuck_55 (by decide) ?_
          exact hret 2 (F_8, G, va_up V 0 0) H locs 56 ls rfl dX5_stuck_56 (⟨trivial, ⟨n, nw, un, d, wm, pf, sh, am, So, Lm, Hh, Wd, Pr, ⟨hV2, by omega⟩, ⟨hV3, by omega⟩, ⟨hV4, by omega⟩, ⟨hV6, by omega⟩, ⟨hV7, by omega⟩, ⟨hV10, by omega⟩, ⟨hV11, by omega⟩, ⟨hV8, by omega⟩, ⟨hN_10, bSo⟩, ⟨hN_11, bLm⟩, ⟨hN_12, bHh⟩, ⟨hN_13, bWd⟩, ⟨hN_14, bPr⟩⟩⟩) (hP) (hD) hS
        · have c_19 : eqI x_18 0 = true := decide_eq_true c_19
          refine lv_iconst (v := 0) hx hb dX5_stuck_51 (by decide) ?_
          refine lv_goto (tgt := 56) hx hb dX5_stuck_52 (by decide) ?_
          exact hret 0 (F_8, G, va_up V 0 0) H locs 56 ls rfl dX5_stuck_56 (⟨trivial, ⟨n, nw, un, d, wm, pf, sh, am, So, Lm, Hh, Wd, Pr, ⟨hV2, by omega⟩, ⟨hV3, by omega⟩, ⟨hV4, by omega⟩, ⟨hV6, by omega⟩, ⟨hV7, by omega⟩, ⟨hV10, by omega⟩, ⟨hV11, by omega⟩, ⟨hV8, by omega⟩, ⟨hN_10, bSo⟩, ⟨hN_11, bLm⟩, ⟨hN_12, bHh⟩, ⟨hN_13, bWd⟩, ⟨hN_14, bPr⟩⟩⟩) (hP) (hD) hS
      · have c_17 : eqI x_16 r_5 = true := decide_eq_true c_17
        refine lv_iconst (v := 1) hx hb dX5_stuck_38 (by decide) ?_
        refine lv_goto (tgt := 56) hx hb dX5_stuck_39 (by decide) ?_
        exact hret 1 (F_8, G, va_up V 0 0) H locs 56 ls rfl dX5_stuck_56 (⟨trivial, ⟨n, nw, un, d, wm, pf, sh, am, So, Lm, Hh, Wd, Pr, ⟨hV2, by omega⟩, ⟨hV3, by omega⟩, ⟨hV4, by omega⟩, ⟨hV6, by omega⟩, ⟨hV7, by omega⟩, ⟨hV10, by omega⟩, ⟨hV11, by omega⟩, ⟨hV8, by omega⟩, ⟨hN_10, bSo⟩, ⟨hN_11, bLm⟩, ⟨hN_12, bHh⟩, ⟨hN_13, bWd⟩, ⟨hN_14, bPr⟩⟩⟩) (hP) (hD) hS
    · have c_15 : eqI r_5 0 = true := decide_eq_true c_15
      refine lv_iconst (v := 2) hx hb dX5_stuck_24 (by decide) ?_
      refine lv_goto (tgt := 56) hx hb dX5_stuck_25 (by decide) ?_
      exact hret 2 (F_8, G, va_up V 0 0) H locs 56 ls rfl dX5_stuck_56 (⟨trivial, ⟨n, nw, un, d, wm, pf, sh, am, So, Lm, Hh, Wd, Pr, ⟨hV2, by omega⟩, ⟨hV3, by omega⟩, ⟨hV4, by omega⟩, ⟨hV6, by omega⟩, ⟨hV7, by omega⟩, ⟨hV10, by omega⟩, ⟨hV11, by omega⟩, ⟨hV8, by omega⟩, ⟨hN_10, bSo⟩, ⟨hN_11, bLm⟩, ⟨hN_12, bHh⟩, ⟨hN_13, bWd⟩, ⟨hN_14, bPr⟩⟩⟩) (hP) (hD) hS
  · have c_4 : (!ltI p0 0 && ltI p0 (nI n)) = false := bI_f hw_3 c_4
    refine lv_iconst (v := (-1)) hx hb dX5_stuck_13 (by decide) ?_
    exact hret (-1) (F, G, va_up V 0 0) H locs 14 ls rfl dX5_stuck_14 (⟨trivial, ⟨n, nw, un, d, wm, pf, sh, am, So, Lm, Hh, Wd, Pr, ⟨hV2, by omega⟩, ⟨hV3, by omega⟩, ⟨hV4, by omega⟩, ⟨hV6, by omega⟩, ⟨hV7, by omega⟩, ⟨hV10, by omega⟩, ⟨hV11, by omega⟩, ⟨hV8, by omega⟩, ⟨hSo, bSo⟩, ⟨hLm, bLm⟩, ⟨hHh, bHh⟩, ⟨hWd, bWd⟩, ⟨hPr, bPr⟩⟩⟩) (hP) (hD) hS
def rm_X5_unsure : Room := { frames := 3, cells := 0, slots := 0, locals := 71 }
set_option maxHeartbeats 4000000 in
set_option maxRecDepth 100000 in
theorem c_X5_unsure (l : Launch) (dC : Nat → ClassId) (dI : Nat → Nat → Nat) (cI cZ cJ : ClassId) (h : Nat → Nat) (F : Nat → Nat → Int32) (G : Nat → Int64) (V : Nat → Int32) (n : Nat) (hV2 : V 2 = nI n) (bV2 : n ≤ 40) (nw : Nat) (hV3 : V 3 = nI nw) (bV3 : nw ≤ 23) (un : Nat) (hV4 : V 4 = nI un) (bV4 : un ≤ 200) (d : Nat) (hV6 : V 6 = nI d) (bV6 : d ≤ 20) (wm : Nat) (hV7 : V 7 = nI wm) (bV7 : wm ≤ 1) (pf : Nat) (hV10 : V 10 = nI pf) (bV10 : pf ≤ 24) (sh : Nat) (hV11 : V 11 = nI sh) (bV11 : sh ≤ 12) (So : Nat → Nat) (hSo : ∀ i, i < 40 → F 3 i = nI (So i)) (bSo : ∀ i, i < 40 → So i ≤ 90) (Lm : Nat → Nat) (hLm : ∀ i, i < 4 → F 4 i = nI (Lm i)) (bLm : ∀ i, i < 4 → Lm i ≤ 10000) (Hh : Nat → Nat) (hHh : ∀ i, i < 24 → F 7 i = nI (Hh i)) (bHh : ∀ i, i < 24 → Hh i ≤ 9) (Wd : Nat → Nat) (hWd : ∀ i, i < 24 → F 8 i = nI (Wd i)) (bWd : ∀ i, i < 24 → Wd i ≤ 99) (Pr : Nat → Nat) (hPr : ∀ i, i < 24 → F 9 i = nI (Pr i)) (bPr : ∀ i, i < 24 → Pr i ≤ 999)   (am : Nat) (hV8 : V 8 = nI am - 1) (bam : am ≤ 41) : CtI l (dC, dI) vwCl (tys3 cI cZ cJ) yX5_unsure wsX5_unsure rm_X5_unsure [.ref (h 0)] (wM cI cZ cJ h F G V) (S := (Nat → Nat → Int32) × (Nat → Int64) × (Nat → Int32)) (fun r u => (True) ∧ IM u.1 u.2.2) (fun u => wM cI cZ cJ h u.1 u.2.1 u.2.2) 0 0 := by
  refine ct_I (cc := cX5_unsure) (maxL := 4) (ty := .int) (own := RX5) (by decide) rfl rfl (Nat.le_of_ble_eq_true rfl) (lv := [(0, .ref (h 0))]) rfl ?_
  intro p e s m args below meth c A Q ls fx hK hP hD hA hl hret
  obtain ⟨hx, hb, hml, hown, hts⟩ := id fx
  have hS : va_S A s.heap s.heap [] := va_S.rf
  have hw0 := hts (.fieldLink RX5 1 "MirrorTowerModel" "thrown" "I") (by decide +kernel)
  have hin_X5 : ∀ w ∈ u_ws RX5 TX5 33, w ∈ wsX5_unsure := by decide +kernel
  have hw2 := hts (.fieldLink RX5 91 "MirrorTowerModel" "mirrors" "I") (by decide +kernel)
  have hw3 := hts (.fieldLink RX5 88 "MirrorTowerModel" "inSets" "[I") (by decide +kernel)
  obtain ⟨H, hH⟩ : ∃ H, H = s.heap := ⟨_, rfl⟩
  rw [← hH] at hP ⊢
  have hS : va_S A s.heap H [] := by rw [hH]; exact hS
  generalize ([] : List Loc) = locs at hS ⊢
  refine lv_aload_n hx hb dX5_unsure_0 rfl (lv_at hl 0 rfl) ?_
  refine lv_iconst (v := 0) hx hb dX5_unsure_1 (by decide) ?_
  refine va_put (D := (dC, dI)) (ci := 5) (v := .int 0) (ty := .int) (C := RX5) (T := TX5) (N := 33) hx hb hts hin_X5 tyX5 tyX5_ok nmX5 hown hK hP hD hS 0 rfl rfl 0 (by decide) hw0 (fun _ h9 => h9) rfl (by decide +kernel) rfl rfl (Nat.le_of_ble_eq_true rfl) dX5_unsure_2 (fun H locs hP hD hS => ?_)
  have hP : va_P (dC, dI) vwCl (wM cI cZ cJ h F G (va_up V 0 0)) H := hP
  have hD : va_D A (wM cI cZ cJ h F G (va_up V 0 0)) := hD
  refine lv_aload_n hx hb dX5_unsure_5 rfl (lv_at hl 0 rfl) ?_
  refine cw_Vi (As := []) (rest := []) (c_X5_agreeing l dC dI cI cZ cJ h F G (va_up V 0 0) n hV2 (by omega) sh hV11 (by omega)) fx (cwV 0 hts gX5_unsure_X5_agreeing rfl rfl rfl (by decide +kernel) ⟨Nat.le_of_ble_eq_true rfl, Nat.le_of_ble_eq_true rfl⟩) hK hP hD hS hA 0 rfl rfl rfl rfl hl.1 rfl (Nat.le_of_ble_eq_true rfl) dX5_unsure_6 ⟨Nat.le_of_ble_eq_true rfl, Nat.le_of_ble_eq_true rfl⟩ (fun r_1 u_2 H locs hw_3 hP hD hS => ?_)
  obtain ⟨F_4, rfl⟩ : ∃ z, z = u_2 := ⟨_, rfl⟩
  have hf_5 : ∀ j, j ∉ ([21] : List Nat) → F_4 j = F j := hw_3.2.1
  have hP : va_P (dC, dI) vwCl (wM cI cZ cJ h F_4 G (va_up V 0 0)) H := hP
  have hD : va_D A (wM cI cZ cJ h F_4 G (va_up V 0 0)) := hD
  have hN_6 : ∀ i, i < 40 → F_4 3 i = nI (So i) := by rw [hf_5 3 (by decide)]; exact hSo
  have hN_7 : ∀ i, i < 4 → F_4 4 i = nI (Lm i) := by rw [hf_5 4 (by decide)]; exact hLm
  have hN_8 : ∀ i, i < 24 → F_4 7 i = nI (Hh i) := by rw [hf_5 7 (by decide)]; exact hHh
  have hN_9 : ∀ i, i < 24 → F_4 8 i = nI (Wd i) := by rw [hf_5 8 (by decide)]; exact hWd
  have hN_10 : ∀ i, i < 24 → F_4 9 i = nI (Pr i) := by rw [hf_5 9 (by decide)]; exact hPr
  refine lv_istore_n (lv' := [(1, .int r_1), (0, .ref (h 0))]) hx hb dX5_unsure_9 rfl hl (by decide) rfl (fun ls hl => ?_)
  refine lv_iconst (v := 0) hx hb dX5_unsure_10 (by decide) ?_
  refine lv_istore_n (lv' := [(2, .int 0), (1, .int r_1), (0, .ref (h 0))]) hx hb dX5_unsure_11 rfl hl (by decide) rfl (fun ls hl => ?_)
  refine lv_iconst (v := 0) hx hb dX5_unsure_12 (by decide) ?_
  refine lv_istore_n (lv' := [(3, .int 0), (2, .int 0), (1, .int r_1), (0, .ref (h 0))]) hx hb dX5_unsure_13 rfl hl (by decide) rfl (fun ls hl => ?_)
  have loop14 : ∀ (fu : Nat) (x : Int32) (k : Nat), (k ≤ n) → (n - k) < fu → ∀ (H : Heap) (locs : List Loc) (ls : Array Slot), va_P (dC, dI) vwCl (wM cI cZ cJ h F_4 G (va_up V 0 0)) H → va_D A (wM cI cZ cJ h F_4 G (va_up V 0 0)) → va_S A s.heap H locs → lv_has ls 4 [(0, .ref (h 0)), (1, .int r_1), (2, .int x), (3, .int (nI k))] → W p l e rm_X5_unsure s m args below meth c H locs 0 0 Q (F0 m 14 ls []) := by
    intro fu
    induction fu with
    | zero => intro x k hk hn_; exact absurd hn_ (Nat.not_lt_zero _)
    | succ fu ih14 =>
      intro x k hk hn_ H locs ls hP hD hS hl
      refine lv_iload_n hx hb dX5_unsure_14 rfl (lv_at hl 3 rfl) ?_
      refine lv_aload_n hx hb dX5_unsure_15 rfl (lv_at hl 0 rfl) ?_
      refine va_get (D := (dC, dI)) (ci := 5) (v := .int (V 2)) (C := RX5) (T := TX5) (N := 33) hx hb hts hin_X5 hown hK hP 0 rfl rfl 2 (by decide) hw2 (fun _ h9 => h9) rfl dX5_unsure_16 ?_
      refine lv_topi (fun x_11 ex_11 => ?_)
      obtain rfl : x_11 = nI n := ex_11.trans (hV2)
      refine lv_icmp_ge (tgt := 59) hx hb dX5_unsure_19 (by decide) (fun c_12 => ?_) (fun c_12 => ?_)
      · have c_12 : n ≤ k := (nI_leI (a := n) (b := k) (by omega) (by omega)).mp c_12
        refine lv_iload_n hx hb dX5_unsure_59 rfl (lv_at hl 2 rfl) ?_
        exact hret x (F_4, G, va_up V 0 0) H locs 60 ls rfl dX5_unsure_60 (⟨trivial, ⟨n, nw, un, d, wm, pf, sh, am, So, Lm, Hh, Wd, Pr, ⟨hV2, by omega⟩, ⟨hV3, by omega⟩, ⟨hV4, by omega⟩, ⟨hV6, by omega⟩, ⟨hV7, by omega⟩, ⟨hV10, by omega⟩, ⟨hV11, by omega⟩, ⟨hV8, by omega⟩, ⟨hN_6, bSo⟩, ⟨hN_7, bLm⟩, ⟨hN_8, bHh⟩, ⟨hN_9, bWd⟩, ⟨hN_10, bPr⟩⟩⟩) (hP) (hD) hS
      · have c_12 : ¬ n ≤ k := fun h => c_12 ((nI_leI (a := n) (b := k) (by omega) (by omega)).mpr h)
        refine lv_iload_n hx hb dX5_unsure_22 rfl (lv_at hl 2 rfl) ?_
        refine lv_iload_n hx hb dX5_unsure_23 rfl (lv_at hl 1 rfl) ?_
        refine lv_if_eq (tgt := 46) hx hb dX5_unsure_24 (by decide) (fun c_13 => ?_) (fun c_13 => ?_)
        · have c_13 : eqI r_1 0 = true := decide_eq_true c_13
          refine lv_iconst (v := 1) hx hb dX5_unsure_46 (by decide) ?_
          refine lv_goto (tgt := 51) hx hb dX5_unsure_47 (by decide) ?_
          refine lv_iadd hx hb dX5_unsure_51 ?_
          refine lv_istore_n (lv' := [(2, .int (x + 1)), (0, .ref (h 0)), (1, .int r_1), (3, .int (nI k))]) hx hb dX5_unsure_52 rfl hl (by decide) rfl (fun ls hl => ?_)
          refine lv_iinc (v := nI (k + 1)) (lv' := [(3, .int (nI (k + 1))), (2, .int (x + 1)), (0, .ref (h 0)), (1, .int r_1)]) hx hb dX5_unsure_53 hl (k := 3) rfl (nI_1 _) (by decide) rfl (fun ls hl => ?_)
          refine lv_goto (tgt := 14) hx hb dX5_unsure_56 (by decide) ?_
          exact ih14 (x + 1) (k + 1) (by omega) (by omega) H locs ls hP hD hS (lv_sub hl [2, 3, 1, 0] rfl)
        · have c_13 : eqI r_1 0 = false := decide_eq_false c_13
          refine lv_aload_n hx hb dX5_unsure_27 rfl (lv_at hl 0 rfl) ?_
          refine va_get (D := (dC, dI)) (ci := 5) (v := .ref (h 21)) (C := RX5) (T := TX5) (N := 33) hx hb hts hin_X5 hown hK hP 0 rfl rfl 32 (by decide) hw3 (fun _ h9 => h9) rfl dX5_unsure_28 ?_
          refine lv_iload_n hx hb dX5_unsure_31 rfl (lv_at hl 3 rfl) ?_
          refine va_iald hx hb hK hP 21 0 rfl rfl (vp_in_nI (n := k) (N := 40) (by omega) (by decide)) dX5_unsure_32 ?_
          refine lv_topi (fun x_14 ex_14 => ?_)
          rw [nI_clamp (n := k) (by omega)] at ex_14
          refine lv_if_le (tgt := 50) hx hb dX5_unsure_33 (by decide) (fun c_15 => ?_) (fun c_15 => ?_)
          · have c_15 : ltI 0 x_14 = false := decide_eq_false (Int32.not_lt.mpr c_15)
            refine lv_iconst (v := 0) hx hb dX5_unsure_50 (by decide) ?_
            refine lv_iadd hx hb dX5_unsure_51 ?_
            refine lv_istore_n (lv' := [(2, .int (x + 0)), (0, .ref (h 0)), (1, .int r_1), (3, .int (nI k))]) hx hb dX5_unsure_52 rfl hl (by decide) rfl (fun ls hl => ?_)
            refine lv_iinc (v := nI (k + 1)) (lv' := [(3, .int (nI (k + 1))), (2, .int (x + 0)), (0, .ref (h 0)), (1, .int r_1)]) hx hb dX5_unsure_53 hl (k := 3) rfl (nI_1 _) (by decide) rfl (fun ls hl => ?_)
            refine lv_goto (tgt := 14) hx hb dX5_unsure_56 (by decide) ?_
            exact ih14 (x + 0) (k + 1) (by omega) (by omega) H locs ls hP hD hS (lv_sub hl [2, 3, 1, 0] rfl)
          · have c_15 : ltI 0 x_14 = true := decide_eq_true (Int32.not_le.mp c_15)
            refine lv_aload_n hx hb dX5_unsure_36 rfl (lv_at hl 0 rfl) ?_
            refine va_get (D := (dC, dI)) (ci := 5) (v := .ref (h 21)) (C := RX5) (T := TX5) (N := 33) hx hb hts hin_X5 hown hK hP 0 rfl rfl 32 (by decide) hw3 (fun _ h9 => h9) rfl dX5_unsure_37 ?_
            refine lv_iload_n hx hb dX5_unsure_40 rfl (lv_at hl 3 rfl) ?_
            refine va_iald hx hb hK hP 21 0 rfl rfl (vp_in_nI (n := k) (N := 40) (by omega) (by decide)) dX5_unsure_41 ?_
            refine lv_topi (fun x_16 ex_16 => ?_)
            rw [nI_clamp (n := k) (by omega)] at ex_16
            refine lv_iload_n hx hb dX5_unsure_42 rfl (lv_at hl 1 rfl) ?_
            refine lv_icmp_ge (tgt := 50) hx hb dX5_unsure_43 (by decide) (fun c_17 => ?_) (fun c_17 => ?_)
            · have c_17 : ltI x_16 r_1 = false := decide_eq_false (Int32.not_lt.mpr c_17)
              refine lv_iconst (v := 0) hx hb dX5_unsure_50 (by decide) ?_
              refine lv_iadd hx hb dX5_unsure_51 ?_
              refine lv_istore_n (lv' := [(2, .int (x + 0)), (0, .ref (h 0)), (1, .int r_1), (3, .int (nI k))]) hx hb dX5_unsure_52 rfl hl (by decide) rfl (fun ls hl => ?_)
              refine lv_iinc (v := nI (k + 1)) (lv' := [(3, .int (nI (k + 1))), (2, .int (x + 0)), (0, .ref (h 0)), (1, .int r_1)]) hx hb dX5_unsure_53 hl (k := 3) rfl (nI_1 _) (by decide) rfl (fun ls hl => ?_)
              refine lv_goto (tgt := 14) hx hb dX5_unsure_56 (by decide) ?_
              exact ih14 (x + 0) (k + 1) (by omega) (by omega) H locs ls hP hD hS (lv_sub hl [2, 3, 1, 0] rfl)
            · have c_17 : ltI x_16 r_1 = true := decide_eq_true (Int32.not_le.mp c_17)
              refine lv_iconst (v := 1) hx hb dX5_unsure_46 (by decide) ?_
              refine lv_goto (tgt := 51) hx hb dX5_unsure_47 (by decide) ?_
              refine lv_iadd hx hb dX5_unsure_51 ?_
              refine lv_istore_n (lv' := [(2, .int (x + 1)), (0, .ref (h 0)), (1, .int r_1), (3, .int (nI k))]) hx hb dX5_unsure_52 rfl hl (by decide) rfl (fun ls hl => ?_)
              refine lv_iinc (v := nI (k + 1)) (lv' := [(3, .int (nI (k + 1))), (2, .int (x + 1)), (0, .ref (h 0)), (1, .int r_1)]) hx hb dX5_unsure_53 hl (k := 3) rfl (nI_1 _) (by decide) rfl (fun ls hl => ?_)
              refine lv_goto (tgt := 14) hx hb dX5_unsure_56 (by decide) ?_
              exact ih14 (x + 1) (k + 1) (by omega) (by omega) H locs ls hP hD hS (lv_sub hl [2, 3, 1, 0] rfl)
  exact loop14 _ 0 0 (by omega) (Nat.lt_succ_self _) H locs ls hP hD hS (lv_sub hl [3, 2, 1, 0] rfl)
def rm_X5_mirror : Room := { frames := 1, cells := 0, slots := 0, locals := 22 }
set_option maxHeartbeats 4000000 in
set_option maxRecDepth 100000 in
theorem c_X5_mirror (l : Launch) (dC : Nat → ClassId) (dI : Nat → Nat → Nat) (cI cZ cJ : ClassId) (h : Nat → Nat) (F : Nat → Nat → Int32) (G : Nat → Int64) (V : Nat → Int32) (n : Nat) (hV2 : V 2 = nI n) (bV2 : n ≤ 40) (nw : Nat) (hV3 : V 3 = nI nw) (bV3 : nw ≤ 23) (un : Nat) (hV4 : V 4 = nI un) (bV4 : un ≤ 200) (d : Nat) (hV6 : V 6 = nI d) (bV6 : d ≤ 20) (wm : Nat) (hV7 : V 7 = nI wm) (bV7 : wm ≤ 1) (pf : Nat) (hV10 : V 10 = nI pf) (bV10 : pf ≤ 24) (sh : Nat) (hV11 : V 11 = nI sh) (bV11 : sh ≤ 12) (So : Nat → Nat) (hSo : ∀ i, i < 40 → F 3 i = nI (So i)) (bSo : ∀ i, i < 40 → So i ≤ 90) (Lm : Nat → Nat) (hLm : ∀ i, i < 4 → F 4 i = nI (Lm i)) (bLm : ∀ i, i < 4 → Lm i ≤ 10000) (Hh : Nat → Nat) (hHh : ∀ i, i < 24 → F 7 i = nI (Hh i)) (bHh : ∀ i, i < 24 → Hh i ≤ 9) (Wd : Nat → Nat) (hWd : ∀ i, i < 24 → F 8 i = nI (Wd i)) (bWd : ∀ i, i < 24 → Wd i ≤ 99) (Pr : Nat → Nat) (hPr : ∀ i, i < 24 → F 9 i = nI (Pr i)) (bPr : ∀ i, i < 24 → Pr i ≤ 999) (p0 p1 : Int32)  (am : Nat) (hV8 : V 8 = nI am - 1) (bam : am ≤ 41) : CtI l (dC, dI) vwCl (tys3 cI cZ cJ) yX5_mirror wsX5_mirror rm_X5_mirror [.ref (h 0), .int p0, .int p1] (wM cI cZ cJ h F G V) (S := (Nat → Nat → Int32) × (Nat → Int64) × (Nat → Int32)) (fun r u => (True) ∧ IM u.1 u.2.2) (fun u => wM cI cZ cJ h u.1 u.2.1 u.2.2) 0 0 := by
  refine ct_I (cc := cX5_mirror) (maxL := 5) (ty := .int) (own := RX5) (by decide) rfl rfl (Nat.le_of_ble_eq_true rfl) (lv := [(0, .ref (h 0)), (1, .int p0), (2, .int p1)]) rfl ?_
  intro p e s m args below meth c A Q ls fx hK hP hD hA hl hret
  obtain ⟨hx, hb, hml, hown, hts⟩ := id fx
  have hS : va_S A s.heap s.heap [] := va_S.rf
  have hw0 := hts (.fieldLink RX5 1 "MirrorTowerModel" "thrown" "I") (by decide +kernel)
  have hin_X5 : ∀ w ∈ u_ws RX5 TX5 33, w ∈ wsX5_mirror := by decide +kernel
  have hw2 := hts (.fieldLink RX5 91 "MirrorTowerModel" "mirrors" "I") (by decide +kernel)
  have hw3 := hts (.fieldLink RX5 19 "MirrorTowerModel" "x" "[I") (by decide +kernel)
  have hw4 := hts (.fieldLink RX5 23 "MirrorTowerModel" "y" "[I") (by decide +kernel)
  obtain ⟨H, hH⟩ : ∃ H, H = s.heap := ⟨_, rfl⟩
  rw [← hH] at hP ⊢
  have hS : va_S A s.heap H [] := by rw [hH]; exact hS
  generalize ([] : List Loc) = locs at hS ⊢
  refine lv_aload_n hx hb dX5_mirror_0 rfl (lv_at hl 0 rfl) ?_
  refine lv_iconst (v := 0) hx hb dX5_mirror_1 (by decide) ?_
  refine va_put (D := (dC, dI)) (ci := 5) (v := .int 0) (ty := .int) (C := RX5) (T := TX5) (N := 33) hx hb hts hin_X5 tyX5 tyX5_ok nmX5 hown hK hP hD hS 0 rfl rfl 0 (by decide) hw0 (fun _ h9 => h9) rfl (by decide +kernel) rfl rfl (Nat.le_of_ble_eq_true rfl) dX5_mirror_2 (fun H locs hP hD hS => ?_)
  have hP : va_P (dC, dI) vwCl (wM cI cZ cJ h F G (va_up V 0 0)) H := hP
  have hD : va_D A (wM cI cZ cJ h F G (va_up V 0 0)) := hD
  refine lv_iload_n hx hb dX5_mirror_5 rfl (lv_at hl 1 rfl) ?_
  refine lv_iconst (v := 0) hx hb dX5_mirror_6 (by decide) ?_
  refine lv_bipush (v := 14) hx hb dX5_mirror_7 (by decide) ?_
  refine cw_Si (As := [.int p0, .int 0, .int 14]) (rest := []) (c_X5_in l dC dI cI cZ cJ (wM cI cZ cJ h F G (va_up V 0 0)) p0 0 14) fx (va_cwS 3 hts gX5_mirror_X5_in rfl rfl rfl (by decide +kernel) ⟨Nat.le_of_ble_eq_true rfl, Nat.le_of_ble_eq_true rfl⟩) hK hP hD hS hA rfl hl.1 rfl (Nat.le_of_ble_eq_true rfl) dX5_mirror_9 ⟨Nat.le_of_ble_eq_true rfl, Nat.le_of_ble_eq_true rfl⟩ (fun r_1 u_2 H locs hw_3 hP hD hS => ?_)
  have hP : va_P (dC, dI) vwCl (wM cI cZ cJ h F G (va_up V 0 0)) H := hP
  have hD : va_D A (wM cI cZ cJ h F G (va_up V 0 0)) := hD
  have hw_3 : r_1 = bI (isW p0 0 14) := hw_3
  refine lv_if_eq (tgt := 25) hx hb dX5_mirror_12 (by decide) (fun c_4 => ?_) (fun c_4 => ?_)
  · have c_4 : isW p0 0 14 = false := bI_f hw_3 c_4
    refine lv_aload_n hx hb dX5_mirror_25 rfl (lv_at hl 0 rfl) ?_
    refine lv_iconst (v := 2) hx hb dX5_mirror_26 (by decide) ?_
    refine cw_Vi (As := [.int 2]) (rest := []) (c_X5_refused l dC dI cI cZ cJ h F G (va_up V 0 0) 2) fx (cwV 1 hts gX5_mirror_X5_refused rfl rfl rfl (by decide +kernel) ⟨Nat.le_of_ble_eq_true rfl, Nat.le_of_ble_eq_true rfl⟩) hK hP hD hS hA 0 rfl rfl rfl rfl hl.1 rfl (Nat.le_of_ble_eq_true rfl) dX5_mirror_27 ⟨Nat.le_of_ble_eq_true rfl, Nat.le_of_ble_eq_true rfl⟩ (fun r_5 u_6 H locs hw_7 hP hD hS => ?_)
    have hP : va_P (dC, dI) vwCl (wM cI cZ cJ h F G (va_up (va_up V 0 0) 1 2)) H := hP
    have hD : va_D A (wM cI cZ cJ h F G (va_up (va_up V 0 0) 1 2)) := hD
    obtain rfl : r_5 = (-1) := hw_7
    exact hret (-1) (F, G, va_up (va_up V 0 0) 1 2) H locs 30 ls rfl dX5_mirror_30 (⟨trivial, ⟨n, nw, un, d, wm, pf, sh, am, So, Lm, Hh, Wd, Pr, ⟨hV2, by omega⟩, ⟨hV3, by omega⟩, ⟨hV4, by omega⟩, ⟨hV6, by omega⟩, ⟨hV7, by omega⟩, ⟨hV10, by omega⟩, ⟨hV11, by omega⟩, ⟨hV8, by omega⟩, ⟨hSo, bSo⟩, ⟨hLm, bLm⟩, ⟨hHh, bHh⟩, ⟨hWd, bWd⟩, ⟨hPr, bPr⟩⟩⟩) (hP) (hD) hS
  · have c_4 : isW p0 0 14 = true := bI_t hw_3 c_4
    refine lv_iload_n hx hb dX5_mirror_15 rfl (lv_at hl 2 rfl) ?_
    refine lv_iconst (v := 0) hx hb dX5_mirror_16 (by decide) ?_
    refine lv_bipush (v := 14) hx hb dX5_mirror_17 (by decide) ?_
    refine cw_Si (As := [.int p1, .int 0, .int 14]) (rest := []) (c_X5_in l dC dI cI cZ cJ (wM cI cZ cJ h F G (va_up V 0 0)) p1 0 14) fx (va_cwS 3 hts gX5_mirror_X5_in rfl rfl rfl (by decide +kernel) ⟨Nat.le_of_ble_eq_true rfl, Nat.le_of_ble_eq_true rfl⟩) hK hP hD hS hA rfl hl.1 rfl (Nat.le_of_ble_eq_true rfl) dX5_mirror_19 ⟨Nat.le_of_ble_eq_true rfl, Nat.le_of_ble_eq_true rfl⟩ (fun r_8 u_9 H locs hw_10 hP hD hS => ?_)
    have hP : va_P (dC, dI) vwCl (wM cI cZ cJ h F G (va_up V 0 0)) H := hP
    have hD : va_D A (wM cI cZ cJ h F G (va_up V 0 0)) := hD
    have hw_10 : r_8 = bI (isW p1 0 14) := hw_10
    refine lv_if_ne (tgt := 31) hx hb dX5_mirror_22 (by decide) (fun c_11 => ?_) (fun c_11 => ?_)
    · have c_11 : isW p1 0 14 = true := bI_t hw_10 c_11
      refine lv_iload_n hx hb dX5_mirror_31 rfl (lv_at hl 1 rfl) ?_
      refine lv_bipush (v := 7) hx hb dX5_mirror_32 (by decide) ?_
      refine lv_icmp_ne (tgt := 45) hx hb dX5_mirror_34 (by decide) (fun c_12 => ?_) (fun c_12 => ?_)
      · have c_12 : eqI p0 7 = false := decide_eq_false c_12
        refine lv_iconst (v := 0) hx hb dX5_mirror_45 (by decide) ?_
        refine lv_istore_n (lv' := [(3, .int 0), (0, .ref (h 0)), (1, .int p0), (2, .int p1)]) hx hb dX5_mirror_46 rfl hl (by decide) rfl (fun ls hl => ?_)
        refine lv_iconst (v := 0) hx hb dX5_mirror_47 (by decide) ?_
        refine lv_istore (lv' := [(4, .int 0), (3, .int 0), (0, .ref (h 0)), (1, .int p0), (2, .int p1)]) hx hb dX5_mirror_48 hl (by decide) rfl (fun ls hl => ?_)
        have loop50 : ∀ (fu : Nat) (tk : Nat) (k : Nat), (tk ≤ 1) → (k ≤ n) → (n - k) < fu → ∀ (H : Heap) (locs : List Loc) (ls : Array Slot), va_P (dC, dI) vwCl (wM cI cZ cJ h F G (va_up V 0 0)) H → va_D A (wM cI cZ cJ h F G (va_up V 0 0)) → va_S A s.heap H locs → lv_has ls 5 [(0, .ref (h 0)), (1, .int p0), (2, .int p1), (3, .int (nI tk)), (4, .int (nI k))] → W p l e rm_X5_mirror s m args below meth c H locs 0 0 Q (F0 m 50 ls []) := by
          intro fu
          induction fu with
          | zero => intro tk k htk hk hn_; exact absurd hn_ (Nat.not_lt_zero _)
          | succ fu ih50 =>
            intro tk k htk hk hn_ H locs ls hP hD hS hl
            refine lv_iload hx hb dX5_mirror_50 (lv_at hl 4 rfl) ?_
            refine lv_aload_n hx hb dX5_mirror_52 rfl (lv_at hl 0 rfl) ?_
            refine va_get (D := (dC, dI)) (ci := 5) (v := .int (V 2)) (C := RX5) (T := TX5) (N := 33) hx hb hts hin_X5 hown hK hP 0 rfl rfl 2 (by decide) hw2 (fun _ h9 => h9) rfl dX5_mirror_53 ?_
            refine lv_topi (fun x_13 ex_13 => ?_)
            obtain rfl : x_13 = nI n := ex_13.trans (hV2)
            refine lv_icmp_ge (tgt := 97) hx hb dX5_mirror_56 (by decide) (fun c_14 => ?_) (fun c_14 => ?_)
            · have c_14 : n ≤ k := (nI_leI (a := n) (b := k) (by omega) (by omega)).mp c_14
              refine lv_iload_n hx hb dX5_mirror_97 rfl (lv_at hl 3 rfl) ?_
              refine lv_if_eq (tgt := 107) hx hb dX5_mirror_98 (by decide) (fun c_15 => ?_) (fun c_15 => ?_)
              · have c_15 : tk = 0 := (nI_eq (a := tk) (b := 0) (by omega) (by omega)).mp c_15
                refine lv_aload_n hx hb dX5_mirror_107 rfl (lv_at hl 0 rfl) ?_
                refine va_get (D := (dC, dI)) (ci := 5) (v := .int (V 2)) (C := RX5) (T := TX5) (N := 33) hx hb hts hin_X5 hown hK hP 0 rfl rfl 2 (by decide) hw2 (fun _ h9 => h9) rfl dX5_mirror_108 ?_
                refine lv_topi (fun x_16 ex_16 => ?_)
                obtain rfl : x_16 = nI n := ex_16.trans (hV2)
                refine lv_bipush (v := 40) hx hb dX5_mirror_111 (by decide) ?_
                refine lv_icmp_ne (tgt := 122) hx hb dX5_mirror_113 (by decide) (fun c_17 => ?_) (fun c_17 => ?_)
                · have c_17 : ¬ n = 40 := fun h => c_17 ((nI_eq (a := n) (b := 40) (by omega) (by omega)).mpr h)
                  refine lv_aload_n hx hb dX5_mirror_122 rfl (lv_at hl 0 rfl) ?_
                  refine va_get (D := (dC, dI)) (ci := 5) (v := .ref (h 1)) (C := RX5) (T := TX5) (N := 33) hx hb hts hin_X5 hown hK hP 0 rfl rfl 8 (by decide) hw3 (fun _ h9 => h9) rfl dX5_mirror_123 ?_
                  refine lv_aload_n hx hb dX5_mirror_126 rfl (lv_at hl 0 rfl) ?_
                  refine va_get (D := (dC, dI)) (ci := 5) (v := .int (V 2)) (C := RX5) (T := TX5) (N := 33) hx hb hts hin_X5 hown hK hP 0 rfl rfl 2 (by decide) hw2 (fun _ h9 => h9) rfl dX5_mirror_127 ?_
                  refine lv_topi (fun x_18 ex_18 => ?_)
                  obtain rfl : x_18 = nI n := ex_18.trans (hV2)
                  refine lv_iload_n hx hb dX5_mirror_130 rfl (lv_at hl 1 rfl) ?_
                  refine va_iast hx hb hK hP hD hS 1 0 rfl rfl (vp_in_nI (n := n) (N := 40) (by omega) (by decide)) dX5_mirror_131 (fun H locs hP hD hS => ?_)
                  obtain ⟨F_19, eF_19⟩ : ∃ z : Nat → Nat → Int32, z = va_up F 1 (upd (F 1) (nI n).toNatClampNeg p0) := ⟨_, rfl⟩
                  have hP : va_P (dC, dI) vwCl (wM cI cZ cJ h F_19 G (va_up V 0 0)) H := by rw [eF_19]; exact hP
                  have hD : va_D A (wM cI cZ cJ h F_19 G (va_up V 0 0)) := by rw [eF_19]; exact hD
                  have hN_20 : ∀ i, i < 40 → F_19 3 i = nI (So i) := by rw [eF_19]; exact hSo
                  have hN_21 : ∀ i, i < 4 → F_19 4 i = nI (Lm i) := by rw [eF_19]; exact hLm
                  have hN_22 : ∀ i, i < 24 → F_19 7 i = nI (Hh i) := by rw [eF_19]; exact hHh
                  have hN_23 : ∀ i, i < 24 → F_19 8 i = nI (Wd i) := by rw [eF_19]; exact hWd
                  have hN_24 : ∀ i, i < 24 → F_19 9 i = nI (Pr i) := by rw [eF_19]; exact hPr
                  refine lv_aload_n hx hb dX5_mirror_132 rfl (lv_at hl 0 rfl) ?_
                  refine va_get (D := (dC, dI)) (ci := 5) (v := .ref (h 2)) (C := RX5) (T := TX5) (N := 33) hx hb hts hin_X5 hown hK hP 0 rfl rfl 9 (by decide) hw4 (fun _ h9 => h9) rfl dX5_mirror_133 ?_
                  refine lv_aload_n hx hb dX5_mirror_136 rfl (lv_at hl 0 rfl) ?_
                  refine va_get (D := (dC, dI)) (ci := 5) (v := .int (V 2)) (C := RX5) (T := TX5) (N := 33) hx hb hts hin_X5 hown hK hP 0 rfl rfl 2 (by decide) hw2 (fun _ h9 => h9) rfl dX5_mirror_137 ?_
                  refine lv_topi (fun x_25 ex_25 => ?_)
                  obtain rfl : x_25 = nI n := ex_25.trans (hV2)
                  refine lv_iload_n hx hb dX5_mirror_140 rfl (lv_at hl 2 rfl) ?_
                  refine va_iast hx hb hK hP hD hS 2 0 rfl rfl (vp_in_nI (n := n) (N := 40) (by omega) (by decide)) dX5_mirror_141 (fun H locs hP hD hS => ?_)
                  obtain ⟨F_26, eF_26⟩ : ∃ z : Nat → Nat → Int32, z = va_up F_19 2 (upd (F_19 2) (nI n).toNatClampNeg p1) := ⟨_, rfl⟩
                  have hP : va_P (dC, dI) vwCl (wM cI cZ cJ h F_26 G (va_up V 0 0)) H := by rw [eF_26]; exact hP
                  have hD : va_D A (wM cI cZ cJ h F_26 G (va_up V 0 0)) := by rw [eF_26]; exact hD
                  have hN_27 : ∀ i, i < 40 → F_26 3 i = nI (So i) := by rw [eF_26]; exact hN_20
                  have hN_28 : ∀ i, i < 4 → F_26 4 i = nI (Lm i) := by rw [eF_26]; exact hN_21
                  have hN_29 : ∀ i, i < 24 → F_26 7 i = nI (Hh i) := by rw [eF_26]; exact hN_22
                  have hN_30 : ∀ i, i < 24 → F_26 8 i = nI (Wd i) := by rw [eF_26]; exact hN_23
                  have hN_31 : ∀ i, i < 24 → F_26 9 i = nI (Pr i) := by rw [eF_26]; exact hN_24
                  refine lv_aload_n hx hb dX5_mirror_142 rfl (lv_at hl 0 rfl) ?_
                  refine lv_dup hx hb dX5_mirror_143 rfl ?_
                  refine va_get (D := (dC, dI)) (ci := 5) (v := .int (V 2)) (C := RX5) (T := TX5) (N := 33) hx hb hts hin_X5 hown hK hP 0 rfl rfl 2 (by decide) hw2 (fun _ h9 => h9) rfl dX5_mirror_144 ?_
                  refine lv_topi (fun x_32 ex_32 => ?_)
                  obtain rfl : x_32 = nI n := ex_32.trans (hV2)
                  refine lv_iconst (v := 1) hx hb dX5_mirror_147 (by decide) ?_
                  refine lv_iadd hx hb dX5_mirror_148 ?_
                  refine lv_topi (fun x_33 ex_33 => ?_)
                  obtain rfl : x_33 = nI (n + 1) := ex_33.trans (nI_add n 1)
                  refine va_put (D := (dC, dI)) (ci := 5) (v := .int (nI (n + 1))) (ty := .int) (C := RX5) (T := TX5) (N := 33) hx hb hts hin_X5 tyX5 tyX5_ok nmX5 hown hK hP hD hS 0 rfl rfl 2 (by decide) hw2 (fun _ h9 => h9) rfl (by decide +kernel) rfl rfl (Nat.le_of_ble_eq_true rfl) dX5_mirror_149 (fun H locs hP hD hS => ?_)
                  have hP : va_P (dC, dI) vwCl (wM cI cZ cJ h F_26 G (va_up (va_up V 0 0) 2 (nI (n + 1)))) H := hP
                  have hD : va_D A (wM cI cZ cJ h F_26 G (va_up (va_up V 0 0) 2 (nI (n + 1)))) := hD
                  refine lv_aload_n hx hb dX5_mirror_152 rfl (lv_at hl 0 rfl) ?_
                  refine lv_aload_n hx hb dX5_mirror_153 rfl (lv_at hl 0 rfl) ?_
                  refine va_get (D := (dC, dI)) (ci := 5) (v := .int (nI (n + 1))) (C := RX5) (T := TX5) (N := 33) hx hb hts hin_X5 hown hK hP 0 rfl rfl 2 (by decide) hw2 (fun _ h9 => h9) rfl dX5_mirror_154 ?_
                  refine lv_iconst (v := 1) hx hb dX5_mirror_157 (by decide) ?_
                  refine lv_isub hx hb dX5_mirror_158 ?_
                  refine lv_topi (fun x_34 ex_34 => ?_)
                  obtain rfl : x_34 = nI ((n + 1) - 1) := ex_34.trans (pk_sub (a := n + 1) (b := 1) (by omega))
                  refine cw_Vi (As := [.int (nI ((n + 1) - 1))]) (rest := []) (c_X5_done l dC dI cI cZ cJ h F_26 G (va_up (va_up V 0 0) 2 (nI (n + 1))) (nI ((n + 1) - 1))) fx (cwV 1 hts gX5_mirror_X5_done rfl rfl rfl (by decide +kernel) ⟨Nat.le_of_ble_eq_true rfl, Nat.le_of_ble_eq_true rfl⟩) hK hP hD hS hA 0 rfl rfl rfl rfl hl.1 rfl (Nat.le_of_ble_eq_true rfl) dX5_mirror_159 ⟨Nat.le_of_ble_eq_true rfl, Nat.le_of_ble_eq_true rfl⟩ (fun r_35 u_36 H locs hw_37 hP hD hS => ?_)
                  have hP : va_P (dC, dI) vwCl (wM cI cZ cJ h F_26 G (va_up (va_up (va_up V 0 0) 2 (nI (n + 1))) 1 0)) H := hP
                  have hD : va_D A (wM cI cZ cJ h F_26 G (va_up (va_up (va_up V 0 0) 2 (nI (n + 1))) 1 0)) := hD
                  obtain rfl : r_35 = nI ((n + 1) - 1) := hw_37
                  exact hret (nI ((n + 1) - 1)) (F_26, G, va_up (va_up (va_up V 0 0) 2 (nI (n + 1))) 1 0) H locs 162 ls rfl dX5_mirror_162 (⟨trivial, ⟨(n + 1), nw, un, d, wm, pf, sh, am, So, Lm, Hh, Wd, Pr, ⟨rfl, by omega⟩, ⟨hV3, by omega⟩, ⟨hV4, by omega⟩, ⟨hV6, by omega⟩, ⟨hV7, by omega⟩, ⟨hV10, by omega⟩, ⟨hV11, by omega⟩, ⟨hV8, by omega⟩, ⟨hN_27, bSo⟩, ⟨hN_28, bLm⟩, ⟨hN_29, bHh⟩, ⟨hN_30, bWd⟩, ⟨hN_31, bPr⟩⟩⟩) (hP) (hD) hS
                · have c_17 : n = 40 := (nI_eq (a := n) (b := 40) (by omega) (by omega)).mp c_17
                  refine lv_aload_n hx hb dX5_mirror_116 rfl (lv_at hl 0 rfl) ?_
                  refine lv_iconst (v := 3) hx hb dX5_mirror_117 (by decide) ?_
                  refine cw_Vi (As := [.int 3]) (rest := []) (c_X5_refused l dC dI cI cZ cJ h F G (va_up V 0 0) 3) fx (cwV 1 hts gX5_mirror_X5_refused rfl rfl rfl (by decide +kernel) ⟨Nat.le_of_ble_eq_true rfl, Nat.le_of_ble_eq_true rfl⟩) hK hP hD hS hA 0 rfl rfl rfl rfl hl.1 rfl (Nat.le_of_ble_eq_true rfl) dX5_mirror_118 ⟨Nat.le_of_ble_eq_true rfl, Nat.le_of_ble_eq_true rfl⟩ (fun r_38 u_39 H locs hw_40 hP hD hS => ?_)
                  have hP : va_P (dC, dI) vwCl (wM cI cZ cJ h F G (va_up (va_up V 0 0) 1 3)) H := hP
                  have hD : va_D A (wM cI cZ cJ h F G (va_up (va_up V 0 0) 1 3)) := hD
                  obtain rfl : r_38 = (-1) := hw_40
                  exact hret (-1) (F, G, va_up (va_up V 0 0) 1 3) H locs 121 ls rfl dX5_mirror_121 (⟨trivial, ⟨n, nw, un, d, wm, pf, sh, am, So, Lm, Hh, Wd, Pr, ⟨hV2, by omega⟩, ⟨hV3, by omega⟩, ⟨hV4, by omega⟩, ⟨hV6, by omega⟩, ⟨hV7, by omega⟩, ⟨hV10, by omega⟩, ⟨hV11, by omega⟩, ⟨hV8, by omega⟩, ⟨hSo, bSo⟩, ⟨hLm, bLm⟩, ⟨hHh, bHh⟩, ⟨hWd, bWd⟩, ⟨hPr, bPr⟩⟩⟩) (hP) (hD) hS
              · have c_15 : ¬ tk = 0 := fun h => c_15 ((nI_eq (a := tk) (b := 0) (by omega) (by omega)).mpr h)
                refine lv_aload_n hx hb dX5_mirror_101 rfl (lv_at hl 0 rfl) ?_
                refine lv_iconst (v := 4) hx hb dX5_mirror_102 (by decide) ?_
                refine cw_Vi (As := [.int 4]) (rest := []) (c_X5_refused l dC dI cI cZ cJ h F G (va_up V 0 0) 4) fx (cwV 1 hts gX5_mirror_X5_refused rfl rfl rfl (by decide +kernel) ⟨Nat.le_of_ble_eq_true rfl, Nat.le_of_ble_eq_true rfl⟩) hK hP hD hS hA 0 rfl rfl rfl rfl hl.1 rfl (Nat.le_of_ble_eq_true rfl) dX5_mirror_103 ⟨Nat.le_of_ble_eq_true rfl, Nat.le_of_ble_eq_true rfl⟩ (fun r_41 u_42 H locs hw_43 hP hD hS => ?_)
                have hP : va_P (dC, dI) vwCl (wM cI cZ cJ h F G (va_up (va_up V 0 0) 1 4)) H := hP
                have hD : va_D A (wM cI cZ cJ h F G (va_up (va_up V 0 0) 1 4)) := hD
                obtain rfl : r_41 = (-1) := hw_43
                exact hret (-1) (F, G, va_up (va_up V 0 0) 1 4) H locs 106 ls rfl dX5_mirror_106 (⟨trivial, ⟨n, nw, un, d, wm, pf, sh, am, So, Lm, Hh, Wd, Pr, ⟨hV2, by omega⟩, ⟨hV3, by omega⟩, ⟨hV4, by omega⟩, ⟨hV6, by omega⟩, ⟨hV7, by omega⟩, ⟨hV10, by omega⟩, ⟨hV11, by omega⟩, ⟨hV8, by omega⟩, ⟨hSo, bSo⟩, ⟨hLm, bLm⟩, ⟨hHh, bHh⟩, ⟨hWd, bWd⟩, ⟨hPr, bPr⟩⟩⟩) (hP) (hD) hS
            · have c_14 : ¬ n ≤ k := fun h => c_14 ((nI_leI (a := n) (b := k) (by omega) (by omega)).mpr h)
              refine lv_iload_n hx hb dX5_mirror_59 rfl (lv_at hl 3 rfl) ?_
              refine lv_if_ne (tgt := 85) hx hb dX5_mirror_60 (by decide) (fun c_44 => ?_) (fun c_44 => ?_)
              · have c_44 : ¬ tk = 0 := fun h => c_44 ((nI_eq (a := tk) (b := 0) (by omega) (by omega)).mpr h)
                refine lv_iconst (v := 1) hx hb dX5_mirror_85 (by decide) ?_
                refine lv_goto (tgt := 90) hx hb dX5_mirror_86 (by decide) ?_
                refine lv_istore_n (lv' := [(3, .int 1), (0, .ref (h 0)), (1, .int p0), (2, .int p1), (4, .int (nI k))]) hx hb dX5_mirror_90 rfl hl (by decide) rfl (fun ls hl => ?_)
                refine lv_iinc (v := nI (k + 1)) (lv' := [(4, .int (nI (k + 1))), (3, .int 1), (0, .ref (h 0)), (1, .int p0), (2, .int p1)]) hx hb dX5_mirror_91 hl (k := 4) rfl (nI_1 _) (by decide) rfl (fun ls hl => ?_)
                refine lv_goto (tgt := 50) hx hb dX5_mirror_94 (by decide) ?_
                exact ih50 1 (k + 1) (by omega) (by omega) (by omega) H locs ls hP hD hS (lv_sub hl [2, 3, 4, 1, 0] rfl)
              · have c_44 : tk = 0 := (nI_eq (a := tk) (b := 0) (by omega) (by omega)).mp c_44
                refine lv_aload_n hx hb dX5_mirror_63 rfl (lv_at hl 0 rfl) ?_
                refine va_get (D := (dC, dI)) (ci := 5) (v := .ref (h 1)) (C := RX5) (T := TX5) (N := 33) hx hb hts hin_X5 hown hK hP 0 rfl rfl 8 (by decide) hw3 (fun _ h9 => h9) rfl dX5_mirror_64 ?_
                refine lv_iload hx hb dX5_mirror_67 (lv_at hl 4 rfl) ?_
                refine va_iald hx hb hK hP 1 0 rfl rfl (vp_in_nI (n := k) (N := 40) (by omega) (by decide)) dX5_mirror_69 ?_
                refine lv_topi (fun x_45 ex_45 => ?_)
                rw [nI_clamp (n := k) (by omega)] at ex_45
                refine lv_iload_n hx hb dX5_mirror_70 rfl (lv_at hl 1 rfl) ?_
                refine lv_icmp_ne (tgt := 89) hx hb dX5_mirror_71 (by decide) (fun c_46 => ?_) (fun c_46 => ?_)
                · have c_46 : eqI x_45 p0 = false := decide_eq_false c_46
                  refine lv_iconst (v := 0) hx hb dX5_mirror_89 (by decide) ?_
                  refine lv_istore_n (lv' := [(3, .int 0), (0, .ref (h 0)), (1, .int p0), (2, .int p1), (4, .int (nI k))]) hx hb dX5_mirror_90 rfl hl (by decide) rfl (fun ls hl => ?_)
                  refine lv_iinc (v := nI (k + 1)) (lv' := [(4, .int (nI (k + 1))), (3, .int 0), (0, .ref (h 0)), (1, .int p0), (2, .int p1)]) hx hb dX5_mirror_91 hl (k := 4) rfl (nI_1 _) (by decide) rfl (fun ls hl => ?_)
                  refine lv_goto (tgt := 50) hx hb dX5_mirror_94 (by decide) ?_
                  exact ih50 0 (k + 1) (by omega) (by omega) (by omega) H locs ls hP hD hS (lv_sub hl [2, 3, 4, 1, 0] rfl)
                · have c_46 : eqI x_45 p0 = true := decide_eq_true c_46
                  refine lv_aload_n hx hb dX5_mirror_74 rfl (lv_at hl 0 rfl) ?_
                  refine va_get (D := (dC, dI)) (ci := 5) (v := .ref (h 2)) (C := RX5) (T := TX5) (N := 33) hx hb hts hin_X5 hown hK hP 0 rfl rfl 9 (by decide) hw4 (fun _ h9 => h9) rfl dX5_mirror_75 ?_
                  refine lv_iload hx hb dX5_mirror_78 (lv_at hl 4 rfl) ?_
                  refine va_iald hx hb hK hP 2 0 rfl rfl (vp_in_nI (n := k) (N := 40) (by omega) (by decide)) dX5_mirror_80 ?_
                  refine lv_topi (fun x_47 ex_47 => ?_)
                  rw [nI_clamp (n := k) (by omega)] at ex_47
                  refine lv_iload_n hx hb dX5_mirror_81 rfl (lv_at hl 2 rfl) ?_
                  refine lv_icmp_ne (tgt := 89) hx hb dX5_mirror_82 (by decide) (fun c_48 => ?_) (fun c_48 => ?_)
                  · have c_48 : eqI x_47 p1 = false := decide_eq_false c_48
                    refine lv_iconst (v := 0) hx hb dX5_mirror_89 (by decide) ?_
                    refine lv_istore_n (lv' := [(3, .int 0), (0, .ref (h 0)), (1, .int p0), (2, .int p1), (4, .int (nI k))]) hx hb dX5_mirror_90 rfl hl (by decide) rfl (fun ls hl => ?_)
                    refine lv_iinc (v := nI (k + 1)) (lv' := [(4, .int (nI (k + 1))), (3, .int 0), (0, .ref (h 0)), (1, .int p0), (2, .int p1)]) hx hb dX5_mirror_91 hl (k := 4) rfl (nI_1 _) (by decide) rfl (fun ls hl => ?_)
                    refine lv_goto (tgt := 50) hx hb dX5_mirror_94 (by decide) ?_
                    exact ih50 0 (k + 1) (by omega) (by omega) (by omega) H locs ls hP hD hS (lv_sub hl [2, 3, 4, 1, 0] rfl)
                  · have c_48 : eqI x_47 p1 = true := decide_eq_true c_48
                    refine lv_iconst (v := 1) hx hb dX5_mirror_85 (by decide) ?_
                    refine lv_goto (tgt := 90) hx hb dX5_mirror_86 (by decide) ?_
                    refine lv_istore_n (lv' := [(3, .int 1), (0, .ref (h 0)), (1, .int p0), (2, .int p1), (4, .int (nI k))]) hx hb dX5_mirror_90 rfl hl (by decide) rfl (fun ls hl => ?_)
                    refine lv_iinc (v := nI (k + 1)) (lv' := [(4, .int (nI (k + 1))), (3, .int 1), (0, .ref (h 0)), (1, .int p0), (2, .int p1)]) hx hb dX5_mirror_91 hl (k := 4) rfl (nI_1 _) (by decide) rfl (fun ls hl => ?_)
                    refine lv_goto (tgt := 50) hx hb dX5_mirror_94 (by decide) ?_
                    exact ih50 1 (k + 1) (by omega) (by omega) (by omega) H locs ls hP hD hS (lv_sub hl [2, 3, 4, 1, 0] rfl)
        exact loop50 _ 0 0 (by omega) (by omega) (Nat.lt_succ_self _) H locs ls hP hD hS (lv_sub hl [2, 3, 4, 1, 0] rfl)
      · have c_12 : eqI p0 7 = true := decide_eq_true c_12
        refine lv_iload_n hx hb dX5_mirror_37 rfl (lv_at hl 2 rfl) ?_
        refine lv_if_ne (tgt := 45) hx hb dX5_mirror_38 (by decide) (fun c_49 => ?_) (fun c_49 => ?_)
        · have c_49 : eqI p1 0 = false := decide_eq_false c_49
          refine lv_iconst (v := 0) hx hb dX5_mirror_45 (by decide) ?_
          refine lv_istore_n (lv' := [(3, .int 0), (0, .ref (h 0)), (1, .int p0), (2, .int p1)]) hx hb dX5_mirror_46 rfl hl (by decide) rfl (fun ls hl => ?_)
          refine lv_iconst (v := 0) hx hb dX5_mirror_47 (by decide) ?_
          refine lv_istore (lv' := [(4, .int 0), (3, .int 0), (0, .ref (h 0)), (1, .int p0), (2, .int p1)]) hx hb dX5_mirror_48 hl (by decide) rfl (fun ls hl => ?_)
          have loop50 : ∀ (fu : Nat) (tk : Nat) (k : Nat), (tk ≤ 1) → (k ≤ n) → (n - k) < fu → ∀ (H : Heap) (locs : List Loc) (ls : Array Slot), va_P (dC, dI) vwCl (wM cI cZ cJ h F G (va_up V 0 0)) H → va_D A (wM cI cZ cJ h F G (va_up V 0 0)) → va_S A s.heap H locs → lv_has ls 5 [(0, .ref (h 0)), (1, .int p0), (2, .int p1), (3, .int (nI tk)), (4, .int (nI k))] → W p l e rm_X5_mirror s m args below meth c H locs 0 0 Q (F0 m 50 ls []) := by
            intro fu
            induction fu with
            | zero => intro tk k htk hk hn_; exact absurd hn_ (Nat.not_lt_zero _)
            | succ fu ih50 =>
              intro tk k htk hk hn_ H locs ls hP hD hS hl
              refine lv_iload hx hb dX5_mirror_50 (lv_at hl 4 rfl) ?_
              refine lv_aload_n hx hb dX5_mirror_52 rfl (lv_at hl 0 rfl) ?_
              refine va_get (D := (dC, dI)) (ci := 5) (v := .int (V 2)) (C := RX5) (T := TX5) (N := 33) hx hb hts hin_X5 hown hK hP 0 rfl rfl 2 (by decide) hw2 (fun _ h9 => h9) rfl dX5_mirror_53 ?_
              refine lv_topi (fun x_50 ex_50 => ?_)
              obtain rfl : x_50 = nI n := ex_50.trans (hV2)
              refine lv_icmp_ge (tgt := 97) hx hb dX5_mirror_56 (by decide) (fun c_51 => ?_) (fun c_51 => ?_)
              · have c_51 : n ≤ k := (nI_leI (a := n) (b := k) (by omega) (by omega)).mp c_51
                refine lv_iload_n hx hb dX5_mirror_97 rfl (lv_at hl 3 rfl) ?_
                refine lv_if_eq (tgt := 107) hx hb dX5_mirror_98 (by decide) (fun c_52 => ?_) (fun c_52 => ?_)
                · have c_52 : tk = 0 := (nI_eq (a := tk) (b := 0) (by omega) (by omega)).mp c_52
                  refine lv_aload_n hx hb dX5_mirror_107 rfl (lv_at hl 0 rfl) ?_
                  refine va_get (D := (dC, dI)) (ci := 5) (v := .int (V 2)) (C := RX5) (T := TX5) (N := 33) hx hb hts hin_X5 hown hK hP 0 rfl rfl 2 (by decide) hw2 (fun _ h9 => h9) rfl dX5_mirror_108 ?_
                  refine lv_topi (fun x_53 ex_53 => ?_)
                  obtain rfl : x_53 = nI n := ex_53.trans (hV2)
                  refine lv_bipush (v := 40) hx hb dX5_mirror_111 (by decide) ?_
                  refine lv_icmp_ne (tgt := 122) hx hb dX5_mirror_113 (by decide) (fun c_54 => ?_) (fun c_54 => ?_)
                  · have c_54 : ¬ n = 40 := fun h => c_54 ((nI_eq (a := n) (b := 40) (by omega) (by omega)).mpr h)
                    refine lv_aload_n hx hb dX5_mirror_122 rfl (lv_at hl 0 rfl) ?_
                    refine va_get (D := (dC, dI)) (ci := 5) (v := .ref (h 1)) (C := RX5) (T := TX5) (N := 33) hx hb hts hin_X5 hown hK hP 0 rfl rfl 8 (by decide) hw3 (fun _ h9 => h9) rfl dX5_mirror_123 ?_
                    refine lv_aload_n hx hb dX5_mirror_126 rfl (lv_at hl 0 rfl) ?_
                    refine va_get (D := (dC, dI)) (ci := 5) (v := .int (V 2)) (C := RX5) (T := TX5) (N := 33) hx hb hts hin_X5 hown hK hP 0 rfl rfl 2 (by decide) hw2 (fun _ h9 => h9) rfl dX5_mirror_127 ?_
                    refine lv_topi (fun x_55 ex_55 => ?_)
                    obtain rfl : x_55 = nI n := ex_55.trans (hV2)
                    refine lv_iload_n hx hb dX5_mirror_130 rfl (lv_at hl 1 rfl) ?_
                    refine va_iast hx hb hK hP hD hS 1 0 rfl rfl (vp_in_nI (n := n) (N := 40) (by omega) (by decide)) dX5_mirror_131 (fun H locs hP hD hS => ?_)
                    obtain ⟨F_56, eF_56⟩ : ∃ z : Nat → Nat → Int32, z = va_up F 1 (upd (F 1) (nI n).toNatClampNeg p0) := ⟨_, rfl⟩
                    have hP : va_P (dC, dI) vwCl (wM cI cZ cJ h F_56 G (va_up V 0 0)) H := by rw [eF_56]; exact hP
                    have hD : va_D A (wM cI cZ cJ h F_56 G (va_up V 0 0)) := by rw [eF_56]; exact hD
                    have hN_57 : ∀ i, i < 40 → F_56 3 i = nI (So i) := by rw [eF_56]; exact hSo
                    have hN_58 : ∀ i, i < 4 → F_56 4 i = nI (Lm i) := by rw [eF_56]; exact hLm
                    have hN_59 : ∀ i, i < 24 → F_56 7 i = nI (Hh i) := by rw [eF_56]; exact hHh
                    have hN_60 : ∀ i, i < 24 → F_56 8 i = nI (Wd i) := by rw [eF_56]; exact hWd
                    have hN_61 : ∀ i, i < 24 → F_56 9 i = nI (Pr i) := by rw [eF_56]; exact hPr
                    refine lv_aload_n hx hb dX5_mirror_132 rfl (lv_at hl 0 rfl) ?_
                    refine va_get (D := (dC, dI)) (ci := 5) (v := .ref (h 2)) (C := RX5) (T := TX5) (N := 33) hx hb hts hin_X5 hown hK hP 0 rfl rfl 9 (by decide) hw4 (fun _ h9 => h9) rfl dX5_mirror_133 ?_
                    refine lv_aload_n hx hb dX5_mirror_136 rfl (lv_at hl 0 rfl) ?_
                    refine va_get (D := (dC, dI)) (ci := 5) (v := .int (V 2)) (C := RX5) (T := TX5) (N := 33) hx hb hts hin_X5 hown hK hP 0 rfl rfl 2 (by decide) hw2 (fun _ h9 => h9) rfl dX5_mirror_137 ?_
                    refine lv_topi (fun x_62 ex_62 => ?_)
                    obtain rfl : x_62 = nI n := ex_62.trans (hV2)
                    refine lv_iload_n hx hb dX5_mirror_140 rfl (lv_at hl 2 rfl) ?_
                    refine va_iast hx hb hK hP hD hS 2 0 rfl rfl (vp_in_nI (n := n) (N := 40) (by omega) (by decide)) dX5_mirror_141 (fun H locs hP hD hS => ?_)
                    obtain ⟨F_63, eF_63⟩ : ∃ z : Nat → Nat → Int32, z = va_up F_56 2 (upd (F_56 2) (nI n).toNatClampNeg p1) := ⟨_, rfl⟩
                    have hP : va_P (dC, dI) vwCl (wM cI cZ cJ h F_63 G (va_up V 0 0)) H := by rw [eF_63]; exact hP
                    have hD : va_D A (wM cI cZ cJ h F_63 G (va_up V 0 0)) := by rw [eF_63]; exact hD
                    have hN_64 : ∀ i, i < 40 → F_63 3 i = nI (So i) := by rw [eF_63]; exact hN_57
                    have hN_65 : ∀ i, i < 4 → F_63 4 i = nI (Lm i) := by rw [eF_63]; exact hN_58
                    have hN_66 : ∀ i, i < 24 → F_63 7 i = nI (Hh i) := by rw [eF_63]; exact hN_59
                    have hN_67 : ∀ i, i < 24 → F_63 8 i = nI (Wd i) := by rw [eF_63]; exact hN_60
                    have hN_68 : ∀ i, i < 24 → F_63 9 i = nI (Pr i) := by rw [eF_63]; exact hN_61
                    refine lv_aload_n hx hb dX5_mirror_142 rfl (lv_at hl 0 rfl) ?_
                    refine lv_dup hx hb dX5_mirror_143 rfl ?_
                    refine va_get (D := (dC, dI)) (ci := 5) (v := .int (V 2)) (C := RX5) (T := TX5) (N := 33) hx hb hts hin_X5 hown hK hP 0 rfl rfl 2 (by decide) hw2 (fun _ h9 => h9) rfl dX5_mirror_144 ?_
                    refine lv_topi (fun x_69 ex_69 => ?_)
                    obtain rfl : x_69 = nI n := ex_69.trans (hV2)
                    refine lv_iconst (v := 1) hx hb dX5_mirror_147 (by decide) ?_
                    refine lv_iadd hx hb dX5_mirror_148 ?_
                    refine lv_topi (fun x_70 ex_70 => ?_)
                    obtain rfl : x_70 = nI (n + 1) := ex_70.trans (nI_add n 1)
                    refine va_put (D := (dC, dI)) (ci := 5) (v := .int (nI (n + 1))) (ty := .int) (C := RX5) (T := TX5) (N := 33) hx hb hts hin_X5 tyX5 tyX5_ok nmX5 hown hK hP hD hS 0 rfl rfl 2 (by decide) hw2 (fun _ h9 => h9) rfl (by decide +kernel) rfl rfl (Nat.le_of_ble_eq_true rfl) dX5_mirror_149 (fun H locs hP hD hS => ?_)
                    have hP : va_P (dC, dI) vwCl (wM cI cZ cJ h F_63 G (va_up (va_up V 0 0) 2 (nI (n + 1)))) H := hP
                    have hD : va_D A (wM cI cZ cJ h F_63 G (va_up (va_up V 0 0) 2 (nI (n + 1)))) := hD
                    refine lv_aload_n hx hb dX5_mirror_152 rfl (lv_at hl 0 rfl) ?_
                    refine lv_aload_n hx hb dX5_mirror_153 rfl (lv_at hl 0 rfl) ?_
                    refine va_get (D := (dC, dI)) (ci := 5) (v := .int (nI (n + 1))) (C := RX5) (T := TX5) (N := 33) hx hb hts hin_X5 hown hK hP 0 rfl rfl 2 (by decide) hw2 (fun _ h9 => h9) rfl dX5_mirror_154 ?_
                    refine lv_iconst (v := 1) hx hb dX5_mirror_157 (by decide) ?_
                    refine lv_isub hx hb dX5_mirror_158 ?_
                    refine lv_topi (fun x_71 ex_71 => ?_)
                    obtain rfl : x_71 = nI ((n + 1) - 1) := ex_71.trans (pk_sub (a := n + 1) (b := 1) (by omega))
                    refine cw_Vi (As := [.int (nI ((n + 1) - 1))]) (rest := []) (c_X5_done l dC dI cI cZ cJ h F_63 G (va_up (va_up V 0 0) 2 (nI (n + 1))) (nI ((n + 1) - 1))) fx (cwV 1 hts gX5_mirror_X5_done rfl rfl rfl (by decide +kernel) ⟨Nat.le_of_ble_eq_true rfl, Nat.le_of_ble_eq_true rfl⟩) hK hP hD hS hA 0 rfl rfl rfl rfl hl.1 rfl (Nat.le_of_ble_eq_true rfl) dX5_mirror_159 ⟨Nat.le_of_ble_eq_true rfl, Nat.le_of_ble_eq_true rfl⟩ (fun r_72 u_73 H locs hw_74 hP hD hS => ?_)
                    have hP : va_P (dC, dI) vwCl (wM cI cZ cJ h F_63 G (va_up (va_up (va_up V 0 0) 2 (nI (n + 1))) 1 0)) H := hP
                    have hD : va_D A (wM cI cZ cJ h F_63 G (va_up (va_up (va_up V 0 0) 2 (nI (n + 1))) 1 0)) := hD
                    obtain rfl : r_72 = nI ((n + 1) - 1) := hw_74
                    exact hret (nI ((n + 1) - 1)) (F_63, G, va_up (va_up (va_up V 0 0) 2 (nI (n + 1))) 1 0) H locs 162 ls rfl dX5_mirror_162 (⟨trivial, ⟨(n + 1), nw, un, d, wm, pf, sh, am, So, Lm, Hh, Wd, Pr, ⟨rfl, by omega⟩, ⟨hV3, by omega⟩, ⟨hV4, by omega⟩, ⟨hV6, by omega⟩, ⟨hV7, by omega⟩, ⟨hV10, by omega⟩, ⟨hV11, by omega⟩, ⟨hV8, by omega⟩, ⟨hN_64, bSo⟩, ⟨hN_65, bLm⟩, ⟨hN_66, bHh⟩, ⟨hN_67, bWd⟩, ⟨hN_68, bPr⟩⟩⟩) (hP) (hD) hS
                  · have c_54 : n = 40 := (nI_eq (a := n) (b := 40) (by omega) (by omega)).mp c_54
                    refine lv_aload_n hx hb dX5_mirror_116 rfl (lv_at hl 0 rfl) ?_
                    refine lv_iconst (v := 3) hx hb dX5_mirror_117 (by decide) ?_
                    refine cw_Vi (As := [.int 3]) (rest := []) (c_X5_refused l dC dI cI cZ cJ h F G (va_up V 0 0) 3) fx (cwV 1 hts gX5_mirror_X5_refused rfl rfl rfl (by decide +kernel) ⟨Nat.le_of_ble_eq_true rfl, Nat.le_of_ble_eq_true rfl⟩) hK hP hD hS hA 0 rfl rfl rfl rfl hl.1 rfl (Nat.le_of_ble_eq_true rfl) dX5_mirror_118 ⟨Nat.le_of_ble_eq_true rfl, Nat.le_of_ble_eq_true rfl⟩ (fun r_75 u_76 H locs hw_77 hP hD hS => ?_)
                    have hP : va_P (dC, dI) vwCl (wM cI cZ cJ h F G (va_up (va_up V 0 0) 1 3)) H := hP
                    have hD : va_D A (wM cI cZ cJ h F G (va_up (va_up V 0 0) 1 3)) := hD
                    obtain rfl : r_75 = (-1) := hw_77
                    exact hret (-1) (F, G, va_up (va_up V 0 0) 1 3) H locs 121 ls rfl dX5_mirror_121 (⟨trivial, ⟨n, nw, un, d, wm, pf, sh, am, So, Lm, Hh, Wd, Pr, ⟨hV2, by omega⟩, ⟨hV3, by omega⟩, ⟨hV4, by omega⟩, ⟨hV6, by omega⟩, ⟨hV7, by omega⟩, ⟨hV10, by omega⟩, ⟨hV11, by omega⟩, ⟨hV8, by omega⟩, ⟨hSo, bSo⟩, ⟨hLm, bLm⟩, ⟨hHh, bHh⟩, ⟨hWd, bWd⟩, ⟨hPr, bPr⟩⟩⟩) (hP) (hD) hS
                · have c_52 : ¬ tk = 0 := fun h => c_52 ((nI_eq (a := tk) (b := 0) (by omega) (by omega)).mpr h)
                  refine lv_aload_n hx hb dX5_mirror_101 rfl (lv_at hl 0 rfl) ?_
                  refine lv_iconst (v := 4) hx hb dX5_mirror_102 (by decide) ?_
                  refine cw_Vi (As := [.int 4]) (rest := []) (c_X5_refused l dC dI cI cZ cJ h F G (va_up V 0 0) 4) fx (cwV 1 hts gX5_mirror_X5_refused rfl rfl rfl (by decide +kernel) ⟨Nat.le_of_ble_eq_true rfl, Nat.le_of_ble_eq_true rfl⟩) hK hP hD hS hA 0 rfl rfl rfl rfl hl.1 rfl (Nat.le_of_ble_eq_true rfl) dX5_mirror_103 ⟨Nat.le_of_ble_eq_true rfl, Nat.le_of_ble_eq_true rfl⟩ (fun r_78 u_79 H locs hw_80 hP hD hS => ?_)
                  have hP : va_P (dC, dI) vwCl (wM cI cZ cJ h F G (va_up (va_up V 0 0) 1 4)) H := hP
                  have hD : va_D A (wM cI cZ cJ h F G (va_up (va_up V 0 0) 1 4)) := hD
                  obtain rfl : r_78 = (-1) := hw_80
                  exact hret (-1) (F, G, va_up (va_up V 0 0) 1 4) H locs 106 ls rfl dX5_mirror_106 (⟨trivial, ⟨n, nw, un, d, wm, pf, sh, am, So, Lm, Hh, Wd, Pr, ⟨hV2, by omega⟩, ⟨hV3, by omega⟩, ⟨hV4, by omega⟩, ⟨hV6, by omega⟩, ⟨hV7, by omega⟩, ⟨hV10, by omega⟩, ⟨hV11, by omega⟩, ⟨hV8, by omega⟩, ⟨hSo, bSo⟩, ⟨hLm, bLm⟩, ⟨hHh, bHh⟩, ⟨hWd, bWd⟩, ⟨hPr, bPr⟩⟩⟩) (hP) (hD) hS
              · have c_51 : ¬ n ≤ k := fun h => c_51 ((nI_leI (a := n) (b := k) (by omega) (by omega)).mpr h)
                refine lv_iload_n hx hb dX5_mirror_59 rfl (lv_at hl 3 rfl) ?_
                refine lv_if_ne (tgt := 85) hx hb dX5_mirror_60 (by decide) (fun c_81 => ?_) (fun c_81 => ?_)
                · have c_81 : ¬ tk = 0 := fun h => c_81 ((nI_eq (a := tk) (b := 0) (by omega) (by omega)).mpr h)
                  refine lv_iconst (v := 1) hx hb dX5_mirror_85 (by decide) ?_
                  refine lv_goto (tgt := 90) hx hb dX5_mirror_86 (by decide) ?_
                  refine lv_istore_n (lv' := [(3, .int 1), (0, .ref (h 0)), (1, .int p0), (2, .int p1), (4, .int (nI k))]) hx hb dX5_mirror_90 rfl hl (by decide) rfl (fun ls hl => ?_)
                  refine lv_iinc (v := nI (k + 1)) (lv' := [(4, .int (nI (k + 1))), (3, .int 1), (0, .ref (h 0)), (1, .int p0), (2, .int p1)]) hx hb dX5_mirror_91 hl (k := 4) rfl (nI_1 _) (by decide) rfl (fun ls hl => ?_)
                  refine lv_goto (tgt := 50) hx hb dX5_mirror_94 (by decide) ?_
                  exact ih50 1 (k + 1) (by omega) (by omega) (by omega) H locs ls hP hD hS (lv_sub hl [2, 3, 4, 1, 0] rfl)
                · have c_81 : tk = 0 := (nI_eq (a := tk) (b := 0) (by omega) (by omega)).mp c_81
                  refine lv_aload_n hx hb dX5_mirror_63 rfl (lv_at hl 0 rfl) ?_
                  refine va_get (D := (dC, dI)) (ci := 5) (v := .ref (h 1)) (C := RX5) (T := TX5) (N := 33) hx hb hts hin_X5 hown hK hP 0 rfl rfl 8 (by decide) hw3 (fun _ h9 => h9) rfl dX5_mirror_64 ?_
                  refine lv_iload hx hb dX5_mirror_67 (lv_at hl 4 rfl) ?_
                  refine va_iald hx hb hK hP 1 0 rfl rfl (vp_in_nI (n := k) (N := 40) (by omega) (by decide)) dX5_mirror_69 ?_
                  refine lv_topi (fun x_82 ex_82 => ?_)
                  rw [nI_clamp (n := k) (by omega)] at ex_82
                  refine lv_iload_n hx hb dX5_mirror_70 rfl (lv_at hl 1 rfl) ?_
                  refine lv_icmp_ne (tgt := 89) hx hb dX5_mirror_71 (by decide) (fun c_83 => ?_) (fun c_83 => ?_)
                  · have c_83 : eqI x_82 p0 = false := decide_eq_false c_83
                    refine lv_iconst (v := 0) hx hb dX5_mirror_89 (by decide) ?_
                    refine lv_istore_n (lv' := [(3, .int 0), (0, .ref (h 0)), (1, .int p0), (2, .int p1), (4, .int (nI k))]) hx hb dX5_mirror_90 rfl hl (by decide) rfl (fun ls hl => ?_)
                    refine lv_iinc (v := nI (k + 1)) (lv' := [(4, .int (nI (k + 1))), (3, .int 0), (0, .ref (h 0)), (1, .int p0), (2, .int p1)]) hx hb dX5_mirror_91 hl (k := 4) rfl (nI_1 _) (by decide) rfl (fun ls hl => ?_)
                    refine lv_goto (tgt := 50) hx hb dX5_mirror_94 (by decide) ?_
                    exact ih50 0 (k + 1) (by omega) (by omega) (by omega) H locs ls hP hD hS (lv_sub hl [2, 3, 4, 1, 0] rfl)
                  · have c_83 : eqI x_82 p0 = true := decide_eq_true c_83
                    refine lv_aload_n hx hb dX5_mirror_74 rfl (lv_at hl 0 rfl) ?_
                    refine va_get (D := (dC, dI)) (ci := 5) (v := .ref (h 2)) (C := RX5) (T := TX5) (N := 33) hx hb hts hin_X5 hown hK hP 0 rfl rfl 9 (by decide) hw4 (fun _ h9 => h9) rfl dX5_mirror_75 ?_
                    refine lv_iload hx hb dX5_mirror_78 (lv_at hl 4 rfl) ?_
                    refine va_iald hx hb hK hP 2 0 rfl rfl (vp_in_nI (n := k) (N := 40) (by omega) (by decide)) dX5_mirror_80 ?_
                    refine lv_topi (fun x_84 ex_84 => ?_)
                    rw [nI_clamp (n := k) (by omega)] at ex_84
                    refine lv_iload_n hx hb dX5_mirror_81 rfl (lv_at hl 2 rfl) ?_
                    refine lv_icmp_ne (tgt := 89) hx hb dX5_mirror_82 (by decide) (fun c_85 => ?_) (fun c_85 => ?_)
                    · have c_85 : eqI x_84 p1 = false := decide_eq_false c_85
                      refine lv_iconst (v := 0) hx hb dX5_mirror_89 (by decide) ?_
                      refine lv_istore_n (lv' := [(3, .int 0), (0, .ref (h 0)), (1, .int p0), (2, .int p1), (4, .int (nI k))]) hx hb dX5_mirror_90 rfl hl (by decide) rfl (fun ls hl => ?_)
                      refine lv_iinc (v := nI (k + 1)) (lv' := [(4, .int (nI (k + 1))), (3, .int 0), (0, .ref (h 0)), (1, .int p0), (2, .int p1)]) hx hb dX5_mirror_91 hl (k := 4) rfl (nI_1 _) (by decide) rfl (fun ls hl => ?_)
                      refine lv_goto (tgt := 50) hx hb dX5_mirror_94 (by decide) ?_
                      exact ih50 0 (k + 1) (by omega) (by omega) (by omega) H locs ls hP hD hS (lv_sub hl [2, 3, 4, 1, 0] rfl)
                    · have c_85 : eqI x_84 p1 = true := decide_eq_true c_85
                      refine lv_iconst (v := 1) hx hb dX5_mirror_85 (by decide) ?_
                      refine lv_goto (tgt := 90) hx hb dX5_mirror_86 (by decide) ?_
                      refine lv_istore_n (lv' := [(3, .int 1), (0, .ref (h 0)), (1, .int p0), (2, .int p1), (4, .int (nI k))]) hx hb dX5_mirror_90 rfl hl (by decide) rfl (fun ls hl => ?_)
                      refine lv_iinc (v := nI (k + 1)) (lv' := [(4, .int (nI (k + 1))), (3, .int 1), (0, .ref (h 0)), (1, .int p0), (2, .int p1)]) hx hb dX5_mirror_91 hl (k := 4) rfl (nI_1 _) (by decide) rfl (fun ls hl => ?_)
                      refine lv_goto (tgt := 50) hx hb dX5_mirror_94 (by decide) ?_
                      exact ih50 1 (k + 1) (by omega) (by omega) (by omega) H locs ls hP hD hS (lv_sub hl [2, 3, 4, 1, 0] rfl)
          exact loop50 _ 0 0 (by omega) (by omega) (Nat.lt_succ_self _) H locs ls hP hD hS (lv_sub hl [2, 3, 4, 1, 0] rfl)
        · have c_49 : eqI p1 0 = true := decide_eq_true c_49
          refine lv_iconst (v := 1) hx hb dX5_mirror_41 (by decide) ?_
          refine lv_goto (tgt := 46) hx hb dX5_mirror_42 (by decide) ?_
          refine lv_istore_n (lv' := [(3, .int 1), (0, .ref (h 0)), (1, .int p0), (2, .int p1)]) hx hb dX5_mirror_46 rfl hl (by decide) rfl (fun ls hl => ?_)
          refine lv_iconst (v := 0) hx hb dX5_mirror_47 (by decide) ?_
          refine lv_istore (lv' := [(4, .int 0), (3, .int 1), (0, .ref (h 0)), (1, .int p0), (2, .int p1)]) hx hb dX5_mirror_48 hl (by decide) rfl (fun ls hl => ?_)
          have loop50 : ∀ (fu : Nat) (tk : Nat) (k : Nat), (tk ≤ 1) → (k ≤ n) → (n - k) < fu → ∀ (H : Heap) (locs : List Loc) (ls : Array Slot), va_P (dC, dI) vwCl (wM cI cZ cJ h F G (va_up V 0 0)) H → va_D A (wM cI cZ cJ h F G (va_up V 0 0)) → va_S A s.heap H locs → lv_has ls 5 [(0, .ref (h 0)), (1, .int p0), (2, .int p1), (3, .int (nI tk)), (4, .int (nI k))] → W p l e rm_X5_mirror s m args below meth c H locs 0 0 Q (F0 m 50 ls []) := by
            intro fu
            induction fu with
            | zero => intro tk k htk hk hn_; exact absurd hn_ (Nat.not_lt_zero _)
            | succ fu ih50 =>
              intro tk k htk hk hn_ H locs ls hP hD hS hl
              refine lv_iload hx hb dX5_mirror_50 (lv_at hl 4 rfl) ?_
              refine lv_aload_n hx hb dX5_mirror_52 rfl (lv_at hl 0 rfl) ?_
              refine va_get (D := (dC, dI)) (ci := 5) (v := .int (V 2)) (C := RX5) (T := TX5) (N := 33) hx hb hts hin_X5 hown hK hP 0 rfl rfl 2 (by decide) hw2 (fun _ h9 => h9) rfl dX5_mirror_53 ?_
              refine lv_topi (fun x_86 ex_86 => ?_)
              obtain rfl : x_86 = nI n := ex_86.trans (hV2)
              refine lv_icmp_ge (tgt := 97) hx hb dX5_mirror_56 (by decide) (fun c_87 => ?_) (fun c_87 => ?_)
              · have c_87 : n ≤ k := (nI_leI (a := n) (b := k) (by omega) (by omega)).mp c_87
                refine lv_iload_n hx hb dX5_mirror_97 rfl (lv_at hl 3 rfl) ?_
                refine lv_if_eq (tgt := 107) hx hb dX5_mirror_98 (by decide) (fun c_88 => ?_) (fun c_88 => ?_)
                · have c_88 : tk = 0 := (nI_eq (a := tk) (b := 0) (by omega) (by omega)).mp c_88
                  refine lv_aload_n hx hb dX5_mirror_107 rfl (lv_at hl 0 rfl) ?_
                  refine va_get (D := (dC, dI)) (ci := 5) (v := .int (V 2)) (C := RX5) (T := TX5) (N := 33) hx hb hts hin_X5 hown hK hP 0 rfl rfl 2 (by decide) hw2 (fun _ h9 => h9) rfl dX5_mirror_108 ?_
                  refine lv_topi (fun x_89 ex_89 => ?_)
                  obtain rfl : x_89 = nI n := ex_89.trans (hV2)
                  refine lv_bipush (v := 40) hx hb dX5_mirror_111 (by decide) ?_
                  refine lv_icmp_ne (tgt := 122) hx hb dX5_mirror_113 (by decide) (fun c_90 => ?_) (fun c_90 => ?_)
                  · have c_90 : ¬ n = 40 := fun h => c_90 ((nI_eq (a := n) (b := 40) (by omega) (by omega)).mpr h)
                    refine lv_aload_n hx hb dX5_mirror_122 rfl (lv_at hl 0 rfl) ?_
                    refine va_get (D := (dC, dI)) (ci := 5) (v := .ref (h 1)) (C := RX5) (T := TX5) (N := 33) hx hb hts hin_X5 hown hK hP 0 rfl rfl 8 (by decide) hw3 (fun _ h9 => h9) rfl dX5_mirror_123 ?_
                    refine lv_aload_n hx hb dX5_mirror_126 rfl (lv_at hl 0 rfl) ?_
                    refine va_get (D := (dC, dI)) (ci := 5) (v := .int (V 2)) (C := RX5) (T := TX5) (N := 33) hx hb hts hin_X5 hown hK hP 0 rfl rfl 2 (by decide) hw2 (fun _ h9 => h9) rfl dX5_mirror_127 ?_
                    refine lv_topi (fun x_91 ex_91 => ?_)
                    obtain rfl : x_91 = nI n := ex_91.trans (hV2)
                    refine lv_iload_n hx hb dX5_mirror_130 rfl (lv_at hl 1 rfl) ?_
                    refine va_iast hx hb hK hP hD hS 1 0 rfl rfl (vp_in_nI (n := n) (N := 40) (by omega) (by decide)) dX5_mirror_131 (fun H locs hP hD hS => ?_)
                    obtain ⟨F_92, eF_92⟩ : ∃ z : Nat → Nat → Int32, z = va_up F 1 (upd (F 1) (nI n).toNatClampNeg p0) := ⟨_, rfl⟩
                    have hP : va_P (dC, dI) vwCl (wM cI cZ cJ h F_92 G (va_up V 0 0)) H := by rw [eF_92]; exact hP
                    have hD : va_D A (wM cI cZ cJ h F_92 G (va_up V 0 0)) := by rw [eF_92]; exact hD
                    have hN_93 : ∀ i, i < 40 → F_92 3 i = nI (So i) := by rw [eF_92]; exact hSo
                    have hN_94 : ∀ i, i < 4 → F_92 4 i = nI (Lm i) := by rw [eF_92]; exact hLm
                    have hN_95 : ∀ i, i < 24 → F_92 7 i = nI (Hh i) := by rw [eF_92]; exact hHh
                    have hN_96 : ∀ i, i < 24 → F_92 8 i = nI (Wd i) := by rw [eF_92]; exact hWd
                    have hN_97 : ∀ i, i < 24 → F_92 9 i = nI (Pr i) := by rw [eF_92]; exact hPr
                    refine lv_aload_n hx hb dX5_mirror_132 rfl (lv_at hl 0 rfl) ?_
                    refine va_get (D := (dC, dI)) (ci := 5) (v := .ref (h 2)) (C := RX5) (T := TX5) (N := 33) hx hb hts hin_X5 hown hK hP 0 rfl rfl 9 (by decide) hw4 (fun _ h9 => h9) rfl dX5_mirror_133 ?_
                    refine lv_aload_n hx hb dX5_mirror_136 rfl (lv_at hl 0 rfl) ?_
                    refine va_get (D := (dC, dI)) (ci := 5) (v := .int (V 2)) (C := RX5) (T := TX5) (N := 33) hx hb hts hin_X5 hown hK hP 0 rfl rfl 2 (by decide) hw2 (fun _ h9 => h9) rfl dX5_mirror_137 ?_
                    refine lv_topi (fun x_98 ex_98 => ?_)
                    obtain rfl : x_98 = nI n := ex_98.trans (hV2)
                    refine lv_iload_n hx hb dX5_mirror_140 rfl (lv_at hl 2 rfl) ?_
                    refine va_iast hx hb hK hP hD hS 2 0 rfl rfl (vp_in_nI (n := n) (N := 40) (by omega) (by decide)) dX5_mirror_141 (fun H locs hP hD hS => ?_)
                    obtain ⟨F_99, eF_99⟩ : ∃ z : Nat → Nat → Int32, z = va_up F_92 2 (upd (F_92 2) (nI n).toNatClampNeg p1) := ⟨_, rfl⟩
                    have hP : va_P (dC, dI) vwCl (wM cI cZ cJ h F_99 G (va_up V 0 0)) H := by rw [eF_99]; exact hP
                    have hD : va_D A (wM cI cZ cJ h F_99 G (va_up V 0 0)) := by rw [eF_99]; exact hD
                    have hN_100 : ∀ i, i < 40 → F_99 3 i = nI (So i) := by rw [eF_99]; exact hN_93
                    have hN_101 : ∀ i, i < 4 → F_99 4 i = nI (Lm i) := by rw [eF_99]; exact hN_94
                    have hN_102 : ∀ i, i < 24 → F_99 7 i = nI (Hh i) := by rw [eF_99]; exact hN_95
                    have hN_103 : ∀ i, i < 24 → F_99 8 i = nI (Wd i) := by rw [eF_99]; exact hN_96
                    have hN_104 : ∀ i, i < 24 → F_99 9 i = nI (Pr i) := by rw [eF_99]; exact hN_97
                    refine lv_aload_n hx hb dX5_mirror_142 rfl (lv_at hl 0 rfl) ?_
                    refine lv_dup hx hb dX5_mirror_143 rfl ?_
                    refine va_get (D := (dC, dI)) (ci := 5) (v := .int (V 2)) (C := RX5) (T := TX5) (N := 33) hx hb hts hin_X5 hown hK hP 0 rfl rfl 2 (by decide) hw2 (fun _ h9 => h9) rfl dX5_mirror_144 ?_
                    refine lv_topi (fun x_105 ex_105 => ?_)
                    obtain rfl : x_105 = nI n := ex_105.trans (hV2)
                    refine lv_iconst (v := 1) hx hb dX5_mirror_147 (by decide) ?_
                    refine lv_iadd hx hb dX5_mirror_148 ?_
                    refine lv_topi (fun x_106 ex_106 => ?_)
                    obtain rfl : x_106 = nI (n + 1) := ex_106.trans (nI_add n 1)
                    refine va_put (D := (dC, dI)) (ci := 5) (v := .int (nI (n + 1))) (ty := .int) (C := RX5) (T := TX5) (N := 33) hx hb hts hin_X5 tyX5 tyX5_ok nmX5 hown hK hP hD hS 0 rfl rfl 2 (by decide) hw2 (fun _ h9 => h9) rfl (by decide +kernel) rfl rfl (Nat.le_of_ble_eq_true rfl) dX5_mirror_149 (fun H locs hP hD hS => ?_)
                    have hP : va_P (dC, dI) vwCl (wM cI cZ cJ h F_99 G (va_up (va_up V 0 0) 2 (nI (n + 1)))) H := hP
                    have hD : va_D A (wM cI cZ cJ h F_99 G (va_up (va_up V 0 0) 2 (nI (n + 1)))) := hD
                    refine lv_aload_n hx hb dX5_mirror_152 rfl (lv_at hl 0 rfl) ?_
                    refine lv_aload_n hx hb dX5_mirror_153 rfl (lv_at hl 0 rfl) ?_
                    refine va_get (D := (dC, dI)) (ci := 5) (v := .int (nI (n + 1))) (C := RX5) (T := TX5) (N := 33) hx hb hts hin_X5 hown hK hP 0 rfl rfl 2 (by decide) hw2 (fun _ h9 => h9) rfl dX5_mirror_154 ?_
                    refine lv_iconst (v := 1) hx hb dX5_mirror_157 (by decide) ?_
                    refine lv_isub hx hb dX5_mirror_158 ?_
                    refine lv_topi (fun x_107 ex_107 => ?_)
                    obtain rfl : x_107 = nI ((n + 1) - 1) := ex_107.trans (pk_sub (a := n + 1) (b := 1) (by omega))
                    refine cw_Vi (As := [.int (nI ((n + 1) - 1))]) (rest := []) (c_X5_done l dC dI cI cZ cJ h F_99 G (va_up (va_up V 0 0) 2 (nI (n + 1))) (nI ((n + 1) - 1))) fx (cwV 1 hts gX5_mirror_X5_done rfl rfl rfl (by decide +kernel) ⟨Nat.le_of_ble_eq_true rfl, Nat.le_of_ble_eq_true rfl⟩) hK hP hD hS hA 0 rfl rfl rfl rfl hl.1 rfl (Nat.le_of_ble_eq_true rfl) dX5_mirror_159 ⟨Nat.le_of_ble_eq_true rfl, Nat.le_of_ble_eq_true rfl⟩ (fun r_108 u_109 H locs hw_110 hP hD hS => ?_)
                    have hP : va_P (dC, dI) vwCl (wM cI cZ cJ h F_99 G (va_up (va_up (va_up V 0 0) 2 (nI (n + 1))) 1 0)) H := hP
                    have hD : va_D A (wM cI cZ cJ h F_99 G (va_up (va_up (va_up V 0 0) 2 (nI (n + 1))) 1 0)) := hD
                    obtain rfl : r_108 = nI ((n + 1) - 1) := hw_110
                    exact hret (nI ((n + 1) - 1)) (F_99, G, va_up (va_up (va_up V 0 0) 2 (nI (n + 1))) 1 0) H locs 162 ls rfl dX5_mirror_162 (⟨trivial, ⟨(n + 1), nw, un, d, wm, pf, sh, am, So, Lm, Hh, Wd, Pr, ⟨rfl, by omega⟩, ⟨hV3, by omega⟩, ⟨hV4, by omega⟩, ⟨hV6, by omega⟩, ⟨hV7, by omega⟩, ⟨hV10, by omega⟩, ⟨hV11, by omega⟩, ⟨hV8, by omega⟩, ⟨hN_100, bSo⟩, ⟨hN_101, bLm⟩, ⟨hN_102, bHh⟩, ⟨hN_103, bWd⟩, ⟨hN_104, bPr⟩⟩⟩) (hP) (hD) hS
                  · have c_90 : n = 40 := (nI_eq (a := n) (b := 40) (by omega) (by omega)).mp c_90
                    refine lv_aload_n hx hb dX5_mirror_116 rfl (lv_at hl 0 rfl) ?_
                    refine lv_iconst (v := 3) hx hb dX5_mirror_117 (by decide) ?_
                    refine cw_Vi (As := [.int 3]) (rest := []) (c_X5_refused l dC dI cI cZ cJ h F G (va_up V 0 0) 3) fx (cwV 1 hts gX5_mirror_X5_refused rfl rfl rfl (by decide +kernel) ⟨Nat.le_of_ble_eq_true rfl, Nat.le_of_ble_eq_true rfl⟩) hK hP hD hS hA 0 rfl rfl rfl rfl hl.1 rfl (Nat.le_of_ble_eq_true rfl) dX5_mirror_118 ⟨Nat.le_of_ble_eq_true rfl, Nat.le_of_ble_eq_true rfl⟩ (fun r_111 u_112 H locs hw_113 hP hD hS => ?_)
                    have hP : va_P (dC, dI) vwCl (wM cI cZ cJ h F G (va_up (va_up V 0 0) 1 3)) H := hP
                    have hD : va_D A (wM cI cZ cJ h F G (va_up (va_up V 0 0) 1 3)) := hD
                    obtain rfl : r_111 = (-1) := hw_113
                    exact hret (-1) (F, G, va_up (va_up V 0 0) 1 3) H locs 121 ls rfl dX5_mirror_121 (⟨trivial, ⟨n, nw, un, d, wm, pf, sh, am, So, Lm, Hh, Wd, Pr, ⟨hV2, by omega⟩, ⟨hV3, by omega⟩, ⟨hV4, by omega⟩, ⟨hV6, by omega⟩, ⟨hV7, by omega⟩, ⟨hV10, by omega⟩, ⟨hV11, by omega⟩, ⟨hV8, by omega⟩, ⟨hSo, bSo⟩, ⟨hLm, bLm⟩, ⟨hHh, bHh⟩, ⟨hWd, bWd⟩, ⟨hPr, bPr⟩⟩⟩) (hP) (hD) hS
                · have c_88 : ¬ tk = 0 := fun h => c_88 ((nI_eq (a := tk) (b := 0) (by omega) (by omega)).mpr h)
                  refine lv_aload_n hx hb dX5_mirror_101 rfl (lv_at hl 0 rfl) ?_
                  refine lv_iconst (v := 4) hx hb dX5_mirror_102 (by decide) ?_
                  refine cw_Vi (As := [.int 4]) (rest := []) (c_X5_refused l dC dI cI cZ cJ h F G (va_up V 0 0) 4) fx (cwV 1 hts gX5_mirror_X5_refused rfl rfl rfl (by decide +kernel) ⟨Nat.le_of_ble_eq_true rfl, Nat.le_of_ble_eq_true rfl⟩) hK hP hD hS hA 0 rfl rfl rfl rfl hl.1 rfl (Nat.le_of_ble_eq_true rfl) dX5_mirror_103 ⟨Nat.le_of_ble_eq_true rfl, Nat.le_of_ble_eq_true rfl⟩ (fun r_114 u_115 H locs hw_116 hP hD hS => ?_)
                  have hP : va_P (dC, dI) vwCl (wM cI cZ cJ h F G (va_up (va_up V 0 0) 1 4)) H := hP
                  have hD : va_D A (wM cI cZ cJ h F G (va_up (va_up V 0 0) 1 4)) := hD
                  obtain rfl : r_114 = (-1) := hw_116
                  exact hret (-1) (F, G, va_up (va_up V 0 0) 1 4) H locs 106 ls rfl dX5_mirror_106 (⟨trivial, ⟨n, nw, un, d, wm, pf, sh, am, So, Lm, Hh, Wd, Pr, ⟨hV2, by omega⟩, ⟨hV3, by omega⟩, ⟨hV4, by omega⟩, ⟨hV6, by omega⟩, ⟨hV7, by omega⟩, ⟨hV10, by omega⟩, ⟨hV11, by omega⟩, ⟨hV8, by omega⟩, ⟨hSo, bSo⟩, ⟨hLm, bLm⟩, ⟨hHh, bHh⟩, ⟨hWd, bWd⟩, ⟨hPr, bPr⟩⟩⟩) (hP) (hD) hS
              · have c_87 : ¬ n ≤ k := fun h => c_87 ((nI_leI (a := n) (b := k) (by omega) (by omega)).mpr h)
                refine lv_iload_n hx hb dX5_mirror_59 rfl (lv_at hl 3 rfl) ?_
                refine lv_if_ne (tgt := 85) hx hb dX5_mirror_60 (by decide) (fun c_117 => ?_) (fun c_117 => ?_)
                · have c_117 : ¬ tk = 0 := fun h => c_117 ((nI_eq (a := tk) (b := 0) (by omega) (by omega)).mpr h)
                  refine lv_iconst (v := 1) hx hb dX5_mirror_85 (by decide) ?_
                  refine lv_goto (tgt := 90) hx hb dX5_mirror_86 (by decide) ?_
                  refine lv_istore_n (lv' := [(3, .int 1), (0, .ref (h 0)), (1, .int p0), (2, .int p1), (4, .int (nI k))]) hx hb dX5_mirror_90 rfl hl (by decide) rfl (fun ls hl => ?_)
                  refine lv_iinc (v := nI (k + 1)) (lv' := [(4, .int (nI (k + 1))), (3, .int 1), (0, .ref (h 0)), (1, .int p0), (2, .int p1)]) hx hb dX5_mirror_91 hl (k := 4) rfl (nI_1 _) (by decide) rfl (fun ls hl => ?_)
                  refine lv_goto (tgt := 50) hx hb dX5_mirror_94 (by decide) ?_
                  exact ih50 1 (k + 1) (by omega) (by omega) (by omega) H locs ls hP hD hS (lv_sub hl [2, 3, 4, 1, 0] rfl)
                · have c_117 : tk = 0 := (nI_eq (a := tk) (b := 0) (by omega) (by omega)).mp c_117
                  refine lv_aload_n hx hb dX5_mirror_63 rfl (lv_at hl 0 rfl) ?_
                  refine va_get (D := (dC, dI)) (ci := 5) (v := .ref (h 1)) (C := RX5) (T := TX5) (N := 33) hx hb hts hin_X5 hown hK hP 0 rfl rfl 8 (by decide) hw3 (fun _ h9 => h9) rfl dX5_mirror_64 ?_
                  refine lv_iload hx hb dX5_mirror_67 (lv_at hl 4 rfl) ?_
                  refine va_iald hx hb hK hP 1 0 rfl rfl (vp_in_nI (n := k) (N := 40) (by omega) (by decide)) dX5_mirror_69 ?_
                  refine lv_topi (fun x_118 ex_118 => ?_)
                  rw [nI_clamp (n := k) (by omega)] at ex_118
                  refine lv_iload_n hx hb dX5_mirror_70 rfl (lv_at hl 1 rfl) ?_
                  refine lv_icmp_ne (tgt := 89) hx hb dX5_mirror_71 (by decide) (fun c_119 => ?_) (fun c_119 => ?_)
                  · have c_119 : eqI x_118 p0 = false := decide_eq_false c_119
                    refine lv_iconst (v := 0) hx hb dX5_mirror_89 (by decide) ?_
                    refine lv_istore_n (lv' := [(3, .int 0), (0, .ref (h 0)), (1, .int p0), (2, .int p1), (4, .int (nI k))]) hx hb dX5_mirror_90 rfl hl (by decide) rfl (fun ls hl => ?_)
                    refine lv_iinc (v := nI (k + 1)) (lv' := [(4, .int (nI (k + 1))), (3, .int 0), (0, .ref (h 0)), (1, .int p0), (2, .int p1)]) hx hb dX5_mirror_91 hl (k := 4) rfl (nI_1 _) (by decide) rfl (fun ls hl => ?_)
                    refine lv_goto (tgt := 50) hx hb dX5_mirror_94 (by decide) ?_
                    exact ih50 0 (k + 1) (by omega) (by omega) (by omega) H locs ls hP hD hS (lv_sub hl [2, 3, 4, 1, 0] rfl)
                  · have c_119 : eqI x_118 p0 = true := decide_eq_true c_119
                    refine lv_aload_n hx hb dX5_mirror_74 rfl (lv_at hl 0 rfl) ?_
                    refine va_get (D := (dC, dI)) (ci := 5) (v := .ref (h 2)) (C := RX5) (T := TX5) (N := 33) hx hb hts hin_X5 hown hK hP 0 rfl rfl 9 (by decide) hw4 (fun _ h9 => h9) rfl dX5_mirror_75 ?_
                    refine lv_iload hx hb dX5_mirror_78 (lv_at hl 4 rfl) ?_
                    refine va_iald hx hb hK hP 2 0 rfl rfl (vp_in_nI (n := k) (N := 40) (by omega) (by decide)) dX5_mirror_80 ?_
                    refine lv_topi (fun x_120 ex_120 => ?_)
                    rw [nI_clamp (n := k) (by omega)] at ex_120
                    refine lv_iload_n hx hb dX5_mirror_81 rfl (lv_at hl 2 rfl) ?_
                    refine lv_icmp_ne (tgt := 89) hx hb dX5_mirror_82 (by decide) (fun c_121 => ?_) (fun c_121 => ?_)
                    · have c_121 : eqI x_120 p1 = false := decide_eq_false c_121
                      refine lv_iconst (v := 0) hx hb dX5_mirror_89 (by decide) ?_
                      refine lv_istore_n (lv' := [(3, .int 0), (0, .ref (h 0)), (1, .int p0), (2, .int p1), (4, .int (nI k))]) hx hb dX5_mirror_90 rfl hl (by decide) rfl (fun ls hl => ?_)
                      refine lv_iinc (v := nI (k + 1)) (lv' := [(4, .int (nI (k + 1))), (3, .int 0), (0, .ref (h 0)), (1, .int p0), (2, .int p1)]) hx hb dX5_mirror_91 hl (k := 4) rfl (nI_1 _) (by decide) rfl (fun ls hl => ?_)
                      refine lv_goto (tgt := 50) hx hb dX5_mirror_94 (by decide) ?_
                      exact ih50 0 (k + 1) (by omega) (by omega) (by omega) H locs ls hP hD hS (lv_sub hl [2, 3, 4, 1, 0] rfl)
                    · have c_121 : eqI x_120 p1 = true := decide_eq_true c_121
                      refine lv_iconst (v := 1) hx hb dX5_mirror_85 (by decide) ?_
                      refine lv_goto (tgt := 90) hx hb dX5_mirror_86 (by decide) ?_
                      refine lv_istore_n (lv' := [(3, .int 1), (0, .ref (h 0)), (1, .int p0), (2, .int p1), (4, .int (nI k))]) hx hb dX5_mirror_90 rfl hl (by decide) rfl (fun ls hl => ?_)
                      refine lv_iinc (v := nI (k + 1)) (lv' := [(4, .int (nI (k + 1))), (3, .int 1), (0, .ref (h 0)), (1, .int p0), (2, .int p1)]) hx hb dX5_mirror_91 hl (k := 4) rfl (nI_1 _) (by decide) rfl (fun ls hl => ?_)
                      refine lv_goto (tgt := 50) hx hb dX5_mirror_94 (by decide) ?_
                      exact ih50 1 (k + 1) (by omega) (by omega) (by omega) H locs ls hP hD hS (lv_sub hl [2, 3, 4, 1, 0] rfl)
          exact loop50 _ 1 0 (by omega) (by omega) (Nat.lt_succ_self _) H locs ls hP hD hS (lv_sub hl [2, 3, 4, 1, 0] rfl)
    · have c_11 : isW p1 0 14 = false := bI_f hw_10 c_11
      refine lv_aload_n hx hb dX5_mirror_25 rfl (lv_at hl 0 rfl) ?_
      refine lv_iconst (v := 2) hx hb dX5_mirror_26 (by decide) ?_
      refine cw_Vi (As := [.int 2]) (rest := []) (c_X5_refused l dC dI cI cZ cJ h F G (va_up V 0 0) 2) fx (cwV 1 hts gX5_mirror_X5_refused rfl rfl rfl (by decide +kernel) ⟨Nat.le_of_ble_eq_true rfl, Nat.le_of_ble_eq_true rfl⟩) hK hP hD hS hA 0 rfl rfl rfl rfl hl.1 rfl (Nat.le_of_ble_eq_true rfl) dX5_mirror_27 ⟨Nat.le_of_ble_eq_true rfl, Nat.le_of_ble_eq_true rfl⟩ (fun r_122 u_123 H locs hw_124 hP hD hS => ?_)
      have hP : va_P (dC, dI) vwCl (wM cI cZ cJ h F G (va_up (va_up V 0 0) 1 2)) H := hP
      have hD : va_D A (wM cI cZ cJ h F G (va_up (va_up V 0 0) 1 2)) := hD
      obtain rfl : r_122 = (-1) := hw_124
      exact hret (-1) (F, G, va_up (va_up V 0 0) 1 2) H locs 30 ls rfl dX5_mirror_30 (⟨trivial, ⟨n, nw, un, d, wm, pf, sh, am, So, Lm, Hh, Wd, Pr, ⟨hV2, by omega⟩, ⟨hV3, by omega⟩, ⟨hV4, by omega⟩, ⟨hV6, by omega⟩, ⟨hV7, by omega⟩, ⟨hV10, by omega⟩, ⟨hV11, by omega⟩, ⟨hV8, by omega⟩, ⟨hSo, bSo⟩, ⟨hLm, bLm⟩, ⟨hHh, bHh⟩, ⟨hWd, bWd⟩, ⟨hPr, bPr⟩⟩⟩) (hP) (hD) hS
def rm_X5_shot : Room := { frames := 1, cells := 0, slots := 0, locals := 24 }
set_option maxHeartbeats 4000000 in
set_option maxRecDepth 100000 in
theorem c_X5_shot (l : Launch) (dC : Nat → ClassId) (dI : Nat → Nat → Nat) (cI cZ cJ : ClassId) (h : Nat → Nat) (F : Nat → Nat → Int32) (G : Nat → Int64) (V : Nat → Int32) (n : Nat) (hV2 : V 2 = nI n) (bV2 : n ≤ 40) (nw : Nat) (hV3 : V 3 = nI nw) (bV3 : nw ≤ 23) (un : Nat) (hV4 : V 4 = nI un) (bV4 : un ≤ 200) (d : Nat) (hV6 : V 6 = nI d) (bV6 : d ≤ 20) (wm : Nat) (hV7 : V 7 = nI wm) (bV7 : wm ≤ 1) (pf : Nat) (hV10 : V 10 = nI pf) (bV10 : pf ≤ 24) (sh : Nat) (hV11 : V 11 = nI sh) (bV11 : sh ≤ 12) (So : Nat → Nat) (hSo : ∀ i, i < 40 → F 3 i = nI (So i)) (bSo : ∀ i, i < 40 → So i ≤ 90) (Lm : Nat → Nat) (hLm : ∀ i, i < 4 → F 4 i = nI (Lm i)) (bLm : ∀ i, i < 4 → Lm i ≤ 10000) (Hh : Nat → Nat) (hHh : ∀ i, i < 24 → F 7 i = nI (Hh i)) (bHh : ∀ i, i < 24 → Hh i ≤ 9) (Wd : Nat → Nat) (hWd : ∀ i, i < 24 → F 8 i = nI (Wd i)) (bWd : ∀ i, i < 24 → Wd i ≤ 99) (Pr : Nat → Nat) (hPr : ∀ i, i < 24 → F 9 i = nI (Pr i)) (bPr : ∀ i, i < 24 → Pr i ≤ 999) (p0 p1 p2 : Int32)  (am : Nat) (hV8 : V 8 = nI am - 1) (bam : am ≤ 41) : CtI l (dC, dI) vwCl (tys3 cI cZ cJ) yX5_shot wsX5_shot rm_X5_shot [.ref (h 0), .int p0, .int p1, .int p2] (wM cI cZ cJ h F G V) (S := (Nat → Nat → Int32) × (Nat → Int64) × (Nat → Int32)) (fun r u => (True) ∧ IM u.1 u.2.2) (fun u => wM cI cZ cJ h u.1 u.2.1 u.2.2) 0 0 := by
  refine ct_I (cc := cX5_shot) (maxL := 6) (ty := .int) (own := RX5) (by decide) rfl rfl (Nat.le_of_ble_eq_true rfl) (lv := [(0, .ref (h 0)), (1, .int p0), (2, .int p1), (3, .int p2)]) rfl ?_
  intro p e s m args below meth c A Q ls fx hK hP hD hA hl hret
  obtain ⟨hx, hb, hml, hown, hts⟩ := id fx
  have hS : va_S A s.heap s.heap [] := va_S.rf
  have hw0 := hts (.fieldLink RX5 1 "MirrorTowerModel" "thrown" "I") (by decide +kernel)
  have hin_X5 : ∀ w ∈ u_ws RX5 TX5 33, w ∈ wsX5_shot := by decide +kernel
  have hw2 := hts (.constantLong RX5 178 (4294967295)) (by decide +kernel)
  have hw3 := hts (.fieldLink RX5 91 "MirrorTowerModel" "mirrors" "I") (by decide +kernel)
  have hw4 := hts (.constantLong RX5 184 (-1)) (by decide +kernel)
  have hw5 := hts (.fieldLink RX5 186 "MirrorTowerModel" "shots" "I") (by decide +kernel)
  have hw6 := hts (.fieldLink RX5 81 "MirrorTowerModel" "shot" "[J") (by decide +kernel)
  have hw7 := hts (.fieldLink RX5 85 "MirrorTowerModel" "hits" "[I") (by decide +kernel)
  obtain ⟨H, hH⟩ : ∃ H, H = s.heap := ⟨_, rfl⟩
  rw [← hH] at hP ⊢
  have hS : va_S A s.heap H [] := by rw [hH]; exact hS
  generalize ([] : List Loc) = locs at hS ⊢
  refine lv_aload_n hx hb dX5_shot_0 rfl (lv_at hl 0 rfl) ?_
  refine lv_iconst (v := 0) hx hb dX5_shot_1 (by decide) ?_
  refine va_put (D := (dC, dI)) (ci := 5) (v := .int 0) (ty := .int) (C := RX5) (T := TX5) (N := 33) hx hb hts hin_X5 tyX5 tyX5_ok nmX5 hown hK hP hD hS 0 rfl rfl 0 (by decide) hw0 (fun _ h9 => h9) rfl (by decide +kernel) rfl rfl (Nat.le_of_ble_eq_true rfl) dX5_shot_2 (fun H locs hP hD hS => ?_)
  have hP : va_P (dC, dI) vwCl (wM cI cZ cJ h F G (va_up V 0 0)) H := hP
  have hD : va_D A (wM cI cZ cJ h F G (va_up V 0 0)) := hD
  refine lv_iload_n hx hb dX5_shot_5 rfl (lv_at hl 2 rfl) ?_
  refine lv_i2l hx hb dX5_shot_6 rfl ?_
  refine lv_bipush (v := 32) hx hb dX5_shot_7 (by decide) ?_
  refine lv_lshl hx hb dX5_shot_9 rfl ?_
  refine lv_topl (fun z_1 ez_1 => ?_)
  refine lv_iload_n hx hb dX5_shot_10 rfl (lv_at hl 1 rfl) ?_
  refine lv_i2l hx hb dX5_shot_11 rfl ?_
  refine lv_ldc2 hx hb hown hw2 dX5_shot_12 ?_
  refine lv_land hx hb dX5_shot_15 ?_
  refine lv_topl (fun z_2 ez_2 => ?_)
  refine lv_lor hx hb dX5_shot_16 ?_
  refine lv_topl (fun z_3 ez_3 => ?_)
  refine lv_lstore (lv' := [(4, .long z_3), (0, .ref (h 0)), (1, .int p0), (2, .int p1), (3, .int p2)]) hx hb dX5_shot_17 hl (by decide) rfl (fun ls hl => ?_)
  refine lv_iload_n hx hb dX5_shot_19 rfl (lv_at hl 4 rfl) ?_
  refine lv_if_lt (tgt := 32) hx hb dX5_shot_20 (by decide) (fun c_4 => ?_) (fun c_4 => ?_)
  · have c_4 : ltI p2 0 = true := decide_eq_true c_4
    refine lv_aload_n hx hb dX5_shot_32 rfl (lv_at hl 1 rfl) ?_
    refine lv_iconst (v := 2) hx hb dX5_shot_33 (by decide) ?_
    refine cw_Vi (As := [.int 2]) (rest := []) (c_X5_refused l dC dI cI cZ cJ h F G (va_up V 0 0) 2) fx (cwV 1 hts gX5_shot_X5_refused rfl rfl rfl (by decide +kernel) ⟨Nat.le_of_ble_eq_true rfl, Nat.le_of_ble_eq_true rfl⟩) hK hP hD hS hA 0 rfl rfl rfl rfl hl.1 rfl (Nat.le_of_ble_eq_true rfl) dX5_shot_34 ⟨Nat.le_of_ble_eq_true rfl, Nat.le_of_ble_eq_true rfl⟩ (fun r_5 u_6 H locs hw_7 hP hD hS => ?_)
    have hP : va_P (dC, dI) vwCl (wM cI cZ cJ h F G (va_up (va_up V 0 0) 1 2)) H := hP
    have hD : va_D A (wM cI cZ cJ h F G (va_up (va_up V 0 0) 1 2)) := hD
    obtain rfl : r_5 = (-1) := hw_7
    exact hret (-1) (F, G, va_up (va_up V 0 0) 1 2) H locs 37 ls rfl dX5_shot_37 (⟨trivial, ⟨n, nw, un, d, wm, pf, sh, am, So, Lm, Hh, Wd, Pr, ⟨hV2, by omega⟩, ⟨hV3, by omega⟩, ⟨hV4, by omega⟩, ⟨hV6, by omega⟩, ⟨hV7, by omega⟩, ⟨hV10, by omega⟩, ⟨hV11, by omega⟩, ⟨hV8, by omega⟩, ⟨hSo, bSo⟩, ⟨hLm, bLm⟩, ⟨hHh, bHh⟩, ⟨hWd, bWd⟩, ⟨hPr, bPr⟩⟩⟩) (hP) (hD) hS
  · have c_4 : ltI p2 0 = false := decide_eq_false c_4
    refine lv_iload_n hx hb dX5_shot_23 rfl (lv_at hl 4 rfl) ?_
    refine lv_lload hx hb dX5_shot_24 (lv_at hl 0 rfl) ?_
    refine cw_Si (As := [.long z_3]) (rest := [.int p2]) (c_X5_bits l dC dI cI cZ cJ (wM cI cZ cJ h F G (va_up V 0 0)) z_3) fx (va_cwS 1 hts gX5_shot_X5_bits rfl rfl rfl (by decide +kernel) ⟨Nat.le_of_ble_eq_true rfl, Nat.le_of_ble_eq_true rfl⟩) hK hP hD hS hA rfl hl.1 rfl (Nat.le_of_ble_eq_true rfl) dX5_shot_26 ⟨Nat.le_of_ble_eq_true rfl, Nat.le_of_ble_eq_true rfl⟩ (fun r_8 u_9 H locs hw_10 hP hD hS => ?_)
    have hP : va_P (dC, dI) vwCl (wM cI cZ cJ h F G (va_up V 0 0)) H := hP
    have hD : va_D A (wM cI cZ cJ h F G (va_up V 0 0)) := hD
    refine lv_icmp_le (tgt := 38) hx hb dX5_shot_29 (by decide) (fun c_11 => ?_) (fun c_11 => ?_)
    · have c_11 : ltI r_8 p2 = false := decide_eq_false (Int32.not_lt.mpr c_11)
      refine lv_lload hx hb dX5_shot_38 (lv_at hl 0 rfl) ?_
      refine lv_lconst (v := 0) hx hb dX5_shot_40 (by decide) ?_
      refine W.lcmp hx hb dX5_shot_41 ?_
      refine lv_if_eq (tgt := 65) hx hb dX5_shot_42 (by decide) (fun c_12 => ?_) (fun c_12 => ?_)
      · have c_12 : eqI (lg_cmp z_3 0) 0 = true := decide_eq_true c_12
        refine lv_aload_n hx hb dX5_shot_65 rfl (lv_at hl 1 rfl) ?_
        refine lv_iconst (v := 4) hx hb dX5_shot_66 (by decide) ?_
        refine cw_Vi (As := [.int 4]) (rest := []) (c_X5_refused l dC dI cI cZ cJ h F G (va_up V 0 0) 4) fx (cwV 1 hts gX5_shot_X5_refused rfl rfl rfl (by decide +kernel) ⟨Nat.le_of_ble_eq_true rfl, Nat.le_of_ble_eq_true rfl⟩) hK hP hD hS hA 0 rfl rfl rfl rfl hl.1 rfl (Nat.le_of_ble_eq_true rfl) dX5_shot_67 ⟨Nat.le_of_ble_eq_true rfl, Nat.le_of_ble_eq_true rfl⟩ (fun r_13 u_14 H locs hw_15 hP hD hS => ?_)
        have hP : va_P (dC, dI) vwCl (wM cI cZ cJ h F G (va_up (va_up V 0 0) 1 4)) H := hP
        have hD : va_D A (wM cI cZ cJ h F G (va_up (va_up V 0 0) 1 4)) := hD
        obtain rfl : r_13 = (-1) := hw_15
        exact hret (-1) (F, G, va_up (va_up V 0 0) 1 4) H locs 70 ls rfl dX5_shot_70 (⟨trivial, ⟨n, nw, un, d, wm, pf, sh, am, So, Lm, Hh, Wd, Pr, ⟨hV2, by omega⟩, ⟨hV3, by omega⟩, ⟨hV4, by omega⟩, ⟨hV6, by omega⟩, ⟨hV7, by omega⟩, ⟨hV10, by omega⟩, ⟨hV11, by omega⟩, ⟨hV8, by omega⟩, ⟨hSo, bSo⟩, ⟨hLm, bLm⟩, ⟨hHh, bHh⟩, ⟨hWd, bWd⟩, ⟨hPr, bPr⟩⟩⟩) (hP) (hD) hS
      · have c_12 : eqI (lg_cmp z_3 0) 0 = false := decide_eq_false c_12
        refine lv_lload hx hb dX5_shot_45 (lv_at hl 0 rfl) ?_
        refine lv_lconst (v := 1) hx hb dX5_shot_47 (by decide) ?_
        refine lv_aload_n hx hb dX5_shot_48 rfl (lv_at hl 1 rfl) ?_
        refine va_get (D := (dC, dI)) (ci := 5) (v := .int (V 2)) (C := RX5) (T := TX5) (N := 33) hx hb hts hin_X5 hown hK hP 0 rfl rfl 2 (by decide) hw3 (fun _ h9 => h9) rfl dX5_shot_49 ?_
        refine lv_topi (fun x_16 ex_16 => ?_)
        obtain rfl : x_16 = nI n := ex_16.trans (hV2)
        refine lv_lshl hx hb dX5_shot_52 rfl ?_
        refine lv_topl (fun z_17 ez_17 => ?_)
        refine lv_lconst (v := 1) hx hb dX5_shot_53 (by decide) ?_
        refine lv_lsub hx hb dX5_shot_54 ?_
        refine lv_topl (fun z_18 ez_18 => ?_)
        refine lv_ldc2 hx hb hown hw4 dX5_shot_55 ?_
        refine lv_lxor hx hb dX5_shot_58 ?_
        refine lv_topl (fun z_19 ez_19 => ?_)
        refine lv_land hx hb dX5_shot_59 ?_
        refine lv_topl (fun z_20 ez_20 => ?_)
        refine lv_lconst (v := 0) hx hb dX5_shot_60 (by decide) ?_
        refine W.lcmp hx hb dX5_shot_61 ?_
        refine lv_if_eq (tgt := 71) hx hb dX5_shot_62 (by decide) (fun c_21 => ?_) (fun c_21 => ?_)
        · have c_21 : eqI (lg_cmp z_20 0) 0 = true := decide_eq_true c_21
          refine lv_aload_n hx hb dX5_shot_71 rfl (lv_at hl 1 rfl) ?_
          refine va_get (D := (dC, dI)) (ci := 5) (v := .int (V 11)) (C := RX5) (T := TX5) (N := 33) hx hb hts hin_X5 hown hK hP 0 rfl rfl 31 (by decide) hw5 (fun _ h9 => h9) rfl dX5_shot_72 ?_
          refine lv_topi (fun x_22 ex_22 => ?_)
          obtain rfl : x_22 = nI sh := ex_22.trans (hV11)
          refine lv_bipush (v := 12) hx hb dX5_shot_75 (by decide) ?_
          refine lv_icmp_ne (tgt := 86) hx hb dX5_shot_77 (by decide) (fun c_23 => ?_) (fun c_23 => ?_)
          · have c_23 : ¬ sh = 12 := fun h => c_23 ((nI_eq (a := sh) (b := 12) (by omega) (by omega)).mpr h)
            refine lv_aload_n hx hb dX5_shot_86 rfl (lv_at hl 1 rfl) ?_
            refine va_get (D := (dC, dI)) (ci := 5) (v := .ref (h 19)) (C := RX5) (T := TX5) (N := 33) hx hb hts hin_X5 hown hK hP 0 rfl rfl 29 (by decide) hw6 (fun _ h9 => h9) rfl dX5_shot_87 ?_
            refine lv_aload_n hx hb dX5_shot_90 rfl (lv_at hl 1 rfl) ?_
            refine va_get (D := (dC, dI)) (ci := 5) (v := .int (V 11)) (C := RX5) (T := TX5) (N := 33) hx hb hts hin_X5 hown hK hP 0 rfl rfl 31 (by decide) hw5 (fun _ h9 => h9) rfl dX5_shot_91 ?_
            refine lv_topi (fun x_24 ex_24 => ?_)
            obtain rfl : x_24 = nI sh := ex_24.trans (hV11)
            refine lv_lload hx hb dX5_shot_94 (lv_at hl 0 rfl) ?_
            refine va_last hx hb hK hP hD hS 19 2 rfl rfl (vp_in_nI (n := sh) (N := 12) (by omega) (by decide)) dX5_shot_96 (fun H locs hP hD hS => ?_)
            obtain ⟨G_25, eG_25⟩ : ∃ z : Nat → Int64, z = vp_updL G (nI sh).toNatClampNeg z_3 := ⟨_, rfl⟩
            have hP : va_P (dC, dI) vwCl (wM cI cZ cJ h F G_25 (va_up V 0 0)) H := by rw [eG_25]; exact hP
            have hD : va_D A (wM cI cZ cJ h F G_25 (va_up V 0 0)) := by rw [eG_25]; exact hD
            refine lv_aload_n hx hb dX5_shot_97 rfl (lv_at hl 1 rfl) ?_
            refine va_get (D := (dC, dI)) (ci := 5) (v := .ref (h 20)) (C := RX5) (T := TX5) (N := 33) hx hb hts hin_X5 hown hK hP 0 rfl rfl 30 (by decide) hw7 (fun _ h9 => h9) rfl dX5_shot_98 ?_
            refine lv_aload_n hx hb dX5_shot_101 rfl (lv_at hl 1 rfl) ?_
            refine va_get (D := (dC, dI)) (ci := 5) (v := .int (V 11)) (C := RX5) (T := TX5) (N := 33) hx hb hts hin_X5 hown hK hP 0 rfl rfl 31 (by decide) hw5 (fun _ h9 => h9) rfl dX5_shot_102 ?_
            refine lv_topi (fun x_26 ex_26 => ?_)
            obtain rfl : x_26 = nI sh := ex_26.trans (hV11)
            refine lv_iload_n hx hb dX5_shot_105 rfl (lv_at hl 4 rfl) ?_
            refine va_iast hx hb hK hP hD hS 20 0 rfl rfl (vp_in_nI (n := sh) (N := 12) (by omega) (by decide)) dX5_shot_106 (fun H locs hP hD hS => ?_)
            obtain ⟨F_27, eF_27⟩ : ∃ z : Nat → Nat → Int32, z = va_up F 20 (upd (F 20) (nI sh).toNatClampNeg p2) := ⟨_, rfl⟩
            have hP : va_P (dC, dI) vwCl (wM cI cZ cJ h F_27 G_25 (va_up V 0 0)) H := by rw [eF_27]; exact hP
            have hD : va_D A (wM cI cZ cJ h F_27 G_25 (va_up V 0 0)) := by rw [eF_27]; exact hD
            have hN_28 : ∀ i, i < 40 → F_27 3 i = nI (So i) := by rw [eF_27]; exact hSo
            have hN_29 : ∀ i, i < 4 → F_27 4 i = nI (Lm i) := by rw [eF_27]; exact hLm
            have hN_30 : ∀ i, i < 24 → F_27 7 i = nI (Hh i) := by rw [eF_27]; exact hHh
            have hN_31 : ∀ i, i < 24 → F_27 8 i = nI (Wd i) := by rw [eF_27]; exact hWd
            have hN_32 : ∀ i, i < 24 → F_27 9 i = nI (Pr i) := by rw [eF_27]; exact hPr
            refine lv_aload_n hx hb dX5_shot_107 rfl (lv_at hl 1 rfl) ?_
            refine lv_dup hx hb dX5_shot_108 rfl ?_
            refine va_get (D := (dC, dI)) (ci := 5) (v := .int (V 11)) (C := RX5) (T := TX5) (N := 33) hx hb hts hin_X5 hown hK hP 0 rfl rfl 31 (by decide) hw5 (fun _ h9 => h9) rfl dX5_shot_109 ?_
            refine lv_topi (fun x_33 ex_33 => ?_)
            obtain rfl : x_33 = nI sh := ex_33.trans (hV11)
            refine lv_iconst (v := 1) hx hb dX5_shot_112 (by decide) ?_
            refine lv_iadd hx hb dX5_shot_113 ?_
            refine lv_topi (fun x_34 ex_34 => ?_)
            obtain rfl : x_34 = nI (sh + 1) := ex_34.trans (nI_add sh 1)
            refine va_put (D := (dC, dI)) (ci := 5) (v := .int (nI (sh + 1))) (ty := .int) (C := RX5) (T := TX5) (N := 33) hx hb hts hin_X5 tyX5 tyX5_ok nmX5 hown hK hP hD hS 0 rfl rfl 31 (by decide) hw5 (fun _ h9 => h9) rfl (by decide +kernel) rfl rfl (Nat.le_of_ble_eq_true rfl) dX5_shot_114 (fun H locs hP hD hS => ?_)
            have hP : va_P (dC, dI) vwCl (wM cI cZ cJ h F_27 G_25 (va_up (va_up V 0 0) 11 (nI (sh + 1)))) H := hP
            have hD : va_D A (wM cI cZ cJ h F_27 G_25 (va_up (va_up V 0 0) 11 (nI (sh + 1)))) := hD
            refine lv_aload_n hx hb dX5_shot_117 rfl (lv_at hl 1 rfl) ?_
            refine lv_aload_n hx hb dX5_shot_118 rfl (lv_at hl 1 rfl) ?_
            refine va_get (D := (dC, dI)) (ci := 5) (v := .int (nI (sh + 1))) (C := RX5) (T := TX5) (N := 33) hx hb hts hin_X5 hown hK hP 0 rfl rfl 31 (by decide) hw5 (fun _ h9 => h9) rfl dX5_shot_119 ?_
            refine lv_iconst (v := 1) hx hb dX5_shot_122 (by decide) ?_
            refine lv_isub hx hb dX5_shot_123 ?_
            refine lv_topi (fun x_35 ex_35 => ?_)
            obtain rfl : x_35 = nI ((sh + 1) - 1) := ex_35.trans (pk_sub (a := sh + 1) (b := 1) (by omega))
            refine cw_Vi (As := [.int (nI ((sh + 1) - 1))]) (rest := []) (c_X5_done l dC dI cI cZ cJ h F_27 G_25 (va_up (va_up V 0 0) 11 (nI (sh + 1))) (nI ((sh + 1) - 1))) fx (cwV 1 hts gX5_shot_X5_done rfl rfl rfl (by decide +kernel) ⟨Nat.le_of_ble_eq_true rfl, Nat.le_of_ble_eq_true rfl⟩) hK hP hD hS hA 0 rfl rfl rfl rfl hl.1 rfl (Nat.le_of_ble_eq_true rfl) dX5_shot_124 ⟨Nat.le_of_ble_eq_true rfl, Nat.le_of_ble_eq_true rfl⟩ (fun r_36 u_37 H locs hw_38 hP hD hS => ?_)
            have hP : va_P (dC, dI) vwCl (wM cI cZ cJ h F_27 G_25 (va_up (va_up (va_up V 0 0) 11 (nI (sh + 1))) 1 0)) H := hP
            have hD : va_D A (wM cI cZ cJ h F_27 G_25 (va_up (va_up (va_up V 0 0) 11 (nI (sh + 1))) 1 0)) := hD
            obtain rfl : r_36 = nI ((sh + 1) - 1) := hw_38
            exact hret (nI ((sh + 1) - 1)) (F_27, G_25, va_up (va_up (va_up V 0 0) 11 (nI (sh + 1))) 1 0) H locs 127 ls rfl dX5_shot_127 (⟨trivial, ⟨n, nw, un, d, wm, pf, (sh + 1), am, So, Lm, Hh, Wd, Pr, ⟨hV2, by omega⟩, ⟨hV3, by omega⟩, ⟨hV4, by omega⟩, ⟨hV6, by omega⟩, ⟨hV7, by omega⟩, ⟨hV10, by omega⟩, ⟨rfl, by omega⟩, ⟨hV8, by omega⟩, ⟨hN_28, bSo⟩, ⟨hN_29, bLm⟩, ⟨hN_30, bHh⟩, ⟨hN_31, bWd⟩, ⟨hN_32, bPr⟩⟩⟩) (hP) (hD) hS
          · have c_23 : sh = 12 := (nI_eq (a := sh) (b := 12) (by omega) (by omega)).mp c_23
            refine lv_aload_n hx hb dX5_shot_80 rfl (lv_at hl 1 rfl) ?_
            refine lv_iconst (v := 3) hx hb dX5_shot_81 (by decide) ?_
            refine cw_Vi (As := [.int 3]) (rest := []) (c_X5_refused l dC dI cI cZ cJ h F G (va_up V 0 0) 3) fx (cwV 1 hts gX5_shot_X5_refused rfl rfl rfl (by decide +kernel) ⟨Nat.le_of_ble_eq_true rfl, Nat.le_of_ble_eq_true rfl⟩) hK hP hD hS hA 0 rfl rfl rfl rfl hl.1 rfl (Nat.le_of_ble_eq_true rfl) dX5_shot_82 ⟨Nat.le_of_ble_eq_true rfl, Nat.le_of_ble_eq_true rfl⟩ (fun r_39 u_40 H locs hw_41 hP hD hS => ?_)
            have hP : va_P (dC, dI) vwCl (wM cI cZ cJ h F G (va_up (va_up V 0 0) 1 3)) H := hP
            have hD : va_D A (wM cI cZ cJ h F G (va_up (va_up V 0 0) 1 3)) := hD
            obtain rfl : r_39 = (-1) := hw_41
            exact hret (-1) (F, G, va_up (va_up V 0 0) 1 3) H locs 85 ls rfl dX5_shot_85 (⟨trivial, ⟨n, nw, un, d, wm, pf, sh, am, So, Lm, Hh, Wd, Pr, ⟨hV2, by omega⟩, ⟨hV3, by omega⟩, ⟨hV4, by omega⟩, ⟨hV6, by omega⟩, ⟨hV7, by omega⟩, ⟨hV10, by omega⟩, ⟨hV11, by omega⟩, ⟨hV8, by omega⟩, ⟨hSo, bSo⟩, ⟨hLm, bLm⟩, ⟨hHh, bHh⟩, ⟨hWd, bWd⟩, ⟨hPr, bPr⟩⟩⟩) (hP) (hD) hS
        · have c_21 : eqI (lg_cmp z_20 0) 0 = false := decide_eq_false c_21
          refine lv_aload_n hx hb dX5_shot_65 rfl (lv_at hl 1 rfl) ?_
          refine lv_iconst (v := 4) hx hb dX5_shot_66 (by decide) ?_
          refine cw_Vi (As := [.int 4]) (rest := []) (c_X5_refused l dC dI cI cZ cJ h F G (va_up V 0 0) 4) fx (cwV 1 hts gX5_shot_X5_refused rfl rfl rfl (by decide +kernel) ⟨Nat.le_of_ble_eq_true rfl, Nat.le_of_ble_eq_true rfl⟩) hK hP hD hS hA 0 rfl rfl rfl rfl hl.1 rfl (Nat.le_of_ble_eq_true rfl) dX5_shot_67 ⟨Nat.le_of_ble_eq_true rfl, Nat.le_of_ble_eq_true rfl⟩ (fun r_42 u_43 H locs hw_44 hP hD hS => ?_)
          have hP : va_P (dC, dI) vwCl (wM cI cZ cJ h F G (va_up (va_up V 0 0) 1 4)) H := hP
          have hD : va_D A (wM cI cZ cJ h F G (va_up (va_up V 0 0) 1 4)) := hD
          obtain rfl : r_42 = (-1) := hw_44
          exact hret (-1) (F, G, va_up (va_up V 0 0) 1 4) H locs 70 ls rfl dX5_shot_70 (⟨trivial, ⟨n, nw, un, d, wm, pf, sh, am, So, Lm, Hh, Wd, Pr, ⟨hV2, by omega⟩, ⟨hV3, by omega⟩, ⟨hV4, by omega⟩, ⟨hV6, by omega⟩, ⟨hV7, by omega⟩, ⟨hV10, by omega⟩, ⟨hV11, by omega⟩, ⟨hV8, by omega⟩, ⟨hSo, bSo⟩, ⟨hLm, bLm⟩, ⟨hHh, bHh⟩, ⟨hWd, bWd⟩, ⟨hPr, bPr⟩⟩⟩) (hP) (hD) hS
    · have c_11 : ltI r_8 p2 = true := decide_eq_true (Int32.not_le.mp c_11)
      refine lv_aload_n hx hb dX5_shot_32 rfl (lv_at hl 1 rfl) ?_
      refine lv_iconst (v := 2) hx hb dX5_shot_33 (by decide) ?_
      refine cw_Vi (As := [.int 2]) (rest := []) (c_X5_refused l dC dI cI cZ cJ h F G (va_up V 0 0) 2) fx (cwV 1 hts gX5_shot_X5_refused rfl rfl rfl (by decide +kernel) ⟨Nat.le_of_ble_eq_true rfl, Nat.le_of_ble_eq_true rfl⟩) hK hP hD hS hA 0 rfl rfl rfl rfl hl.1 rfl (Nat.le_of_ble_eq_true rfl) dX5_shot_34 ⟨Nat.le_of_ble_eq_true rfl, Nat.le_of_ble_eq_true rfl⟩ (fun r_45 u_46 H locs hw_47 hP hD hS => ?_)
      have hP : va_P (dC, dI) vwCl (wM cI cZ cJ h F G (va_up (va_up V 0 0) 1 2)) H := hP
      have hD : va_D A (wM cI cZ cJ h F G (va_up (va_up V 0 0) 1 2)) := hD
      obtain rfl : r_45 = (-1) := hw_47
      exact hret (-1) (F, G, va_up (va_up V 0 0) 1 2) H locs 37 ls rfl dX5_shot_37 (⟨trivial, ⟨n, nw, un, d, wm, pf, sh, am, So, Lm, Hh, Wd, Pr, ⟨hV2, by omega⟩, ⟨hV3, by omega⟩, ⟨hV4, by omega⟩, ⟨hV6, by omega⟩, ⟨hV7, by omega⟩, ⟨hV10, by omega⟩, ⟨hV11, by omega⟩, ⟨hV8, by omega⟩, ⟨hSo, bSo⟩, ⟨hLm, bLm⟩, ⟨hHh, bHh⟩, ⟨hWd, bWd⟩, ⟨hPr, bPr⟩⟩⟩) (hP) (hD) hS
