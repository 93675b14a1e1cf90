def rm_X5_aim : Room := { frames := 4, cells := 0, slots := 0, locals := 104 }
set_option maxHeartbeats 4000000 in
set_option maxRecDepth 100000 in
theorem c_X5_aim (l : Launch) (dC : Nat → ClassId) (dI : Nat → Nat → Nat) (cI cZ cJ : ClassId) (h : Nat → Nat) (F : Nat → Nat → Int32) (G : Nat → Int64) (V : Nat → Int32) (n : Nat) (hV2 : V 2 = nI n) (bV2 : n ≤ 40) (nw : Nat) (hV3 : V 3 = nI nw) (bV3 : nw ≤ 23) (un : Nat) (hV4 : V 4 = nI un) (bV4 : un ≤ 200) (d : Nat) (hV6 : V 6 = nI d) (bV6 : d ≤ 20) (wm : Nat) (hV7 : V 7 = nI wm) (bV7 : wm ≤ 1) (pf : Nat) (hV10 : V 10 = nI pf) (bV10 : pf ≤ 24) (sh : Nat) (hV11 : V 11 = nI sh) (bV11 : sh ≤ 12) (So : Nat → Nat) (hSo : ∀ i, i < 40 → F 3 i = nI (So i)) (bSo : ∀ i, i < 40 → So i ≤ 90) (Lm : Nat → Nat) (hLm : ∀ i, i < 4 → F 4 i = nI (Lm i)) (bLm : ∀ i, i < 4 → Lm i ≤ 10000) (Hh : Nat → Nat) (hHh : ∀ i, i < 24 → F 7 i = nI (Hh i)) (bHh : ∀ i, i < 24 → Hh i ≤ 9) (Wd : Nat → Nat) (hWd : ∀ i, i < 24 → F 8 i = nI (Wd i)) (bWd : ∀ i, i < 24 → Wd i ≤ 99) (Pr : Nat → Nat) (hPr : ∀ i, i < 24 → F 9 i = nI (Pr i)) (bPr : ∀ i, i < 24 → Pr i ≤ 999) (X : Nat → Nat) (hX : ∀ i, i < n → F 1 i = nI (X i)) (bX : ∀ i, i < n → X i ≤ 14) (Y : Nat → Nat) (hY : ∀ i, i < n → F 2 i = nI (Y i)) (bY : ∀ i, i < n → Y i ≤ 14) (p0 : Int32)  (ks am : Nat) (hV8 : V 8 = nI am - 1) (bam : am ≤ 41) (hks : am - 1 = ks) (SX SY Kc Kp : Nat → Int32) (er : Int32) (rb : Nat → Bool) (hGP : GP n X Y) (hSX : ∀ i, i < 24 → F 5 i = SX i) (hSY : ∀ i, i < 24 → F 6 i = SY i) (hKc : ∀ i, i < ks → F 13 i = Kc i) (hKp : ∀ i, i < 4 → F 15 i = Kp i) (hE : V 5 = er) (hRB : ∀ t, pf ≤ t → t < 24 → F 17 t = bI (rb t)) : CtI l (dC, dI) vwCl (tys3 cI cZ cJ) yX5_aim wsX5_aim rm_X5_aim [.ref (h 0), .int p0] (wM cI cZ cJ h F G V) (S := (Nat → Nat → Int32) × (Nat → Int64) × (Nat → Int32)) (fun r u => (r = (bif isW p0 0 23 then nI (htA (pwA X Y n SX SY Hh So Wd p0.toNatClampNeg 0) Lm n) else (-1))) ∧ VM n d (bif isW p0 0 23 then n else ks) nw un wm pf So Hh Wd Lm Pr X Y SX SY (bif isW p0 0 23 then cA (pwA X Y n SX SY Hh So Wd p0.toNatClampNeg 0) Lm n else Kc) (bif isW p0 0 23 then (fun i => nI (Lm i - lA (pwA X Y n SX SY Hh So Wd p0.toNatClampNeg 0) Lm n i)) else Kp) er rb u.1 u.2.2) (fun u => wM cI cZ cJ h u.1 u.2.1 u.2.2) 0 0 := by
  refine ct_I (cc := cX5_aim) (maxL := 4) (ty := .int) (own := RX5) (by decide) rfl rfl (Nat.le_of_ble_eq_true rfl) (lv := [(0, .ref (h 0)), (1, .int p0)]) rfl ?_
  intro p e s m args below meth c A Q ls fx hK hP hD hA hl hret
  obtain ⟨hx, hb, hml, hown, hts⟩ := id fx
  have hS : va_S A s.heap s.heap [] := va_S.rf
  have hw0 := hts (.fieldLink RX5 1 "MirrorTowerModel" "thrown" "I") (by decide +kernel)
  have hin_X5 : ∀ w ∈ u_ws RX5 TX5 33, w ∈ wsX5_aim := by decide +kernel
  have hw2 := hts (.fieldLink RX5 91 "MirrorTowerModel" "mirrors" "I") (by decide +kernel)
  have hw3 := hts (.fieldLink RX5 65 "MirrorTowerModel" "aimedMirrors" "I") (by decide +kernel)
  have hw4 := hts (.fieldLink RX5 62 "MirrorTowerModel" "atFace" "[I") (by decide +kernel)
  have hw5 := hts (.fieldLink RX5 29 "MirrorTowerModel" "limit" "[I") (by decide +kernel)
  have hw6 := hts (.fieldLink RX5 53 "MirrorTowerModel" "left" "[I") (by decide +kernel)
  have hw7 := hts (.fieldLink RX5 56 "MirrorTowerModel" "aimed" "[I") (by decide +kernel)
  have hw8 := hts (.fieldLink RX5 59 "MirrorTowerModel" "at" "[I") (by decide +kernel)
  obtain ⟨H, hH⟩ : ∃ H, H = s.heap := ⟨_, rfl⟩
  rw [← hH] at hP ⊢
  have hS : va_S A s.heap H [] := by rw [hH]; exact hS
  generalize ([] : List Loc) = locs at hS ⊢
  refine lv_aload_n hx hb dX5_aim_0 rfl (lv_at hl 0 rfl) ?_
  refine lv_iconst (v := 0) hx hb dX5_aim_1 (by decide) ?_
  refine va_put (D := (dC, dI)) (ci := 5) (v := .int 0) (ty := .int) (C := RX5) (T := TX5) (N := 33) hx hb hts hin_X5 tyX5 tyX5_ok nmX5 hown hK hP hD hS 0 rfl rfl 0 (by decide) hw0 (fun _ h9 => h9) rfl (by decide +kernel) rfl rfl (Nat.le_of_ble_eq_true rfl) dX5_aim_2 (fun H locs hP hD hS => ?_)
  have hP : va_P (dC, dI) vwCl (wM cI cZ cJ h F G (va_up V 0 0)) H := hP
  have hD : va_D A (wM cI cZ cJ h F G (va_up V 0 0)) := hD
  refine lv_iload_n hx hb dX5_aim_5 rfl (lv_at hl 1 rfl) ?_
  refine cw_Si (As := [.int p0]) (rest := []) (c_X5_isHour l dC dI cI cZ cJ (wM cI cZ cJ h F G (va_up V 0 0)) p0) fx (va_cwS 1 hts gX5_aim_X5_isHour rfl rfl rfl (by decide +kernel) ⟨Nat.le_of_ble_eq_true rfl, Nat.le_of_ble_eq_true rfl⟩) hK hP hD hS hA rfl hl.1 rfl (Nat.le_of_ble_eq_true rfl) dX5_aim_6 ⟨Nat.le_of_ble_eq_true rfl, Nat.le_of_ble_eq_true rfl⟩ (fun r_1 u_2 H locs hw_3 hP hD hS => ?_)
  have hP : va_P (dC, dI) vwCl (wM cI cZ cJ h F G (va_up V 0 0)) H := hP
  have hD : va_D A (wM cI cZ cJ h F G (va_up V 0 0)) := hD
  have hw_3 : r_1 = bI (isW p0 0 23) := hw_3
  refine lv_if_ne (tgt := 18) hx hb dX5_aim_9 (by decide) (fun c_4 => ?_) (fun c_4 => ?_)
  · have c_4 : isW p0 0 23 = true := bI_t hw_3 c_4
    refine lv_aload_n hx hb dX5_aim_18 rfl (lv_at hl 0 rfl) ?_
    refine lv_iload_n hx hb dX5_aim_19 rfl (lv_at hl 1 rfl) ?_
    refine lv_iconst (v := 0) hx hb dX5_aim_20 (by decide) ?_
    obtain ⟨k0, hk0, rfl⟩ := isW_nat (M := 23) (n := 23) (by decide) c_4
    refine cw_Vi (As := [.int (nI k0), .int 0]) (rest := []) (c_X5_aims l dC dI cI cZ cJ h F G (va_up V 0 0) n hV2 (by omega) So hSo bSo Hh hHh bHh Wd hWd bWd Lm hLm bLm X hX bX Y hY bY k0 0 (by omega) (by omega) SX SY (fun i hi => (congrFun (Eq.refl (F 5)) i).trans (hSX i hi)) (fun i hi => (congrFun (Eq.refl (F 6)) i).trans (hSY i hi)) hGP) fx (cwV 2 hts gX5_aim_X5_aims rfl rfl rfl (by decide +kernel) ⟨Nat.le_of_ble_eq_true rfl, Nat.le_of_ble_eq_true rfl⟩) hK hP hD hS hA 0 rfl rfl rfl rfl hl.1 rfl (Nat.le_of_ble_eq_true rfl) dX5_aim_21 ⟨Nat.le_of_ble_eq_true rfl, Nat.le_of_ble_eq_true rfl⟩ (fun r_5 u_6 H locs hw_7 hP hD hS => ?_)
    obtain ⟨F_8, rfl⟩ : ∃ z, z = u_6 := ⟨_, rfl⟩
    have hf_9 : ∀ j, j ∉ ([10, 11, 12, 14] : List Nat) → F_8 j = F j := hw_7.2.1
    have hP : va_P (dC, dI) vwCl (wM cI cZ cJ h F_8 G (va_up V 0 0)) H := hP
    have hD : va_D A (wM cI cZ cJ h F_8 G (va_up V 0 0)) := hD
    have hN_10 : ∀ i, i < 40 → F_8 3 i = nI (So i) := by rw [hf_9 3 (by decide)]; exact hSo
    have hN_11 : ∀ i, i < 4 → F_8 4 i = nI (Lm i) := by rw [hf_9 4 (by decide)]; exact hLm
    have hN_12 : ∀ i, i < 24 → F_8 7 i = nI (Hh i) := by rw [hf_9 7 (by decide)]; exact hHh
    have hN_13 : ∀ i, i < 24 → F_8 8 i = nI (Wd i) := by rw [hf_9 8 (by decide)]; exact hWd
    have hN_14 : ∀ i, i < 24 → F_8 9 i = nI (Pr i) := by rw [hf_9 9 (by decide)]; exact hPr
    have hN_15 : ∀ i, i < n → F_8 1 i = nI (X i) := by rw [hf_9 1 (by decide)]; exact hX
    have hN_16 : ∀ i, i < n → F_8 2 i = nI (Y i) := by rw [hf_9 2 (by decide)]; exact hY
    have hb_17 : htA (pwA X Y n SX SY Hh So Wd k0 0) Lm n ≤ 4000 := hA_le bV2 (fun i _ => pwA_le (bHh k0 (by omega)))
    have hN_18 : ∀ i, i < 4 → F_8 12 i = nI ((lA (pwA X Y n SX SY Hh So Wd k0 0) Lm n) i) := (hw_7.2.2).1
    have bN_19 : ∀ i, i < 4 → (lA (pwA X Y n SX SY Hh So Wd k0 0) Lm n) i ≤ 10000 := (hw_7.2.2).2.1
    have hC_20 : ∀ i, i < n → F_8 14 i = cA (pwA X Y n SX SY Hh So Wd k0 0) Lm n i := (hw_7.2.2).2.2
    obtain rfl : r_5 = nI (htA (pwA X Y n SX SY Hh So Wd k0 0) Lm n) := hw_7.1
    refine lv_istore_n (lv' := [(2, .int (nI (htA (pwA X Y n SX SY Hh So Wd k0 0) Lm n))), (0, .ref (h 0)), (1, .int (nI k0))]) hx hb dX5_aim_24 rfl hl (by decide) rfl (fun ls hl => ?_)
    refine lv_aload_n hx hb dX5_aim_25 rfl (lv_at hl 1 rfl) ?_
    refine lv_aload_n hx hb dX5_aim_26 rfl (lv_at hl 1 rfl) ?_
    refine va_get (D := (dC, dI)) (ci := 5) (v := .int (V 2)) (C := RX5) (T := TX5) (N := 33) hx hb hts hin_X5 hown hK hP 0 rfl rfl 2 (by decide) hw2 (fun _ h9 => h9) rfl dX5_aim_27 ?_
    refine lv_topi (fun x_21 ex_21 => ?_)
    obtain rfl : x_21 = nI n := ex_21.trans (hV2)
    refine va_put (D := (dC, dI)) (ci := 5) (v := .int (nI n)) (ty := .int) (C := RX5) (T := TX5) (N := 33) hx hb hts hin_X5 tyX5 tyX5_ok nmX5 hown hK hP hD hS 0 rfl rfl 23 (by decide) hw3 (fun _ h9 => h9) rfl (by decide +kernel) rfl rfl (Nat.le_of_ble_eq_true rfl) dX5_aim_30 (fun H locs hP hD hS => ?_)
    have hP : va_P (dC, dI) vwCl (wM cI cZ cJ h F_8 G (va_up (va_up V 0 0) 8 (nI n))) H := hP
    have hD : va_D A (wM cI cZ cJ h F_8 G (va_up (va_up V 0 0) 8 (nI n))) := hD
    refine lv_iconst (v := 0) hx hb dX5_aim_33 (by decide) ?_
    refine lv_istore_n (lv' := [(3, .int 0), (2, .int (nI (htA (pwA X Y n SX SY Hh So Wd k0 0) Lm n))), (0, .ref (h 0)), (1, .int (nI k0))]) hx hb dX5_aim_34 rfl hl (by decide) rfl (fun ls hl => ?_)
    have loop35 : ∀ (fu : Nat) (k : Nat) (F1 : Nat → Nat → Int32), (k ≤ n) → (∀ i, i < k → F1 13 i = cA (pwA X Y n SX SY Hh So Wd k0 0) Lm n i) → (∀ j, j ∉ ([13] : List Nat) → F1 j = F_8 j) → (n - k) < fu → ∀ (H : Heap) (locs : List Loc) (ls : Array Slot), va_P (dC, dI) vwCl (wM cI cZ cJ h F1 G (va_up (va_up V 0 0) 8 (nI n))) H → va_D A (wM cI cZ cJ h F1 G (va_up (va_up V 0 0) 8 (nI n))) → va_S A s.heap H locs → lv_has ls 4 [(0, .ref (h 0)), (1, .int (nI k0)), (2, .int (nI (htA (pwA X Y n SX SY Hh So Wd k0 0) Lm n))), (3, .int (nI k))] → W p l e rm_X5_aim s m args below meth c H locs 0 0 Q (F0 m 35 ls []) := by
      intro fu
      induction fu with
      | zero => intro k F1 hk h13 hfr hn_; exact absurd hn_ (Nat.not_lt_zero _)
      | succ fu ih35 =>
        intro k F1 hk h13 hfr hn_ H locs ls hP hD hS hl
        have hN_22 : ∀ i, i < 40 → F1 3 i = nI (So i) := by rw [hfr 3 (by decide)]; exact hN_10
        have hN_23 : ∀ i, i < 4 → F1 4 i = nI (Lm i) := by rw [hfr 4 (by decide)]; exact hN_11
        have hN_24 : ∀ i, i < 24 → F1 7 i = nI (Hh i) := by rw [hfr 7 (by decide)]; exact hN_12
        have hN_25 : ∀ i, i < 24 → F1 8 i = nI (Wd i) := by rw [hfr 8 (by decide)]; exact hN_13
        have hN_26 : ∀ i, i < 24 → F1 9 i = nI (Pr i) := by rw [hfr 9 (by decide)]; exact hN_14
        have hN_27 : ∀ i, i < n → F1 1 i = nI (X i) := by rw [hfr 1 (by decide)]; exact hN_15
        have hN_28 : ∀ i, i < n → F1 2 i = nI (Y i) := by rw [hfr 2 (by decide)]; exact hN_16
        have hN_29 : ∀ i, i < 4 → F1 12 i = nI ((lA (pwA X Y n SX SY Hh So Wd k0 0) Lm n) i) := by rw [hfr 12 (by decide)]; exact hN_18
        have hfrA : ∀ j, j ∉ ([10, 11, 12, 13, 14] : List Nat) → F1 j = F j := fun j hj => (hfr j (fun z => hj ((by decide : ∀ x ∈ ([13] : List Nat), x ∈ ([10, 11, 12, 13, 14] : List Nat)) j z))).trans (hf_9 j (fun z => hj ((by decide : ∀ x ∈ ([10, 11, 12, 14] : List Nat), x ∈ ([10, 11, 12, 13, 14] : List Nat)) j z)))
        refine lv_iload_n hx hb dX5_aim_35 rfl (lv_at hl 3 rfl) ?_
        refine lv_aload_n hx hb dX5_aim_36 rfl (lv_at hl 0 rfl) ?_
        refine va_get (D := (dC, dI)) (ci := 5) (v := .int (V 2)) (C := RX5) (T := TX5) (N := 33) hx hb hts hin_X5 hown hK hP 0 rfl rfl 2 (by decide) hw2 (fun _ h9 => h9) rfl dX5_aim_37 ?_
        refine lv_topi (fun x_30 ex_30 => ?_)
        obtain rfl : x_30 = nI n := ex_30.trans (hV2)
        refine lv_icmp_ge (tgt := 61) hx hb dX5_aim_40 (by decide) (fun c_31 => ?_) (fun c_31 => ?_)
        · have c_31 : n ≤ k := (nI_leI (a := n) (b := k) (by omega) (by omega)).mp c_31
          have hle0_ : (lA (pwA X Y n SX SY Hh So Wd k0 0) Lm n) 0 ≤ Lm 0 := lA_le _ _ _ _
          have hle1_ : (lA (pwA X Y n SX SY Hh So Wd k0 0) Lm n) 1 ≤ Lm 1 := lA_le _ _ _ _
          have hle2_ : (lA (pwA X Y n SX SY Hh So Wd k0 0) Lm n) 2 ≤ Lm 2 := lA_le _ _ _ _
          have hle3_ : (lA (pwA X Y n SX SY Hh So Wd k0 0) Lm n) 3 ≤ Lm 3 := lA_le _ _ _ _
          refine lv_iconst (v := 0) hx hb dX5_aim_61 (by decide) ?_
          refine lv_istore_n (lv' := [(3, .int 0), (0, .ref (h 0)), (1, .int (nI k0)), (2, .int (nI (htA (pwA X Y n SX SY Hh So Wd k0 0) Lm n)))]) hx hb dX5_aim_62 rfl hl (by decide) rfl (fun ls hl => ?_)
          refine lv_iload_n hx hb dX5_aim_63 rfl (lv_at hl 0 rfl) ?_
          refine lv_iconst (v := 4) hx hb dX5_aim_64 (by decide) ?_
          refine lv_icmp_ge (tgt := 93) hx hb dX5_aim_65 (by decide) (fun c_32 => ?_) (fun c_32 => ?_)
          · exact absurd c_32 (by decide)
          · refine lv_aload_n hx hb dX5_aim_68 rfl (lv_at hl 1 rfl) ?_
            refine va_get (D := (dC, dI)) (ci := 5) (v := .ref (h 15)) (C := RX5) (T := TX5) (N := 33) hx hb hts hin_X5 hown hK hP 0 rfl rfl 22 (by decide) hw4 (fun _ h9 => h9) rfl dX5_aim_69 ?_
            refine lv_iload_n hx hb dX5_aim_72 rfl (lv_at hl 0 rfl) ?_
            refine lv_aload_n hx hb dX5_aim_73 rfl (lv_at hl 1 rfl) ?_
            refine va_get (D := (dC, dI)) (ci := 5) (v := .ref (h 4)) (C := RX5) (T := TX5) (N := 33) hx hb hts hin_X5 hown hK hP 0 rfl rfl 11 (by decide) hw5 (fun _ h9 => h9) rfl dX5_aim_74 ?_
            refine lv_iload_n hx hb dX5_aim_77 rfl (lv_at hl 0 rfl) ?_
            refine va_iald hx hb hK hP 4 0 rfl rfl (vp_in_nI (n := 0) (N := 4) (by decide) (by decide)) dX5_aim_78 ?_
            have hb_33 := bLm 0 (by omega)
            refine lv_topi (fun x_34 ex_34 => ?_)
            obtain rfl : x_34 = nI (Lm 0) := ex_34.trans ((congrArg (F1 4) (by decide : (0 : Int32).toNatClampNeg = 0)).trans (hN_23 0 (by omega)))
            refine lv_aload_n hx hb dX5_aim_79 rfl (lv_at hl 1 rfl) ?_
            refine va_get (D := (dC, dI)) (ci := 5) (v := .ref (h 12)) (C := RX5) (T := TX5) (N := 33) hx hb hts hin_X5 hown hK hP 0 rfl rfl 19 (by decide) hw6 (fun _ h9 => h9) rfl dX5_aim_80 ?_
            refine lv_iload_n hx hb dX5_aim_83 rfl (lv_at hl 0 rfl) ?_
            refine va_iald hx hb hK hP 12 0 rfl rfl (vp_in_nI (n := 0) (N := 4) (by decide) (by decide)) dX5_aim_84 ?_
            have hb_35 := bN_19 0 (by omega)
            try dsimp only at hb_35
            refine lv_topi (fun x_36 ex_36 => ?_)
            obtain rfl : x_36 = nI ((lA (pwA X Y n SX SY Hh So Wd k0 0) Lm n) 0) := ex_36.trans ((congrArg (F1 12) (by decide : (0 : Int32).toNatClampNeg = 0)).trans (hN_29 0 (by omega)))
            refine lv_isub hx hb dX5_aim_85 ?_
            refine lv_topi (fun x_37 ex_37 => ?_)
            obtain rfl : x_37 = nI ((Lm 0) - ((lA (pwA X Y n SX SY Hh So Wd k0 0) Lm n) 0)) := ex_37.trans (pk_sub (a := Lm 0) (b := (lA (pwA X Y n SX SY Hh So Wd k0 0) Lm n) 0) (by omega))
            refine va_iast hx hb hK hP hD hS 15 0 rfl rfl (vp_in_nI (n := 0) (N := 4) (by decide) (by decide)) dX5_aim_86 (fun H locs hP hD hS => ?_)
            obtain ⟨F_38, eF_38⟩ : ∃ z : Nat → Nat → Int32, z = va_up F1 15 (upd (F1 15) (0 : Int32).toNatClampNeg (nI ((Lm 0) - ((lA (pwA X Y n SX SY Hh So Wd k0 0) Lm n) 0)))) := ⟨_, rfl⟩
            have hP : va_P (dC, dI) vwCl (wM cI cZ cJ h F_38 G (va_up (va_up V 0 0) 8 (nI n))) H := by rw [eF_38]; exact hP
            have hD : va_D A (wM cI cZ cJ h F_38 G (va_up (va_up V 0 0) 8 (nI n))) := by rw [eF_38]; exact hD
            have hN_39 : ∀ i, i < 40 → F_38 3 i = nI (So i) := by rw [eF_38]; exact hN_22
            have hN_40 : ∀ i, i < 4 → F_38 4 i = nI (Lm i) := by rw [eF_38]; exact hN_23
            have hN_41 : ∀ i, i < 24 → F_38 7 i = nI (Hh i) := by rw [eF_38]; exact hN_24
            have hN_42 : ∀ i, i < 24 → F_38 8 i = nI (Wd i) := by rw [eF_38]; exact hN_25
            have hN_43 : ∀ i, i < 24 → F_38 9 i = nI (Pr i) := by rw [eF_38]; exact hN_26
            have hN_44 : ∀ i, i < n → F_38 1 i = nI (X i) := by rw [eF_38]; exact hN_27
            have hN_45 : ∀ i, i < n → F_38 2 i = nI (Y i) := by rw [eF_38]; exact hN_28
            have hN_46 : ∀ i, i < 4 → F_38 12 i = nI ((lA (pwA X Y n SX SY Hh So Wd k0 0) Lm n) i) := by rw [eF_38]; exact hN_29
            refine lv_iinc (v := 1) (lv' := [(3, .int 1), (0, .ref (h 0)), (1, .int (nI k0)), (2, .int (nI (htA (pwA X Y n SX SY Hh So Wd k0 0) Lm n)))]) hx hb dX5_aim_87 hl (k := 0) rfl (by decide) (by decide) rfl (fun ls hl => ?_)
            refine lv_goto (tgt := 63) hx hb dX5_aim_90 (by decide) ?_
            refine lv_iload_n hx hb dX5_aim_63 rfl (lv_at hl 0 rfl) ?_
            refine lv_iconst (v := 4) hx hb dX5_aim_64 (by decide) ?_
            refine lv_icmp_ge (tgt := 93) hx hb dX5_aim_65 (by decide) (fun c_47 => ?_) (fun c_47 => ?_)
            · exact absurd c_47 (by decide)
            · refine lv_aload_n hx hb dX5_aim_68 rfl (lv_at hl 1 rfl) ?_
              refine va_get (D := (dC, dI)) (ci := 5) (v := .ref (h 15)) (C := RX5) (T := TX5) (N := 33) hx hb hts hin_X5 hown hK hP 0 rfl rfl 22 (by decide) hw4 (fun _ h9 => h9) rfl dX5_aim_69 ?_
              refine lv_iload_n hx hb dX5_aim_72 rfl (lv_at hl 0 rfl) ?_
              refine lv_aload_n hx hb dX5_aim_73 rfl (lv_at hl 1 rfl) ?_
              refine va_get (D := (dC, dI)) (ci := 5) (v := .ref (h 4)) (C := RX5) (T := TX5) (N := 33) hx hb hts hin_X5 hown hK hP 0 rfl rfl 11 (by decide) hw5 (fun _ h9 => h9) rfl dX5_aim_74 ?_
              refine lv_iload_n hx hb dX5_aim_77 rfl (lv_at hl 0 rfl) ?_
              refine va_iald hx hb hK hP 4 0 rfl rfl (vp_in_nI (n := 1) (N := 4) (by decide) (by decide)) dX5_aim_78 ?_
              have hb_48 := bLm 1 (by omega)
              refine lv_topi (fun x_49 ex_49 => ?_)
              obtain rfl : x_49 = nI (Lm 1) := ex_49.trans ((congrArg (F_38 4) (by decide : (1 : Int32).toNatClampNeg = 1)).trans (hN_40 1 (by omega)))
              refine lv_aload_n hx hb dX5_aim_79 rfl (lv_at hl 1 rfl) ?_
              refine va_get (D := (dC, dI)) (ci := 5) (v := .ref (h 12)) (C := RX5) (T := TX5) (N := 33) hx hb hts hin_X5 hown hK hP 0 rfl rfl 19 (by decide) hw6 (fun _ h9 => h9) rfl dX5_aim_80 ?_
              refine lv_iload_n hx hb dX5_aim_83 rfl (lv_at hl 0 rfl) ?_
              refine va_iald hx hb hK hP 12 0 rfl rfl (vp_in_nI (n := 1) (N := 4) (by decide) (by decide)) dX5_aim_84 ?_
              have hb_50 := bN_19 1 (by omega)
              try dsimp only at hb_50
              refine lv_topi (fun x_51 ex_51 => ?_)
              obtain rfl : x_51 = nI ((lA (pwA X Y n SX SY Hh So Wd k0 0) Lm n) 1) := ex_51.trans ((congrArg (F_38 12) (by decide : (1 : Int32).toNatClampNeg = 1)).trans (hN_46 1 (by omega)))
              refine lv_isub hx hb dX5_aim_85 ?_
              refine lv_topi (fun x_52 ex_52 => ?_)
              obtain rfl : x_52 = nI ((Lm 1) - ((lA (pwA X Y n SX SY Hh So Wd k0 0) Lm n) 1)) := ex_52.trans (pk_sub (a := Lm 1) (b := (lA (pwA X Y n SX SY Hh So Wd k0 0) Lm n) 1) (by omega))
              refine va_iast hx hb hK hP hD hS 15 0 rfl rfl (vp_in_nI (n := 1) (N := 4) (by decide) (by decide)) dX5_aim_86 (fun H locs hP hD hS => ?_)
              obtain ⟨F_53, eF_53⟩ : ∃ z : Nat → Nat → Int32, z = va_up F_38 15 (upd (F_38 15) (1 : Int32).toNatClampNeg (nI ((Lm 1) - ((lA (pwA X Y n SX SY Hh So Wd k0 0) Lm n) 1)))) := ⟨_, rfl⟩
              have hP : va_P (dC, dI) vwCl (wM cI cZ cJ h F_53 G (va_up (va_up V 0 0) 8 (nI n))) H := by rw [eF_53]; exact hP
              have hD : va_D A (wM cI cZ cJ h F_53 G (va_up (va_up V 0 0) 8 (nI n))) := by rw [eF_53]; exact hD
              have hN_54 : ∀ i, i < 40 → F_53 3 i = nI (So i) := by rw [eF_53]; exact hN_39
              have hN_55 : ∀ i, i < 4 → F_53 4 i = nI (Lm i) := by rw [eF_53]; exact hN_40
              have hN_56 : ∀ i, i < 24 → F_53 7 i = nI (Hh i) := by rw [eF_53]; exact hN_41
              have hN_57 : ∀ i, i < 24 → F_53 8 i = nI (Wd i) := by rw [eF_53]; exact hN_42
              have hN_58 : ∀ i, i < 24 → F_53 9 i = nI (Pr i) := by rw [eF_53]; exact hN_43
              have hN_59 : ∀ i, i < n → F_53 1 i = nI (X i) := by rw [eF_53]; exact hN_44
              have hN_60 : ∀ i, i < n → F_53 2 i = nI (Y i) := by rw [eF_53]; exact hN_45
              have hN_61 : ∀ i, i < 4 → F_53 12 i = nI ((lA (pwA X Y n SX SY Hh So Wd k0 0) Lm n) i) := by rw [eF_53]; exact hN_46
              refine lv_iinc (v := 2) (lv' := [(3, .int 2), (0, .ref (h 0)), (1, .int (nI k0)), (2, .int (nI (htA (pwA X Y n SX SY Hh So Wd k0 0) Lm n)))]) hx hb dX5_aim_87 hl (k := 0) rfl (by decide) (by decide) rfl (fun ls hl => ?_)
              refine lv_goto (tgt := 63) hx hb dX5_aim_90 (by decide) ?_
              refine lv_iload_n hx hb dX5_aim_63 rfl (lv_at hl 0 rfl) ?_
              refine lv_iconst (v := 4) hx hb dX5_aim_64 (by decide) ?_
              refine lv_icmp_ge (tgt := 93) hx hb dX5_aim_65 (by decide) (fun c_62 => ?_) (fun c_62 => ?_)
              · exact absurd c_62 (by decide)
              · refine lv_aload_n hx hb dX5_aim_68 rfl (lv_at hl 1 rfl) ?_
                refine va_get (D := (dC, dI)) (ci := 5) (v := .ref (h 15)) (C := RX5) (T := TX5) (N := 33) hx hb hts hin_X5 hown hK hP 0 rfl rfl 22 (by decide) hw4 (fun _ h9 => h9) rfl dX5_aim_69 ?_
                refine lv_iload_n hx hb dX5_aim_72 rfl (lv_at hl 0 rfl) ?_
                refine lv_aload_n hx hb dX5_aim_73 rfl (lv_at hl 1 rfl) ?_
                refine va_get (D := (dC, dI)) (ci := 5) (v := .ref (h 4)) (C := RX5) (T := TX5) (N := 33) hx hb hts hin_X5 hown hK hP 0 rfl rfl 11 (by decide) hw5 (fun _ h9 => h9) rfl dX5_aim_74 ?_
                refine lv_iload_n hx hb dX5_aim_77 rfl (lv_at hl 0 rfl) ?_
                refine va_iald hx hb hK hP 4 0 rfl rfl (vp_in_nI (n := 2) (N := 4) (by decide) (by decide)) dX5_aim_78 ?_
                have hb_63 := bLm 2 (by omega)
                refine lv_topi (fun x_64 ex_64 => ?_)
                obtain rfl : x_64 = nI (Lm 2) := ex_64.trans ((congrArg (F_53 4) (by decide : (2 : Int32).toNatClampNeg = 2)).trans (hN_55 2 (by omega)))
                refine lv_aload_n hx hb dX5_aim_79 rfl (lv_at hl 1 rfl) ?_
                refine va_get (D := (dC, dI)) (ci := 5) (v := .ref (h 12)) (C := RX5) (T := TX5) (N := 33) hx hb hts hin_X5 hown hK hP 0 rfl rfl 19 (by decide) hw6 (fun _ h9 => h9) rfl dX5_aim_80 ?_
                refine lv_iload_n hx hb dX5_aim_83 rfl (lv_at hl 0 rfl) ?_
                refine va_iald hx hb hK hP 12 0 rfl rfl (vp_in_nI (n := 2) (N := 4) (by decide) (by decide)) dX5_aim_84 ?_
                have hb_65 := bN_19 2 (by omega)
                try dsimp only at hb_65
                refine lv_topi (fun x_66 ex_66 => ?_)
                obtain rfl : x_66 = nI ((lA (pwA X Y n SX SY Hh So Wd k0 0) Lm n) 2) := ex_66.trans ((congrArg (F_53 12) (by decide : (2 : Int32).toNatClampNeg = 2)).trans (hN_61 2 (by omega)))
                refine lv_isub hx hb dX5_aim_85 ?_
                refine lv_topi (fun x_67 ex_67 => ?_)
                obtain rfl : x_67 = nI ((Lm 2) - ((lA (pwA X Y n SX SY Hh So Wd k0 0) Lm n) 2)) := ex_67.trans (pk_sub (a := Lm 2) (b := (lA (pwA X Y n SX SY Hh So Wd k0 0) Lm n) 2) (by omega))
                refine va_iast hx hb hK hP hD hS 15 0 rfl rfl (vp_in_nI (n := 2) (N := 4) (by decide) (by decide)) dX5_aim_86 (fun H locs hP hD hS => ?_)
                obtain ⟨F_68, eF_68⟩ : ∃ z : Nat → Nat → Int32, z = va_up F_53 15 (upd (F_53 15) (2 : Int32).toNatClampNeg (nI ((Lm 2) - ((lA (pwA X Y n SX SY Hh So Wd k0 0) Lm n) 2)))) := ⟨_, rfl⟩
                have hP : va_P (dC, dI) vwCl (wM cI cZ cJ h F_68 G (va_up (va_up V 0 0) 8 (nI n))) H := by rw [eF_68]; exact hP
                have hD : va_D A (wM cI cZ cJ h F_68 G (va_up (va_up V 0 0) 8 (nI n))) := by rw [eF_68]; exact hD
                have hN_69 : ∀ i, i < 40 → F_68 3 i = nI (So i) := by rw [eF_68]; exact hN_54
                have hN_70 : ∀ i, i < 4 → F_68 4 i = nI (Lm i) := by rw [eF_68]; exact hN_55
                have hN_71 : ∀ i, i < 24 → F_68 7 i = nI (Hh i) := by rw [eF_68]; exact hN_56
                have hN_72 : ∀ i, i < 24 → F_68 8 i = nI (Wd i) := by rw [eF_68]; exact hN_57
                have hN_73 : ∀ i, i < 24 → F_68 9 i = nI (Pr i) := by rw [eF_68]; exact hN_58
                have hN_74 : ∀ i, i < n → F_68 1 i = nI (X i) := by rw [eF_68]; exact hN_59
                have hN_75 : ∀ i, i < n → F_68 2 i = nI (Y i) := by rw [eF_68]; exact hN_60
                have hN_76 : ∀ i, i < 4 → F_68 12 i = nI ((lA (pwA X Y n SX SY Hh So Wd k0 0) Lm n) i) := by rw [eF_68]; exact hN_61
                refine lv_iinc (v := 3) (lv' := [(3, .int 3), (0, .ref (h 0)), (1, .int (nI k0)), (2, .int (nI (htA (pwA X Y n SX SY Hh So Wd k0 0) Lm n)))]) hx hb dX5_aim_87 hl (k := 0) rfl (by decide) (by decide) rfl (fun ls hl => ?_)
                refine lv_goto (tgt := 63) hx hb dX5_aim_90 (by decide) ?_
                refine lv_iload_n hx hb dX5_aim_63 rfl (lv_at hl 0 rfl) ?_
                refine lv_iconst (v := 4) hx hb dX5_aim_64 (by decide) ?_
                refine lv_icmp_ge (tgt := 93) hx hb dX5_aim_65 (by decide) (fun c_77 => ?_) (fun c_77 => ?_)
                · exact absurd c_77 (by decide)
                · refine lv_aload_n hx hb dX5_aim_68 rfl (lv_at hl 1 rfl) ?_
                  refine va_get (D := (dC, dI)) (ci := 5) (v := .ref (h 15)) (C := RX5) (T := TX5) (N := 33) hx hb hts hin_X5 hown hK hP 0 rfl rfl 22 (by decide) hw4 (fun _ h9 => h9) rfl dX5_aim_69 ?_
                  refine lv_iload_n hx hb dX5_aim_72 rfl (lv_at hl 0 rfl) ?_
                  refine lv_aload_n hx hb dX5_aim_73 rfl (lv_at hl 1 rfl) ?_
                  refine va_get (D := (dC, dI)) (ci := 5) (v := .ref (h 4)) (C := RX5) (T := TX5) (N := 33) hx hb hts hin_X5 hown hK hP 0 rfl rfl 11 (by decide) hw5 (fun _ h9 => h9) rfl dX5_aim_74 ?_
                  refine lv_iload_n hx hb dX5_aim_77 rfl (lv_at hl 0 rfl) ?_
                  refine va_iald hx hb hK hP 4 0 rfl rfl (vp_in_nI (n := 3) (N := 4) (by decide) (by decide)) dX5_aim_78 ?_
                  have hb_78 := bLm 3 (by omega)
                  refine lv_topi (fun x_79 ex_79 => ?_)
                  obtain rfl : x_79 = nI (Lm 3) := ex_79.trans ((congrArg (F_68 4) (by decide : (3 : Int32).toNatClampNeg = 3)).trans (hN_70 3 (by omega)))
                  refine lv_aload_n hx hb dX5_aim_79 rfl (lv_at hl 1 rfl) ?_
                  refine va_get (D := (dC, dI)) (ci := 5) (v := .ref (h 12)) (C := RX5) (T := TX5) (N := 33) hx hb hts hin_X5 hown hK hP 0 rfl rfl 19 (by decide) hw6 (fun _ h9 => h9) rfl dX5_aim_80 ?_
                  refine lv_iload_n hx hb dX5_aim_83 rfl (lv_at hl 0 rfl) ?_
                  refine va_iald hx hb hK hP 12 0 rfl rfl (vp_in_nI (n := 3) (N := 4) (by decide) (by decide)) dX5_aim_84 ?_
                  have hb_80 := bN_19 3 (by omega)
                  try dsimp only at hb_80
                  refine lv_topi (fun x_81 ex_81 => ?_)
                  obtain rfl : x_81 = nI ((lA (pwA X Y n SX SY Hh So Wd k0 0) Lm n) 3) := ex_81.trans ((congrArg (F_68 12) (by decide : (3 : Int32).toNatClampNeg = 3)).trans (hN_76 3 (by omega)))
                  refine lv_isub hx hb dX5_aim_85 ?_
                  refine lv_topi (fun x_82 ex_82 => ?_)
                  obtain rfl : x_82 = nI ((Lm 3) - ((lA (pwA X Y n SX SY Hh So Wd k0 0) Lm n) 3)) := ex_82.trans (pk_sub (a := Lm 3) (b := (lA (pwA X Y n SX SY Hh So Wd k0 0) Lm n) 3) (by omega))
                  refine va_iast hx hb hK hP hD hS 15 0 rfl rfl (vp_in_nI (n := 3) (N := 4) (by decide) (by decide)) dX5_aim_86 (fun H locs hP hD hS => ?_)
                  obtain ⟨F_83, eF_83⟩ : ∃ z : Nat → Nat → Int32, z = va_up F_68 15 (upd (F_68 15) (3 : Int32).toNatClampNeg (nI ((Lm 3) - ((lA (pwA X Y n SX SY Hh So Wd k0 0) Lm n) 3)))) := ⟨_, rfl⟩
                  have hP : va_P (dC, dI) vwCl (wM cI cZ cJ h F_83 G (va_up (va_up V 0 0) 8 (nI n))) H := by rw [eF_83]; exact hP
                  have hD : va_D A (wM cI cZ cJ h F_83 G (va_up (va_up V 0 0) 8 (nI n))) := by rw [eF_83]; exact hD
                  have hN_84 : ∀ i, i < 40 → F_83 3 i = nI (So i) := by rw [eF_83]; exact hN_69
                  have hN_85 : ∀ i, i < 4 → F_83 4 i = nI (Lm i) := by rw [eF_83]; exact hN_70
                  have hN_86 : ∀ i, i < 24 → F_83 7 i = nI (Hh i) := by rw [eF_83]; exact hN_71
                  have hN_87 : ∀ i, i < 24 → F_83 8 i = nI (Wd i) := by rw [eF_83]; exact hN_72
                  have hN_88 : ∀ i, i < 24 → F_83 9 i = nI (Pr i) := by rw [eF_83]; exact hN_73
                  have hN_89 : ∀ i, i < n → F_83 1 i = nI (X i) := by rw [eF_83]; exact hN_74
                  have hN_90 : ∀ i, i < n → F_83 2 i = nI (Y i) := by rw [eF_83]; exact hN_75
                  have hN_91 : ∀ i, i < 4 → F_83 12 i = nI ((lA (pwA X Y n SX SY Hh So Wd k0 0) Lm n) i) := by rw [eF_83]; exact hN_76
                  refine lv_iinc (v := 4) (lv' := [(3, .int 4), (0, .ref (h 0)), (1, .int (nI k0)), (2, .int (nI (htA (pwA X Y n SX SY Hh So Wd k0 0) Lm n)))]) hx hb dX5_aim_87 hl (k := 0) rfl (by decide) (by decide) rfl (fun ls hl => ?_)
                  refine lv_goto (tgt := 63) hx hb dX5_aim_90 (by decide) ?_
                  refine lv_iload_n hx hb dX5_aim_63 rfl (lv_at hl 0 rfl) ?_
                  refine lv_iconst (v := 4) hx hb dX5_aim_64 (by decide) ?_
                  refine lv_icmp_ge (tgt := 93) hx hb dX5_aim_65 (by decide) (fun c_92 => ?_) (fun c_92 => ?_)
                  · refine lv_aload_n hx hb dX5_aim_93 rfl (lv_at hl 1 rfl) ?_
                    refine lv_iload_n hx hb dX5_aim_94 rfl (lv_at hl 3 rfl) ?_
                    refine cw_Vi (As := [.int (nI (htA (pwA X Y n SX SY Hh So Wd k0 0) Lm n))]) (rest := []) (c_X5_done l dC dI cI cZ cJ h F_83 G (va_up (va_up V 0 0) 8 (nI n)) (nI (htA (pwA X Y n SX SY Hh So Wd k0 0) Lm n))) fx (cwV 1 hts gX5_aim_X5_done rfl rfl rfl (by decide +kernel) ⟨Nat.le_of_ble_eq_true rfl, Nat.le_of_ble_eq_true rfl⟩) hK hP hD hS hA 0 rfl rfl rfl rfl hl.1 rfl (Nat.le_of_ble_eq_true rfl) dX5_aim_95 ⟨Nat.le_of_ble_eq_true rfl, Nat.le_of_ble_eq_true rfl⟩ (fun r_93 u_94 H locs hw_95 hP hD hS => ?_)
                    have hP : va_P (dC, dI) vwCl (wM cI cZ cJ h F_83 G (va_up (va_up (va_up V 0 0) 8 (nI n)) 1 0)) H := hP
                    have hD : va_D A (wM cI cZ cJ h F_83 G (va_up (va_up (va_up V 0 0) 8 (nI n)) 1 0)) := hD
                    obtain rfl : r_93 = nI (htA (pwA X Y n SX SY Hh So Wd k0 0) Lm n) := hw_95
                    exact hret (nI (htA (pwA X Y n SX SY Hh So Wd k0 0) Lm n)) (F_83, G, va_up (va_up (va_up V 0 0) 8 (nI n)) 1 0) H locs 98 ls rfl dX5_aim_98 (by
                                  have hk_ : k = n := by omega
                                  rw [hk_] at h13
                                  have hp_ : ∀ i, i < 4 → F_83 15 i = nI (Lm i - lA (pwA X Y n SX SY Hh So Wd k0 0) Lm n i) := by
                                    intro i hi
                                    rw [eF_83, eF_68, eF_53, eF_38]
                                    match i, hi with
                                    | 0, _ => rfl
                                    | 1, _ => rfl
                                    | 2, _ => rfl
                                    | 3, _ => rfl
                                    | i + 4, hi => exact absurd hi (by omega)
                                  have hc_ : isW (nI k0) 0 23 = true := by simp [c_4]
                                  refine ⟨?_, ?_⟩
                                  · (try simp only [hc_, cond_true, cond_false, nI_clamp (show k0 < 2 ^ 31 by omega)])
                                    first | done | exact rfl
                                  · (try simp only [hc_, cond_true, cond_false, nI_clamp (show k0 < 2 ^ 31 by omega)])
                                    exact ⟨⟨hV2, by omega⟩, ⟨hV3, by omega⟩, ⟨hV4, by omega⟩, ⟨hV6, by omega⟩, ⟨hV7, by omega⟩, ⟨hV10, by omega⟩, ⟨sh, hV11, by omega⟩, ⟨hN_84, bSo⟩, ⟨hN_85, bLm⟩, ⟨hN_86, bHh⟩, ⟨hN_87, bWd⟩, ⟨hN_88, bPr⟩, ⟨hN_89, bX⟩, ⟨hN_90, bY⟩, ⟨n + 1, (nI_pred _).symm, by omega, by omega⟩, hGP, (fun i hi => (congrFun (Eq.trans (va_ne eF_83 (by decide)) (Eq.trans (va_ne eF_68 (by decide)) (Eq.trans (va_ne eF_53 (by decide)) (Eq.trans (va_ne eF_38 (by decide)) (hfrA 5 (by decide)))))) i).trans (hSX i hi)), (fun i hi => (congrFun (Eq.trans (va_ne eF_83 (by decide)) (Eq.trans (va_ne eF_68 (by decide)) (Eq.trans (va_ne eF_53 (by decide)) (Eq.trans (va_ne eF_38 (by decide)) (hfrA 6 (by decide)))))) i).trans (hSY i hi)), (fun i hi => (congrFun ((Eq.trans (va_ne eF_83 (by decide)) (Eq.trans (va_ne eF_68 (by decide)) (Eq.trans (va_ne eF_53 (by decide)) (va_ne eF_38 (by decide)))))) i).trans (h13 i hi)), hp_, ((show (va_up (va_up (va_up V 0 0) 8 (nI n)) 1 0) 5 = V 5 from rfl)).trans hE, (fun t h1 h2 => (congrFun (Eq.trans (va_ne eF_83 (by decide)) (Eq.trans (va_ne eF_68 (by decide)) (Eq.trans (va_ne eF_53 (by decide)) (Eq.trans (va_ne eF_38 (by decide)) (hfrA 17 (by decide)))))) t).trans (hRB t h1 h2))⟩) (hP) (hD) hS
                  · exact absurd c_92 (by decide)
        · have c_31 : ¬ n ≤ k := fun h => c_31 ((nI_leI (a := n) (b := k) (by omega) (by omega)).mpr h)
          refine lv_aload_n hx hb dX5_aim_43 rfl (lv_at hl 0 rfl) ?_
          refine va_get (D := (dC, dI)) (ci := 5) (v := .ref (h 13)) (C := RX5) (T := TX5) (N := 33) hx hb hts hin_X5 hown hK hP 0 rfl rfl 20 (by decide) hw7 (fun _ h9 => h9) rfl dX5_aim_44 ?_
          refine lv_iload_n hx hb dX5_aim_47 rfl (lv_at hl 3 rfl) ?_
          refine lv_aload_n hx hb dX5_aim_48 rfl (lv_at hl 0 rfl) ?_
          refine va_get (D := (dC, dI)) (ci := 5) (v := .ref (h 14)) (C := RX5) (T := TX5) (N := 33) hx hb hts hin_X5 hown hK hP 0 rfl rfl 21 (by decide) hw8 (fun _ h9 => h9) rfl dX5_aim_49 ?_
          refine lv_iload_n hx hb dX5_aim_52 rfl (lv_at hl 3 rfl) ?_
          refine va_iald hx hb hK hP 14 0 rfl rfl (vp_in_nI (n := k) (N := 40) (by omega) (by decide)) dX5_aim_53 ?_
          refine lv_topi (fun x_96 ex_96 => ?_)
          rw [nI_clamp (n := k) (by omega)] at ex_96
          refine va_iast hx hb hK hP hD hS 13 0 rfl rfl (vp_in_nI (n := k) (N := 40) (by omega) (by decide)) dX5_aim_54 (fun H locs hP hD hS => ?_)
          obtain ⟨F_97, eF_97⟩ : ∃ z : Nat → Nat → Int32, z = va_up F1 13 (upd (F1 13) (nI k).toNatClampNeg x_96) := ⟨_, rfl⟩
          have hP : va_P (dC, dI) vwCl (wM cI cZ cJ h F_97 G (va_up (va_up V 0 0) 8 (nI n))) H := by rw [eF_97]; exact hP
          have hD : va_D A (wM cI cZ cJ h F_97 G (va_up (va_up V 0 0) 8 (nI n))) := by rw [eF_97]; exact hD
          have hN_98 : ∀ i, i < 40 → F_97 3 i = nI (So i) := by rw [eF_97]; exact hN_22
          have hN_99 : ∀ i, i < 4 → F_97 4 i = nI (Lm i) := by rw [eF_97]; exact hN_23
          have hN_100 : ∀ i, i < 24 → F_97 7 i = nI (Hh i) := by rw [eF_97]; exact hN_24
          have hN_101 : ∀ i, i < 24 → F_97 8 i = nI (Wd i) := by rw [eF_97]; exact hN_25
          have hN_102 : ∀ i, i < 24 → F_97 9 i = nI (Pr i) := by rw [eF_97]; exact hN_26
          have hN_103 : ∀ i, i < n → F_97 1 i = nI (X i) := by rw [eF_97]; exact hN_27
          have hN_104 : ∀ i, i < n → F_97 2 i = nI (Y i) := by rw [eF_97]; exact hN_28
          have hN_105 : ∀ i, i < 4 → F_97 12 i = nI ((lA (pwA X Y n SX SY Hh So Wd k0 0) Lm n) i) := by rw [eF_97]; exact hN_29
          refine lv_iinc (v := nI (k + 1)) (lv' := [(3, .int (nI (k + 1))), (0, .ref (h 0)), (1, .int (nI k0)), (2, .int (nI (htA (pwA X Y n SX SY Hh So Wd k0 0) Lm n)))]) hx hb dX5_aim_55 hl (k := 3) rfl (nI_1 _) (by decide) rfl (fun ls hl => ?_)
          refine lv_goto (tgt := 35) hx hb dX5_aim_58 (by decide) ?_
          have hb_106 : ∀ i, i < k + 1 → F_97 13 i = cA (pwA X Y n SX SY Hh So Wd k0 0) Lm n i := fun i hi => by
            rw [eF_97]
            show upd (F1 13) (nI k).toNatClampNeg x_96 i = _
            rw [nI_clamp (by omega)]
            by_cases q : i = k
            · rw [q]; exact pk_us.trans (ex_96.trans ((congrFun (hfr 14 (by decide)) k).trans (hC_20 k (by omega))))
            · rw [pk_un q]; exact h13 i (by omega)
          exact ih35 (k + 1) F_97 (by omega) hb_106 (fun j hj => ((va_ne eF_97 (fun h => hj (by rw [h]; decide))).trans (hfr j hj))) (by omega) H locs ls hP hD hS (lv_sub hl [1, 2, 3, 0] rfl)
    exact loop35 _ 0 F_8 (by omega) (fun i hi => absurd hi (Nat.not_lt_zero i)) (fun _ _ => rfl) (Nat.lt_succ_self _) H locs ls hP hD hS (lv_sub hl [2, 3, 1, 0] rfl)
  · have c_4 : isW p0 0 23 = false := bI_f hw_3 c_4
    refine lv_aload_n hx hb dX5_aim_12 rfl (lv_at hl 0 rfl) ?_
    refine lv_iconst (v := 2) hx hb dX5_aim_13 (by decide) ?_
    refine cw_Vi (As := [.int 2]) (rest := []) (c_X5_refused l dC dI cI cZ cJ h F G (va_up V 0 0) 2) fx (cwV 1 hts gX5_aim_X5_refused rfl rfl rfl (by decide +kernel) ⟨Nat.le_of_ble_eq_true rfl, Nat.le_of_ble_eq_true rfl⟩) hK hP hD hS hA 0 rfl rfl rfl rfl hl.1 rfl (Nat.le_of_ble_eq_true rfl) dX5_aim_14 ⟨Nat.le_of_ble_eq_true rfl, Nat.le_of_ble_eq_true rfl⟩ (fun r_107 u_108 H locs hw_109 hP hD hS => ?_)
    have hP : va_P (dC, dI) vwCl (wM cI cZ cJ h F G (va_up (va_up V 0 0) 1 2)) H := hP
    have hD : va_D A (wM cI cZ cJ h F G (va_up (va_up V 0 0) 1 2)) := hD
    obtain rfl : r_107 = (-1) := hw_109
    exact hret (-1) (F, G, va_up (va_up V 0 0) 1 2) H locs 17 ls rfl dX5_aim_17 (by
                  have hc_ : isW p0 0 23 = false := by simp [c_4]
                  refine ⟨?_, ?_⟩
                  · (try simp only [hc_, cond_true, cond_false])
                    first | done | exact rfl
                  · (try simp only [hc_, cond_true, cond_false])
                    exact ⟨⟨hV2, by omega⟩, ⟨hV3, by omega⟩, ⟨hV4, by omega⟩, ⟨hV6, by omega⟩, ⟨hV7, by omega⟩, ⟨hV10, by omega⟩, ⟨sh, hV11, by omega⟩, ⟨hSo, bSo⟩, ⟨hLm, bLm⟩, ⟨hHh, bHh⟩, ⟨hWd, bWd⟩, ⟨hPr, bPr⟩, ⟨hX, bX⟩, ⟨hY, bY⟩, ⟨am, hV8, by omega, by omega⟩, hGP, (fun i hi => (congrFun (Eq.refl (F 5)) i).trans (hSX i hi)), (fun i hi => (congrFun (Eq.refl (F 6)) i).trans (hSY i hi)), (fun i hi => (congrFun (Eq.refl (F 13)) i).trans (hKc i hi)), (fun i hi => (congrFun (Eq.refl (F 15)) i).trans (hKp i hi)), ((show (va_up (va_up V 0 0) 1 2) 5 = V 5 from rfl)).trans hE, (fun t h1 h2 => (congrFun (Eq.refl (F 17)) t).trans (hRB t h1 h2))⟩) (hP) (hD) hS
def rm_X5_count : Room := { frames := 0, cells := 0, slots := 0, locals := 0 }
set_option maxHeartbeats 4000000 in
set_option maxRecDepth 100000 in
theorem c_X5_count (l : Launch) (dC : Nat → ClassId) (dI : Nat → Nat → Nat) (cI cZ cJ : ClassId) (h : Nat → Nat) (F : Nat → Nat → Int32) (G : Nat → Int64) (V : Nat → Int32) (n : Nat) (hV2 : V 2 = nI n) (bV2 : n ≤ 40) (nw : Nat) (hV3 : V 3 = nI nw) (bV3 : nw ≤ 23) (un : Nat) (hV4 : V 4 = nI un) (bV4 : un ≤ 200) (d : Nat) (hV6 : V 6 = nI d) (bV6 : d ≤ 20) (wm : Nat) (hV7 : V 7 = nI wm) (bV7 : wm ≤ 1) (pf : Nat) (hV10 : V 10 = nI pf) (bV10 : pf ≤ 24) (sh : Nat) (hV11 : V 11 = nI sh) (bV11 : sh ≤ 12) (So : Nat → Nat) (hSo : ∀ i, i < 40 → F 3 i = nI (So i)) (bSo : ∀ i, i < 40 → So i ≤ 90) (Lm : Nat → Nat) (hLm : ∀ i, i < 4 → F 4 i = nI (Lm i)) (bLm : ∀ i, i < 4 → Lm i ≤ 10000) (Hh : Nat → Nat) (hHh : ∀ i, i < 24 → F 7 i = nI (Hh i)) (bHh : ∀ i, i < 24 → Hh i ≤ 9) (Wd : Nat → Nat) (hWd : ∀ i, i < 24 → F 8 i = nI (Wd i)) (bWd : ∀ i, i < 24 → Wd i ≤ 99) (Pr : Nat → Nat) (hPr : ∀ i, i < 24 → F 9 i = nI (Pr i)) (bPr : ∀ i, i < 24 → Pr i ≤ 999) (X : Nat → Nat) (hX : ∀ i, i < n → F 1 i = nI (X i)) (bX : ∀ i, i < n → X i ≤ 14) (Y : Nat → Nat) (hY : ∀ i, i < n → F 2 i = nI (Y i)) (bY : ∀ i, i < n → Y i ≤ 14) (p0 : Int32)  (ks am : Nat) (hV8 : V 8 = nI am - 1) (bam : am ≤ 41) (hks : am - 1 = ks) (SX SY Kc Kp : Nat → Int32) (er : Int32) (rb : Nat → Bool) (hGP : GP n X Y) (hSX : ∀ i, i < 24 → F 5 i = SX i) (hSY : ∀ i, i < 24 → F 6 i = SY i) (hKc : ∀ i, i < ks → F 13 i = Kc i) (hKp : ∀ i, i < 4 → F 15 i = Kp i) (hE : V 5 = er) (hRB : ∀ t, pf ≤ t → t < 24 → F 17 t = bI (rb t)) : CtI l (dC, dI) vwCl (tys3 cI cZ cJ) yX5_count wsX5_count rm_X5_count [.ref (h 0), .int p0] (wM cI cZ cJ h F G V) (S := (Nat → Nat → Int32) × (Nat → Int64) × (Nat → Int32)) (fun r u => (True) ∧ VM n d ks nw un wm pf So Hh Wd Lm Pr X Y SX SY Kc Kp er rb u.1 u.2.2) (fun u => wM cI cZ cJ h u.1 u.2.1 u.2.2) 0 0 := by
  refine ct_I (cc := cX5_count) (maxL := 4) (ty := .int) (own := RX5) (by decide) rfl rfl (Nat.le_of_ble_eq_true rfl) (lv := [(0, .ref (h 0)), (1, .int p0)]) rfl ?_
  intro p e s m args below meth c A Q ls fx hK hP hD hA hl hret
  obtain ⟨hx, hb, hml, hown, hts⟩ := id fx
  have hS : va_S A s.heap s.heap [] := va_S.rf
  have hw0 := hts (.fieldLink RX5 1 "MirrorTowerModel" "thrown" "I") (by decide +kernel)
  have hin_X5 : ∀ w ∈ u_ws RX5 TX5 33, w ∈ wsX5_count := by decide +kernel
  have hw2 := hts (.fieldLink RX5 91 "MirrorTowerModel" "mirrors" "I") (by decide +kernel)
  have hw3 := hts (.fieldLink RX5 154 "MirrorTowerModel" "now" "I") (by decide +kernel)
  have hw4 := hts (.fieldLink RX5 168 "MirrorTowerModel" "store" "I") (by decide +kernel)
  have hw5 := hts (.fieldLink RX5 171 "MirrorTowerModel" "isWarm" "Z") (by decide +kernel)
  have hw6 := hts (.fieldLink RX5 186 "MirrorTowerModel" "shots" "I") (by decide +kernel)
  have hw7 := hts (.fieldLink RX5 26 "MirrorTowerModel" "soil" "[I") (by decide +kernel)
  obtain ⟨H, hH⟩ : ∃ H, H = s.heap := ⟨_, rfl⟩
  rw [← hH] at hP ⊢
  have hS : va_S A s.heap H [] := by rw [hH]; exact hS
  generalize ([] : List Loc) = locs at hS ⊢
  refine lv_aload_n hx hb dX5_count_0 rfl (lv_at hl 0 rfl) ?_
  refine lv_iconst (v := 0) hx hb dX5_count_1 (by decide) ?_
  refine va_put (D := (dC, dI)) (ci := 5) (v := .int 0) (ty := .int) (C := RX5) (T := TX5) (N := 33) hx hb hts hin_X5 tyX5 tyX5_ok nmX5 hown hK hP hD hS 0 rfl rfl 0 (by decide) hw0 (fun _ h9 => h9) rfl (by decide +kernel) rfl rfl (Nat.le_of_ble_eq_true rfl) dX5_count_2 (fun H locs hP hD hS => ?_)
  have hP : va_P (dC, dI) vwCl (wM cI cZ cJ h F G (va_up V 0 0)) H := hP
  have hD : va_D A (wM cI cZ cJ h F G (va_up V 0 0)) := hD
  refine lv_iload_n hx hb dX5_count_5 rfl (lv_at hl 1 rfl) ?_
  rcases tsw p0 0 5 (by decide) with c_1 | c_1
  · refine lv_tableOut (tgt := 106) hx hb dX5_count_6 c_1 (by decide) ?_
    refine lv_iconst (v := (-1)) hx hb dX5_count_106 (by decide) ?_
    exact hret (-1) (F, G, va_up V 0 0) H locs 107 ls rfl dX5_count_107 (by
                  refine ⟨?_, ?_⟩
                  · (try dsimp only)
                    first | done | exact trivial
                  · (try dsimp only)
                    exact ⟨⟨hV2, by omega⟩, ⟨hV3, by omega⟩, ⟨hV4, by omega⟩, ⟨hV6, by omega⟩, ⟨hV7, by omega⟩, ⟨hV10, by omega⟩, ⟨sh, hV11, by omega⟩, ⟨hSo, bSo⟩, ⟨hLm, bLm⟩, ⟨hHh, bHh⟩, ⟨hWd, bWd⟩, ⟨hPr, bPr⟩, ⟨hX, bX⟩, ⟨hY, bY⟩, ⟨am, hV8, by omega, by omega⟩, hGP, (fun i hi => (congrFun (Eq.refl (F 5)) i).trans (hSX i hi)), (fun i hi => (congrFun (Eq.refl (F 6)) i).trans (hSY i hi)), (fun i hi => (congrFun (Eq.refl (F 13)) i).trans (hKc i hi)), (fun i hi => (congrFun (Eq.refl (F 15)) i).trans (hKp i hi)), ((show (va_up V 0 0) 5 = V 5 from rfl)).trans hE, (fun t h1 h2 => (congrFun (Eq.refl (F 17)) t).trans (hRB t h1 h2))⟩) (hP) (hD) hS
  · obtain ⟨j_, hj_, c_1⟩ := c_1
    match j_, hj_, c_1 with
    | 0, _, c_1 =>
      refine lv_tableIn (tgt := 44) (off := 38) hx hb dX5_count_6 (by rw [c_1]; decide) (by rw [c_1]; decide) (by rw [c_1]; rfl) (by decide) ?_
      refine lv_aload_n hx hb dX5_count_44 rfl (lv_at hl 0 rfl) ?_
      refine va_get (D := (dC, dI)) (ci := 5) (v := .int (V 2)) (C := RX5) (T := TX5) (N := 33) hx hb hts hin_X5 hown hK hP 0 rfl rfl 2 (by decide) hw2 (fun _ h9 => h9) rfl dX5_count_45 ?_
      refine lv_topi (fun x_2 ex_2 => ?_)
      obtain rfl : x_2 = nI n := ex_2.trans (hV2)
      exact hret (nI n) (F, G, va_up V 0 0) H locs 48 ls rfl dX5_count_48 (by
                    refine ⟨?_, ?_⟩
                    · (try dsimp only)
                      first | done | exact trivial
                    · (try dsimp only)
                      exact ⟨⟨hV2, by omega⟩, ⟨hV3, by omega⟩, ⟨hV4, by omega⟩, ⟨hV6, by omega⟩, ⟨hV7, by omega⟩, ⟨hV10, by omega⟩, ⟨sh, hV11, by omega⟩, ⟨hSo, bSo⟩, ⟨hLm, bLm⟩, ⟨hHh, bHh⟩, ⟨hWd, bWd⟩, ⟨hPr, bPr⟩, ⟨hX, bX⟩, ⟨hY, bY⟩, ⟨am, hV8, by omega, by omega⟩, hGP, (fun i hi => (congrFun (Eq.refl (F 5)) i).trans (hSX i hi)), (fun i hi => (congrFun (Eq.refl (F 6)) i).trans (hSY i hi)), (fun i hi => (congrFun (Eq.refl (F 13)) i).trans (hKc i hi)), (fun i hi => (congrFun (Eq.refl (F 15)) i).trans (hKp i hi)), ((show (va_up V 0 0) 5 = V 5 from rfl)).trans hE, (fun t h1 h2 => (congrFun (Eq.refl (F 17)) t).trans (hRB t h1 h2))⟩) (hP) (hD) hS
    | 1, _, c_1 =>
      refine lv_tableIn (tgt := 49) (off := 43) hx hb dX5_count_6 (by rw [c_1]; decide) (by rw [c_1]; decide) (by rw [c_1]; rfl) (by decide) ?_
      refine lv_aload_n hx hb dX5_count_49 rfl (lv_at hl 0 rfl) ?_
      refine va_get (D := (dC, dI)) (ci := 5) (v := .int (V 3)) (C := RX5) (T := TX5) (N := 33) hx hb hts hin_X5 hown hK hP 0 rfl rfl 3 (by decide) hw3 (fun _ h9 => h9) rfl dX5_count_50 ?_
      refine lv_topi (fun x_3 ex_3 => ?_)
      obtain rfl : x_3 = nI nw := ex_3.trans (hV3)
      exact hret (nI nw) (F, G, va_up V 0 0) H locs 53 ls rfl dX5_count_53 (by
                    refine ⟨?_, ?_⟩
                    · (try dsimp only)
                      first | done | exact trivial
                    · (try dsimp only)
                      exact ⟨⟨hV2, by omega⟩, ⟨hV3, by omega⟩, ⟨hV4, by omega⟩, ⟨hV6, by omega⟩, ⟨hV7, by omega⟩, ⟨hV10, by omega⟩, ⟨sh, hV11, by omega⟩, ⟨hSo, bSo⟩, ⟨hLm, bLm⟩, ⟨hHh, bHh⟩, ⟨hWd, bWd⟩, ⟨hPr, bPr⟩, ⟨hX, bX⟩, ⟨hY, bY⟩, ⟨am, hV8, by omega, by omega⟩, hGP, (fun i hi => (congrFun (Eq.refl (F 5)) i).trans (hSX i hi)), (fun i hi => (congrFun (Eq.refl (F 6)) i).trans (hSY i hi)), (fun i hi => (congrFun (Eq.refl (F 13)) i).trans (hKc i hi)), (fun i hi => (congrFun (Eq.refl (F 15)) i).trans (hKp i hi)), ((show (va_up V 0 0) 5 = V 5 from rfl)).trans hE, (fun t h1 h2 => (congrFun (Eq.refl (F 17)) t).trans (hRB t h1 h2))⟩) (hP) (hD) hS
    | 2, _, c_1 =>
      refine lv_tableIn (tgt := 54) (off := 48) hx hb dX5_count_6 (by rw [c_1]; decide) (by rw [c_1]; decide) (by rw [c_1]; rfl) (by decide) ?_
      refine lv_aload_n hx hb dX5_count_54 rfl (lv_at hl 0 rfl) ?_
      refine va_get (D := (dC, dI)) (ci := 5) (v := .int (V 4)) (C := RX5) (T := TX5) (N := 33) hx hb hts hin_X5 hown hK hP 0 rfl rfl 4 (by decide) hw4 (fun _ h9 => h9) rfl dX5_count_55 ?_
      refine lv_topi (fun x_4 ex_4 => ?_)
      obtain rfl : x_4 = nI un := ex_4.trans (hV4)
      exact hret (nI un) (F, G, va_up V 0 0) H locs 58 ls rfl dX5_count_58 (by
                    refine ⟨?_, ?_⟩
                    · (try dsimp only)
                      first | done | exact trivial
                    · (try dsimp only)
                      exact ⟨⟨hV2, by omega⟩, ⟨hV3, by omega⟩, ⟨hV4, by omega⟩, ⟨hV6, by omega⟩, ⟨hV7, by omega⟩, ⟨hV10, by omega⟩, ⟨sh, hV11, by omega⟩, ⟨hSo, bSo⟩, ⟨hLm, bLm⟩, ⟨hHh, bHh⟩, ⟨hWd, bWd⟩, ⟨hPr, bPr⟩, ⟨hX, bX⟩, ⟨hY, bY⟩, ⟨am, hV8, by omega, by omega⟩, hGP, (fun i hi => (congrFun (Eq.refl (F 5)) i).trans (hSX i hi)), (fun i hi => (congrFun (Eq.refl (F 6)) i).trans (hSY i hi)), (fun i hi => (congrFun (Eq.refl (F 13)) i).trans (hKc i hi)), (fun i hi => (congrFun (Eq.refl (F 15)) i).trans (hKp i hi)), ((show (va_up V 0 0) 5 = V 5 from rfl)).trans hE, (fun t h1 h2 => (congrFun (Eq.refl (F 17)) t).trans (hRB t h1 h2))⟩) (hP) (hD) hS
    | 3, _, c_1 =>
      refine lv_tableIn (tgt := 59) (off := 53) hx hb dX5_count_6 (by rw [c_1]; decide) (by rw [c_1]; decide) (by rw [c_1]; rfl) (by decide) ?_
      refine lv_aload_n hx hb dX5_count_59 rfl (lv_at hl 0 rfl) ?_
      refine va_get (D := (dC, dI)) (ci := 5) (v := .int (V 7)) (C := RX5) (T := TX5) (N := 33) hx hb hts hin_X5 hown hK hP 0 rfl rfl 7 (by decide) hw5 (fun _ h9 => h9) rfl dX5_count_60 ?_
      refine lv_topi (fun x_5 ex_5 => ?_)
      obtain rfl : x_5 = nI wm := ex_5.trans (hV7)
      refine lv_if_eq (tgt := 70) hx hb dX5_count_63 (by decide) (fun c_6 => ?_) (fun c_6 => ?_)
      · have c_6 : wm = 0 := (nI_eq (a := wm) (b := 0) (by omega) (by omega)).mp c_6
        refine lv_iconst (v := 0) hx hb dX5_count_70 (by decide) ?_
        exact hret 0 (F, G, va_up V 0 0) H locs 71 ls rfl dX5_count_71 (by
                      refine ⟨?_, ?_⟩
                      · (try dsimp only)
                        first | done | exact trivial
                      · (try dsimp only)
                        exact ⟨⟨hV2, by omega⟩, ⟨hV3, by omega⟩, ⟨hV4, by omega⟩, ⟨hV6, by omega⟩, ⟨hV7, by omega⟩, ⟨hV10, by omega⟩, ⟨sh, hV11, by omega⟩, ⟨hSo, bSo⟩, ⟨hLm, bLm⟩, ⟨hHh, bHh⟩, ⟨hWd, bWd⟩, ⟨hPr, bPr⟩, ⟨hX, bX⟩, ⟨hY, bY⟩, ⟨am, hV8, by omega, by omega⟩, hGP, (fun i hi => (congrFun (Eq.refl (F 5)) i).trans (hSX i hi)), (fun i hi => (congrFun (Eq.refl (F 6)) i).trans (hSY i hi)), (fun i hi => (congrFun (Eq.refl (F 13)) i).trans (hKc i hi)), (fun i hi => (congrFun (Eq.refl (F 15)) i).trans (hKp i hi)), ((show (va_up V 0 0) 5 = V 5 from rfl)).trans hE, (fun t h1 h2 => (congrFun (Eq.refl (F 17)) t).trans (hRB t h1 h2))⟩) (hP) (hD) hS
      · have c_6 : ¬ wm = 0 := fun h => c_6 ((nI_eq (a := wm) (b := 0) (by omega) (by omega)).mpr h)
        refine lv_iconst (v := 1) hx hb dX5_count_66 (by decide) ?_
        refine lv_goto (tgt := 71) hx hb dX5_count_67 (by decide) ?_
        exact hret 1 (F, G, va_up V 0 0) H locs 71 ls rfl dX5_count_71 (by
                      refine ⟨?_, ?_⟩
                      · (try dsimp only)
                        first | done | exact trivial
                      · (try dsimp only)
                        exact ⟨⟨hV2, by omega⟩, ⟨hV3, by omega⟩, ⟨hV4, by omega⟩, ⟨hV6, by omega⟩, ⟨hV7, by omega⟩, ⟨hV10, by omega⟩, ⟨sh, hV11, by omega⟩, ⟨hSo, bSo⟩, ⟨hLm, bLm⟩, ⟨hHh, bHh⟩, ⟨hWd, bWd⟩, ⟨hPr, bPr⟩, ⟨hX, bX⟩, ⟨hY, bY⟩, ⟨am, hV8, by omega, by omega⟩, hGP, (fun i hi => (congrFun (Eq.refl (F 5)) i).trans (hSX i hi)), (fun i hi => (congrFun (Eq.refl (F 6)) i).trans (hSY i hi)), (fun i hi => (congrFun (Eq.refl (F 13)) i).trans (hKc i hi)), (fun i hi => (congrFun (Eq.refl (F 15)) i).trans (hKp i hi)), ((show (va_up V 0 0) 5 = V 5 from rfl)).trans hE, (fun t h1 h2 => (congrFun (Eq.refl (F 17)) t).trans (hRB t h1 h2))⟩) (hP) (hD) hS
    | 4, _, c_1 =>
      refine lv_tableIn (tgt := 72) (off := 66) hx hb dX5_count_6 (by rw [c_1]; decide) (by rw [c_1]; decide) (by rw [c_1]; rfl) (by decide) ?_
      refine lv_aload_n hx hb dX5_count_72 rfl (lv_at hl 0 rfl) ?_
      refine va_get (D := (dC, dI)) (ci := 5) (v := .int (V 11)) (C := RX5) (T := TX5) (N := 33) hx hb hts hin_X5 hown hK hP 0 rfl rfl 31 (by decide) hw6 (fun _ h9 => h9) rfl dX5_count_73 ?_
      refine lv_topi (fun x_7 ex_7 => ?_)
      obtain rfl : x_7 = nI sh := ex_7.trans (hV11)
      exact hret (nI sh) (F, G, va_up V 0 0) H locs 76 ls rfl dX5_count_76 (by
                    refine ⟨?_, ?_⟩
                    · (try dsimp only)
                      first | done | exact trivial
                    · (try dsimp only)
                      exact ⟨⟨hV2, by omega⟩, ⟨hV3, by omega⟩, ⟨hV4, by omega⟩, ⟨hV6, by omega⟩, ⟨hV7, by omega⟩, ⟨hV10, by omega⟩, ⟨sh, hV11, by omega⟩, ⟨hSo, bSo⟩, ⟨hLm, bLm⟩, ⟨hHh, bHh⟩, ⟨hWd, bWd⟩, ⟨hPr, bPr⟩, ⟨hX, bX⟩, ⟨hY, bY⟩, ⟨am, hV8, by omega, by omega⟩, hGP, (fun i hi => (congrFun (Eq.refl (F 5)) i).trans (hSX i hi)), (fun i hi => (congrFun (Eq.refl (F 6)) i).trans (hSY i hi)), (fun i hi => (congrFun (Eq.refl (F 13)) i).trans (hKc i hi)), (fun i hi => (congrFun (Eq.refl (F 15)) i).trans (hKp i hi)), ((show (va_up V 0 0) 5 = V 5 from rfl)).trans hE, (fun t h1 h2 => (congrFun (Eq.refl (F 17)) t).trans (hRB t h1 h2))⟩) (hP) (hD) hS
    | 5, _, c_1 =>
      refine lv_tableIn (tgt := 77) (off := 71) hx hb dX5_count_6 (by rw [c_1]; decide) (by rw [c_1]; decide) (by rw [c_1]; rfl) (by decide) ?_
      refine lv_iconst (v := 0) hx hb dX5_count_77 (by decide) ?_
      refine lv_istore_n (lv' := [(2, .int 0), (0, .ref (h 0)), (1, .int p0)]) hx hb dX5_count_78 rfl hl (by decide) rfl (fun ls hl => ?_)
      refine lv_iconst (v := 0) hx hb dX5_count_79 (by decide) ?_
      refine lv_istore_n (lv' := [(3, .int 0), (2, .int 0), (0, .ref (h 0)), (1, .int p0)]) hx hb dX5_count_80 rfl hl (by decide) rfl (fun ls hl => ?_)
      have loop81 : ∀ (fu : Nat) (k : Nat), (k ≤ n) → (n - k) < fu → ∀ (H : Heap) (locs : List Loc) (ls : Array Slot), va_P (dC, dI) vwCl (wM cI cZ cJ h F G (va_up V 0 0)) H → va_D A (wM cI cZ cJ h F G (va_up V 0 0)) → va_S A s.heap H locs → lv_has ls 4 [(0, .ref (h 0)), (1, .int p0), (2, .int (nI (sumN So k))), (3, .int (nI k))] → W p l e rm_X5_count s m args below meth c H locs 0 0 Q (F0 m 81 ls []) := by
        intro fu
        induction fu with
        | zero => intro k hk hn_; exact absurd hn_ (Nat.not_lt_zero _)
        | succ fu ih81 =>
          intro k hk hn_ H locs ls hP hD hS hl
          refine lv_iload_n hx hb dX5_count_81 rfl (lv_at hl 3 rfl) ?_
          refine lv_aload_n hx hb dX5_count_82 rfl (lv_at hl 0 rfl) ?_
          refine va_get (D := (dC, dI)) (ci := 5) (v := .int (V 2)) (C := RX5) (T := TX5) (N := 33) hx hb hts hin_X5 hown hK hP 0 rfl rfl 2 (by decide) hw2 (fun _ h9 => h9) rfl dX5_count_83 ?_
          refine lv_topi (fun x_8 ex_8 => ?_)
          obtain rfl : x_8 = nI n := ex_8.trans (hV2)
          refine lv_icmp_ge (tgt := 104) hx hb dX5_count_86 (by decide) (fun c_9 => ?_) (fun c_9 => ?_)
          · have c_9 : n ≤ k := (nI_leI (a := n) (b := k) (by omega) (by omega)).mp c_9
            refine lv_iload_n hx hb dX5_count_104 rfl (lv_at hl 2 rfl) ?_
            exact hret (nI (sumN So k)) (F, G, va_up V 0 0) H locs 105 ls rfl dX5_count_105 (by
                          refine ⟨?_, ?_⟩
                          · (try dsimp only)
                            first | done | exact trivial
                          · (try dsimp only)
                            exact ⟨⟨hV2, by omega⟩, ⟨hV3, by omega⟩, ⟨hV4, by omega⟩, ⟨hV6, by omega⟩, ⟨hV7, by omega⟩, ⟨hV10, by omega⟩, ⟨sh, hV11, by omega⟩, ⟨hSo, bSo⟩, ⟨hLm, bLm⟩, ⟨hHh, bHh⟩, ⟨hWd, bWd⟩, ⟨hPr, bPr⟩, ⟨hX, bX⟩, ⟨hY, bY⟩, ⟨am, hV8, by omega, by omega⟩, hGP, (fun i hi => (congrFun (Eq.refl (F 5)) i).trans (hSX i hi)), (fun i hi => (congrFun (Eq.refl (F 6)) i).trans (hSY i hi)), (fun i hi => (congrFun (Eq.refl (F 13)) i).trans (hKc i hi)), (fun i hi => (congrFun (Eq.refl (F 15)) i).trans (hKp i hi)), ((show (va_up V 0 0) 5 = V 5 from rfl)).trans hE, (fun t h1 h2 => (congrFun (Eq.refl (F 17)) t).trans (hRB t h1 h2))⟩) (hP) (hD) hS
          · have c_9 : ¬ n ≤ k := fun h => c_9 ((nI_leI (a := n) (b := k) (by omega) (by omega)).mpr h)
            refine lv_iload_n hx hb dX5_count_89 rfl (lv_at hl 2 rfl) ?_
            refine lv_aload_n hx hb dX5_count_90 rfl (lv_at hl 0 rfl) ?_
            refine va_get (D := (dC, dI)) (ci := 5) (v := .ref (h 3)) (C := RX5) (T := TX5) (N := 33) hx hb hts hin_X5 hown hK hP 0 rfl rfl 10 (by decide) hw7 (fun _ h9 => h9) rfl dX5_count_91 ?_
            refine lv_iload_n hx hb dX5_count_94 rfl (lv_at hl 3 rfl) ?_
            refine va_iald hx hb hK hP 3 0 rfl rfl (vp_in_nI (n := k) (N := 40) (by omega) (by decide)) dX5_count_95 ?_
            have hb_10 := bSo k (by omega)
            refine lv_topi (fun x_11 ex_11 => ?_)
            obtain rfl : x_11 = nI (So k) := ex_11.trans ((congrArg (F 3) (nI_clamp (n := k) (by omega))).trans (hSo k (by omega)))
            refine lv_iadd hx hb dX5_count_96 ?_
            refine lv_topi (fun x_12 ex_12 => ?_)
            obtain rfl : x_12 = nI ((sumN So k) + (So k)) := ex_12.trans (nI_add (sumN So k) (So k))
            refine lv_istore_n (lv' := [(2, .int (nI ((sumN So k) + (So k)))), (0, .ref (h 0)), (1, .int p0), (3, .int (nI k))]) hx hb dX5_count_97 rfl hl (by decide) rfl (fun ls hl => ?_)
            refine lv_iinc (v := nI (k + 1)) (lv' := [(3, .int (nI (k + 1))), (2, .int (nI ((sumN So k) + (So k)))), (0, .ref (h 0)), (1, .int p0)]) hx hb dX5_count_98 hl (k := 3) rfl (nI_1 _) (by decide) rfl (fun ls hl => ?_)
            refine lv_goto (tgt := 81) hx hb dX5_count_101 (by decide) ?_
            exact ih81 (k + 1) (by omega) (by omega) H locs ls hP hD hS (lv_sub hl [2, 3, 1, 0] rfl)
      exact loop81 _ 0 (by omega) (Nat.lt_succ_self _) H locs ls hP hD hS (lv_sub hl [2, 3, 1, 0] rfl)
    | j_ + 6, hj_, _ => exact absurd hj_ (by omega)
def rm_X5_stuck : Room := { frames := 3, cells := 0, slots := 0, locals := 71 }
set_option maxHeartbeats 4000000 in
set_option maxRecDepth 100000 in
theorem c_X5_stuck (l : Launch) (dC : Nat → ClassId) (dI : Nat → Nat → Nat) (cI cZ cJ : ClassId) (h : Nat → Nat) (F : Nat → Nat → Int32) (G : Nat → Int64) (V : Nat → Int32) (n : Nat) (hV2 : V 2 = nI n) (bV2 : n ≤ 40) (nw : Nat) (hV3 : V 3 = nI nw) (bV3 : nw ≤ 23) (un : Nat) (hV4 : V 4 = nI un) (bV4 : un ≤ 200) (d : Nat) (hV6 : V 6 = nI d) (bV6 : d ≤ 20) (wm : Nat) (hV7 : V 7 = nI wm) (bV7 : wm ≤ 1) (pf : Nat) (hV10 : V 10 = nI pf) (bV10 : pf ≤ 24) (sh : Nat) (hV11 : V 11 = nI sh) (bV11 : sh ≤ 12) (So : Nat → Nat) (hSo : ∀ i, i < 40 → F 3 i = nI (So i)) (bSo : ∀ i, i < 40 → So i ≤ 90) (Lm : Nat → Nat) (hLm : ∀ i, i < 4 → F 4 i = nI (Lm i)) (bLm : ∀ i, i < 4 → Lm i ≤ 10000) (Hh : Nat → Nat) (hHh : ∀ i, i < 24 → F 7 i = nI (Hh i)) (bHh : ∀ i, i < 24 → Hh i ≤ 9) (Wd : Nat → Nat) (hWd : ∀ i, i < 24 → F 8 i = nI (Wd i)) (bWd : ∀ i, i < 24 → Wd i ≤ 99) (Pr : Nat → Nat) (hPr : ∀ i, i < 24 → F 9 i = nI (Pr i)) (bPr : ∀ i, i < 24 → Pr i ≤ 999) (X : Nat → Nat) (hX : ∀ i, i < n → F 1 i = nI (X i)) (bX : ∀ i, i < n → X i ≤ 14) (Y : Nat → Nat) (hY : ∀ i, i < n → F 2 i = nI (Y i)) (bY : ∀ i, i < n → Y i ≤ 14) (p0 : Int32)  (ks am : Nat) (hV8 : V 8 = nI am - 1) (bam : am ≤ 41) (hks : am - 1 = ks) (SX SY Kc Kp : Nat → Int32) (er : Int32) (rb : Nat → Bool) (hGP : GP n X Y) (hSX : ∀ i, i < 24 → F 5 i = SX i) (hSY : ∀ i, i < 24 → F 6 i = SY i) (hKc : ∀ i, i < ks → F 13 i = Kc i) (hKp : ∀ i, i < 4 → F 15 i = Kp i) (hE : V 5 = er) (hRB : ∀ t, pf ≤ t → t < 24 → F 17 t = bI (rb t)) : CtI l (dC, dI) vwCl (tys3 cI cZ cJ) yX5_stuck wsX5_stuck rm_X5_stuck [.ref (h 0), .int p0] (wM cI cZ cJ h F G V) (S := (Nat → Nat → Int32) × (Nat → Int64) × (Nat → Int32)) (fun r u => (True) ∧ VM n d ks nw un wm pf So Hh Wd Lm Pr X Y SX SY Kc Kp er rb u.1 u.2.2) (fun u => wM cI cZ cJ h u.1 u.2.1 u.2.2) 0 0 := by
  refine ct_I (cc := cX5_stuck) (maxL := 3) (ty := .int) (own := RX5) (by decide) rfl rfl (Nat.le_of_ble_eq_true rfl) (lv := [(0, .ref (h 0)), (1, .int p0)]) rfl ?_
  intro p e s m args below meth c A Q ls fx hK hP hD hA hl hret
  obtain ⟨hx, hb, hml, hown, hts⟩ := id fx
  have hS : va_S A s.heap s.heap [] := va_S.rf
  have hw0 := hts (.fieldLink RX5 1 "MirrorTowerModel" "thrown" "I") (by decide +kernel)
  have hin_X5 : ∀ w ∈ u_ws RX5 TX5 33, w ∈ wsX5_stuck := by decide +kernel
  have hw2 := hts (.fieldLink RX5 88 "MirrorTowerModel" "inSets" "[I") (by decide +kernel)
  obtain ⟨H, hH⟩ : ∃ H, H = s.heap := ⟨_, rfl⟩
  rw [← hH] at hP ⊢
  have hS : va_S A s.heap H [] := by rw [hH]; exact hS
  generalize ([] : List Loc) = locs at hS ⊢
  refine lv_aload_n hx hb dX5_stuck_0 rfl (lv_at hl 0 rfl) ?_
  refine lv_iconst (v := 0) hx hb dX5_stuck_1 (by decide) ?_
  refine va_put (D := (dC, dI)) (ci := 5) (v := .int 0) (ty := .int) (C := RX5) (T := TX5) (N := 33) hx hb hts hin_X5 tyX5 tyX5_ok nmX5 hown hK hP hD hS 0 rfl rfl 0 (by decide) hw0 (fun _ h9 => h9) rfl (by decide +kernel) rfl rfl (Nat.le_of_ble_eq_true rfl) dX5_stuck_2 (fun H locs hP hD hS => ?_)
  have hP : va_P (dC, dI) vwCl (wM cI cZ cJ h F G (va_up V 0 0)) H := hP
  have hD : va_D A (wM cI cZ cJ h F G (va_up V 0 0)) := hD
  refine lv_aload_n hx hb dX5_stuck_5 rfl (lv_at hl 0 rfl) ?_
  refine lv_iload_n hx hb dX5_stuck_6 rfl (lv_at hl 1 rfl) ?_
  refine cw_Vi (As := [.int p0]) (rest := []) (c_X5_isMirror l dC dI cI cZ cJ h F G (va_up V 0 0) n hV2 (by omega) p0) fx (cwV 1 hts gX5_stuck_X5_isMirror rfl rfl rfl (by decide +kernel) ⟨Nat.le_of_ble_eq_true rfl, Nat.le_of_ble_eq_true rfl⟩) hK hP hD hS hA 0 rfl rfl rfl rfl hl.1 rfl (Nat.le_of_ble_eq_true rfl) dX5_stuck_7 ⟨Nat.le_of_ble_eq_true rfl, Nat.le_of_ble_eq_true rfl⟩ (fun r_1 u_2 H locs hw_3 hP hD hS => ?_)
  have hP : va_P (dC, dI) vwCl (wM cI cZ cJ h F G (va_up V 0 0)) H := hP
  have hD : va_D A (wM cI cZ cJ h F G (va_up V 0 0)) := hD
  have hw_3 : r_1 = bI ((!ltI p0 0 && ltI p0 (nI n))) := hw_3
  refine lv_if_ne (tgt := 15) hx hb dX5_stuck_10 (by decide) (fun c_4 => ?_) (fun c_4 => ?_)
  · have c_4 : (!ltI p0 0 && ltI p0 (nI n)) = true := bI_t hw_3 c_4
    refine lv_aload_n hx hb dX5_stuck_15 rfl (lv_at hl 0 rfl) ?_
    obtain ⟨k0, hk0, rfl⟩ := mir_nat bV2 c_4
    refine cw_Vi (As := []) (rest := []) (c_X5_agreeing l dC dI cI cZ cJ h F G (va_up V 0 0) n hV2 (by omega) sh hV11 (by omega)) fx (cwV 0 hts gX5_stuck_X5_agreeing rfl rfl rfl (by decide +kernel) ⟨Nat.le_of_ble_eq_true rfl, Nat.le_of_ble_eq_true rfl⟩) hK hP hD hS hA 0 rfl rfl rfl rfl hl.1 rfl (Nat.le_of_ble_eq_true rfl) dX5_stuck_16 ⟨Nat.le_of_ble_eq_true rfl, Nat.le_of_ble_eq_true rfl⟩ (fun r_5 u_6 H locs hw_7 hP hD hS => ?_)
    obtain ⟨F_8, rfl⟩ : ∃ z, z = u_6 := ⟨_, rfl⟩
    have hf_9 : ∀ j, j ∉ ([21] : List Nat) → F_8 j = F j := hw_7.2.1
    have hP : va_P (dC, dI) vwCl (wM cI cZ cJ h F_8 G (va_up V 0 0)) H := hP
    have hD : va_D A (wM cI cZ cJ h F_8 G (va_up V 0 0)) := hD
    have hN_10 : ∀ i, i < 40 → F_8 3 i = nI (So i) := by rw [hf_9 3 (by decide)]; exact hSo
    have hN_11 : ∀ i, i < 4 → F_8 4 i = nI (Lm i) := by rw [hf_9 4 (by decide)]; exact hLm
    have hN_12 : ∀ i, i < 24 → F_8 7 i = nI (Hh i) := by rw [hf_9 7 (by decide)]; exact hHh
    have hN_13 : ∀ i, i < 24 → F_8 8 i = nI (Wd i) := by rw [hf_9 8 (by decide)]; exact hWd
    have hN_14 : ∀ i, i < 24 → F_8 9 i = nI (Pr i) := by rw [hf_9 9 (by decide)]; exact hPr
    have hN_15 : ∀ i, i < n → F_8 1 i = nI (X i) := by rw [hf_9 1 (by decide)]; exact hX
    have hN_16 : ∀ i, i < n → F_8 2 i = nI (Y i) := by rw [hf_9 2 (by decide)]; exact hY
    refine lv_istore_n (lv' := [(2, .int r_5), (0, .ref (h 0)), (1, .int (nI k0))]) hx hb dX5_stuck_19 rfl hl (by decide) rfl (fun ls hl => ?_)
    refine lv_iload_n hx hb dX5_stuck_20 rfl (lv_at hl 0 rfl) ?_
    refine lv_if_ne (tgt := 28) hx hb dX5_stuck_21 (by decide) (fun c_17 => ?_) (fun c_17 => ?_)
    · have c_17 : eqI r_5 0 = false := decide_eq_false c_17
      refine lv_aload_n hx hb dX5_stuck_28 rfl (lv_at hl 1 rfl) ?_
      refine va_get (D := (dC, dI)) (ci := 5) (v := .ref (h 21)) (C := RX5) (T := TX5) (N := 33) hx hb hts hin_X5 hown hK hP 0 rfl rfl 32 (by decide) hw2 (fun _ h9 => h9) rfl dX5_stuck_29 ?_
      refine lv_iload_n hx hb dX5_stuck_32 rfl (lv_at hl 2 rfl) ?_
      refine va_iald hx hb hK hP 21 0 rfl rfl (vp_in_nI (n := k0) (N := 40) (by omega) (by decide)) dX5_stuck_33 ?_
      refine lv_topi (fun x_18 ex_18 => ?_)
      rw [nI_clamp (n := k0) (by omega)] at ex_18
      refine lv_iload_n hx hb dX5_stuck_34 rfl (lv_at hl 0 rfl) ?_
      refine lv_icmp_ne (tgt := 42) hx hb dX5_stuck_35 (by decide) (fun c_19 => ?_) (fun c_19 => ?_)
      · have c_19 : eqI x_18 r_5 = false := decide_eq_false c_19
        refine lv_aload_n hx hb dX5_stuck_42 rfl (lv_at hl 1 rfl) ?_
        refine va_get (D := (dC, dI)) (ci := 5) (v := .ref (h 21)) (C := RX5) (T := TX5) (N := 33) hx hb hts hin_X5 hown hK hP 0 rfl rfl 32 (by decide) hw2 (fun _ h9 => h9) rfl dX5_stuck_43 ?_
        refine lv_iload_n hx hb dX5_stuck_46 rfl (lv_at hl 2 rfl) ?_
        refine va_iald hx hb hK hP 21 0 rfl rfl (vp_in_nI (n := k0) (N := 40) (by omega) (by decide)) dX5_stuck_47 ?_
        refine lv_topi (fun x_20 ex_20 => ?_)
        rw [nI_clamp (n := k0) (by omega)] at ex_20
        refine lv_if_ne (tgt := 55) hx hb dX5_stuck_48 (by decide) (fun c_21 => ?_) (fun c_21 => ?_)
        · have c_21 : eqI x_20 0 = false := decide_eq_false c_21
          refine lv_iconst (v := 2) hx hb dX5_stuck_55 (by decide) ?_
          exact hret 2 (F_8, G, va_up V 0 0) H locs 56 ls rfl dX5_stuck_56 (by
                        refine ⟨?_, ?_⟩
                        · (try dsimp only)
                          first | done | exact trivial
                        · (try dsimp only)
                          exact ⟨⟨hV2, by omega⟩, ⟨hV3, by omega⟩, ⟨hV4, by omega⟩, ⟨hV6, by omega⟩, ⟨hV7, by omega⟩, ⟨hV10, by omega⟩, ⟨sh, hV11, by omega⟩, ⟨hN_10, bSo⟩, ⟨hN_11, bLm⟩, ⟨hN_12, bHh⟩, ⟨hN_13, bWd⟩, ⟨hN_14, bPr⟩, ⟨hN_15, bX⟩, ⟨hN_16, bY⟩, ⟨am, hV8, by omega, by omega⟩, hGP, (fun i hi => (congrFun (hf_9 5 (by decide)) i).trans (hSX i hi)), (fun i hi => (congrFun (hf_9 6 (by decide)) i).trans (hSY i hi)), (fun i hi => (congrFun (hf_9 13 (by decide)) i).trans (hKc i hi)), (fun i hi => (congrFun (hf_9 15 (by decide)) i).trans (hKp i hi)), ((show (va_up V 0 0) 5 = V 5 from rfl)).trans hE, (fun t h1 h2 => (congrFun (hf_9 17 (by decide)) t).trans (hRB t h1 h2))⟩) (hP) (hD) hS
        · have c_21 : eqI x_20 0 = true := decide_eq_true c_21
          refine lv_iconst (v := 0) hx hb dX5_stuck_51 (by decide) ?_
          refine lv_goto (tgt := 56) hx hb dX5_stuck_52 (by decide) ?_
          exact hret 0 (F_8, G, va_up V 0 0) H locs 56 ls rfl dX5_stuck_56 (by
                        refine ⟨?_, ?_⟩
                        · (try dsimp only)
                          first | done | exact trivial
                        · (try dsimp only)
                          exact ⟨⟨hV2, by omega⟩, ⟨hV3, by omega⟩, ⟨hV4, by omega⟩, ⟨hV6, by omega⟩, ⟨hV7, by omega⟩, ⟨hV10, by omega⟩, ⟨sh, hV11, by omega⟩, ⟨hN_10, bSo⟩, ⟨hN_11, bLm⟩, ⟨hN_12, bHh⟩, ⟨hN_13, bWd⟩, ⟨hN_14, bPr⟩, ⟨hN_15, bX⟩, ⟨hN_16, bY⟩, ⟨am, hV8, by omega, by omega⟩, hGP, (fun i hi => (congrFun (hf_9 5 (by decide)) i).trans (hSX i hi)), (fun i hi => (congrFun (hf_9 6 (by decide)) i).trans (hSY i hi)), (fun i hi => (congrFun (hf_9 13 (by decide)) i).trans (hKc i hi)), (fun i hi => (congrFun (hf_9 15 (by decide)) i).trans (hKp i hi)), ((show (va_up V 0 0) 5 = V 5 from rfl)).trans hE, (fun t h1 h2 => (congrFun (hf_9 17 (by decide)) t).trans (hRB t h1 h2))⟩) (hP) (hD) hS
      · have c_19 : eqI x_18 r_5 = true := decide_eq_true c_19
        refine lv_iconst (v := 1) hx hb dX5_stuck_38 (by decide) ?_
        refine lv_goto (tgt := 56) hx hb dX5_stuck_39 (by decide) ?_
        exact hret 1 (F_8, G, va_up V 0 0) H locs 56 ls rfl dX5_stuck_56 (by
                      refine ⟨?_, ?_⟩
                      · (try dsimp only)
                        first | done | exact trivial
                      · (try dsimp only)
                        exact ⟨⟨hV2, by omega⟩, ⟨hV3, by omega⟩, ⟨hV4, by omega⟩, ⟨hV6, by omega⟩, ⟨hV7, by omega⟩, ⟨hV10, by omega⟩, ⟨sh, hV11, by omega⟩, ⟨hN_10, bSo⟩, ⟨hN_11, bLm⟩, ⟨hN_12, bHh⟩, ⟨hN_13, bWd⟩, ⟨hN_14, bPr⟩, ⟨hN_15, bX⟩, ⟨hN_16, bY⟩, ⟨am, hV8, by omega, by omega⟩, hGP, (fun i hi => (congrFun (hf_9 5 (by decide)) i).trans (hSX i hi)), (fun i hi => (congrFun (hf_9 6 (by decide)) i).trans (hSY i hi)), (fun i hi => (congrFun (hf_9 13 (by decide)) i).trans (hKc i hi)), (fun i hi => (congrFun (hf_9 15 (by decide)) i).trans (hKp i hi)), ((show (va_up V 0 0) 5 = V 5 from rfl)).trans hE, (fun t h1 h2 => (congrFun (hf_9 17 (by decide)) t).trans (hRB t h1 h2))⟩) (hP) (hD) hS
    · have c_17 : eqI r_5 0 = true := decide_eq_true c_17
      refine lv_iconst (v := 2) hx hb dX5_stuck_24 (by decide) ?_
      refine lv_goto (tgt := 56) hx hb dX5_stuck_25 (by decide) ?_
      exact hret 2 (F_8, G, va_up V 0 0) H locs 56 ls rfl dX5_stuck_56 (by
                    refine ⟨?_, ?_⟩
                    · (try dsimp only)
                      first | done | exact trivial
                    · (try dsimp only)
                      exact ⟨⟨hV2, by omega⟩, ⟨hV3, by omega⟩, ⟨hV4, by omega⟩, ⟨hV6, by omega⟩, ⟨hV7, by omega⟩, ⟨hV10, by omega⟩, ⟨sh, hV11, by omega⟩, ⟨hN_10, bSo⟩, ⟨hN_11, bLm⟩, ⟨hN_12, bHh⟩, ⟨hN_13, bWd⟩, ⟨hN_14, bPr⟩, ⟨hN_15, bX⟩, ⟨hN_16, bY⟩, ⟨am, hV8, by omega, by omega⟩, hGP, (fun i hi => (congrFun (hf_9 5 (by decide)) i).trans (hSX i hi)), (fun i hi => (congrFun (hf_9 6 (by decide)) i).trans (hSY i hi)), (fun i hi => (congrFun (hf_9 13 (by decide)) i).trans (hKc i hi)), (fun i hi => (congrFun (hf_9 15 (by decide)) i).trans (hKp i hi)), ((show (va_up V 0 0) 5 = V 5 from rfl)).trans hE, (fun t h1 h2 => (congrFun (hf_9 17 (by decide)) t).trans (hRB t h1 h2))⟩) (hP) (hD) hS
  · have c_4 : (!ltI p0 0 && ltI p0 (nI n)) = false := bI_f hw_3 c_4
    refine lv_iconst (v := (-1)) hx hb dX5_stuck_13 (by decide) ?_
    exact hret (-1) (F, G, va_up V 0 0) H locs 14 ls rfl dX5_stuck_14 (by
                  refine ⟨?_, ?_⟩
                  · (try dsimp only)
                    first | done | exact trivial
                  · (try dsimp only)
                    exact ⟨⟨hV2, by omega⟩, ⟨hV3, by omega⟩, ⟨hV4, by omega⟩, ⟨hV6, by omega⟩, ⟨hV7, by omega⟩, ⟨hV10, by omega⟩, ⟨sh, hV11, by omega⟩, ⟨hSo, bSo⟩, ⟨hLm, bLm⟩, ⟨hHh, bHh⟩, ⟨hWd, bWd⟩, ⟨hPr, bPr⟩, ⟨hX, bX⟩, ⟨hY, bY⟩, ⟨am, hV8, by omega, by omega⟩, hGP, (fun i hi => (congrFun (Eq.refl (F 5)) i).trans (hSX i hi)), (fun i hi => (congrFun (Eq.refl (F 6)) i).trans (hSY i hi)), (fun i hi => (congrFun (Eq.refl (F 13)) i).trans (hKc i hi)), (fun i hi => (congrFun (Eq.refl (F 15)) i).trans (hKp i hi)), ((show (va_up V 0 0) 5 = V 5 from rfl)).trans hE, (fun t h1 h2 => (congrFun (Eq.refl (F 17)) t).trans (hRB t h1 h2))⟩) (hP) (hD) hS
def rm_X5_unsure : Room := { frames := 3, cells := 0, slots := 0, locals := 71 }
set_option maxHeartbeats 4000000 in
set_option maxRecDepth 100000 in
theorem c_X5_unsure (l : Launch) (dC : Nat → ClassId) (dI : Nat → Nat → Nat) (cI cZ cJ : ClassId) (h : Nat → Nat) (F : Nat → Nat → Int32) (G : Nat → Int64) (V : Nat → Int32) (n : Nat) (hV2 : V 2 = nI n) (bV2 : n ≤ 40) (nw : Nat) (hV3 : V 3 = nI nw) (bV3 : nw ≤ 23) (un : Nat) (hV4 : V 4 = nI un) (bV4 : un ≤ 200) (d : Nat) (hV6 : V 6 = nI d) (bV6 : d ≤ 20) (wm : Nat) (hV7 : V 7 = nI wm) (bV7 : wm ≤ 1) (pf : Nat) (hV10 : V 10 = nI pf) (bV10 : pf ≤ 24) (sh : Nat) (hV11 : V 11 = nI sh) (bV11 : sh ≤ 12) (So : Nat → Nat) (hSo : ∀ i, i < 40 → F 3 i = nI (So i)) (bSo : ∀ i, i < 40 → So i ≤ 90) (Lm : Nat → Nat) (hLm : ∀ i, i < 4 → F 4 i = nI (Lm i)) (bLm : ∀ i, i < 4 → Lm i ≤ 10000) (Hh : Nat → Nat) (hHh : ∀ i, i < 24 → F 7 i = nI (Hh i)) (bHh : ∀ i, i < 24 → Hh i ≤ 9) (Wd : Nat → Nat) (hWd : ∀ i, i < 24 → F 8 i = nI (Wd i)) (bWd : ∀ i, i < 24 → Wd i ≤ 99) (Pr : Nat → Nat) (hPr : ∀ i, i < 24 → F 9 i = nI (Pr i)) (bPr : ∀ i, i < 24 → Pr i ≤ 999) (X : Nat → Nat) (hX : ∀ i, i < n → F 1 i = nI (X i)) (bX : ∀ i, i < n → X i ≤ 14) (Y : Nat → Nat) (hY : ∀ i, i < n → F 2 i = nI (Y i)) (bY : ∀ i, i < n → Y i ≤ 14)   (ks am : Nat) (hV8 : V 8 = nI am - 1) (bam : am ≤ 41) (hks : am - 1 = ks) (SX SY Kc Kp : Nat → Int32) (er : Int32) (rb : Nat → Bool) (hGP : GP n X Y) (hSX : ∀ i, i < 24 → F 5 i = SX i) (hSY : ∀ i, i < 24 → F 6 i = SY i) (hKc : ∀ i, i < ks → F 13 i = Kc i) (hKp : ∀ i, i < 4 → F 15 i = Kp i) (hE : V 5 = er) (hRB : ∀ t, pf ≤ t → t < 24 → F 17 t = bI (rb t)) : CtI l (dC, dI) vwCl (tys3 cI cZ cJ) yX5_unsure wsX5_unsure rm_X5_unsure [.ref (h 0)] (wM cI cZ cJ h F G V) (S := (Nat → Nat → Int32) × (Nat → Int64) × (Nat → Int32)) (fun r u => (True) ∧ VM n d ks nw un wm pf So Hh Wd Lm Pr X Y SX SY Kc Kp er rb u.1 u.2.2) (fun u => wM cI cZ cJ h u.1 u.2.1 u.2.2) 0 0 := by
  refine ct_I (cc := cX5_unsure) (maxL := 4) (ty := .int) (own := RX5) (by decide) rfl rfl (Nat.le_of_ble_eq_true rfl) (lv := [(0, .ref (h 0))]) rfl ?_
  intro p e s m args below meth c A Q ls fx hK hP hD hA hl hret
  obtain ⟨hx, hb, hml, hown, hts⟩ := id fx
  have hS : va_S A s.heap s.heap [] := va_S.rf
  have hw0 := hts (.fieldLink RX5 1 "MirrorTowerModel" "thrown" "I") (by decide +kernel)
  have hin_X5 : ∀ w ∈ u_ws RX5 TX5 33, w ∈ wsX5_unsure := by decide +kernel
  have hw2 := hts (.fieldLink RX5 91 "MirrorTowerModel" "mirrors" "I") (by decide +kernel)
  have hw3 := hts (.fieldLink RX5 88 "MirrorTowerModel" "inSets" "[I") (by decide +kernel)
  obtain ⟨H, hH⟩ : ∃ H, H = s.heap := ⟨_, rfl⟩
  rw [← hH] at hP ⊢
  have hS : va_S A s.heap H [] := by rw [hH]; exact hS
  generalize ([] : List Loc) = locs at hS ⊢
  refine lv_aload_n hx hb dX5_unsure_0 rfl (lv_at hl 0 rfl) ?_
  refine lv_iconst (v := 0) hx hb dX5_unsure_1 (by decide) ?_
  refine va_put (D := (dC, dI)) (ci := 5) (v := .int 0) (ty := .int) (C := RX5) (T := TX5) (N := 33) hx hb hts hin_X5 tyX5 tyX5_ok nmX5 hown hK hP hD hS 0 rfl rfl 0 (by decide) hw0 (fun _ h9 => h9) rfl (by decide +kernel) rfl rfl (Nat.le_of_ble_eq_true rfl) dX5_unsure_2 (fun H locs hP hD hS => ?_)
  have hP : va_P (dC, dI) vwCl (wM cI cZ cJ h F G (va_up V 0 0)) H := hP
  have hD : va_D A (wM cI cZ cJ h F G (va_up V 0 0)) := hD
  refine lv_aload_n hx hb dX5_unsure_5 rfl (lv_at hl 0 rfl) ?_
  refine cw_Vi (As := []) (rest := []) (c_X5_agreeing l dC dI cI cZ cJ h F G (va_up V 0 0) n hV2 (by omega) sh hV11 (by omega)) fx (cwV 0 hts gX5_unsure_X5_agreeing rfl rfl rfl (by decide +kernel) ⟨Nat.le_of_ble_eq_true rfl, Nat.le_of_ble_eq_true rfl⟩) hK hP hD hS hA 0 rfl rfl rfl rfl hl.1 rfl (Nat.le_of_ble_eq_true rfl) dX5_unsure_6 ⟨Nat.le_of_ble_eq_true rfl, Nat.le_of_ble_eq_true rfl⟩ (fun r_1 u_2 H locs hw_3 hP hD hS => ?_)
  obtain ⟨F_4, rfl⟩ : ∃ z, z = u_2 := ⟨_, rfl⟩
  have hf_5 : ∀ j, j ∉ ([21] : List Nat) → F_4 j = F j := hw_3.2.1
  have hP : va_P (dC, dI) vwCl (wM cI cZ cJ h F_4 G (va_up V 0 0)) H := hP
  have hD : va_D A (wM cI cZ cJ h F_4 G (va_up V 0 0)) := hD
  have hN_6 : ∀ i, i < 40 → F_4 3 i = nI (So i) := by rw [hf_5 3 (by decide)]; exact hSo
  have hN_7 : ∀ i, i < 4 → F_4 4 i = nI (Lm i) := by rw [hf_5 4 (by decide)]; exact hLm
  have hN_8 : ∀ i, i < 24 → F_4 7 i = nI (Hh i) := by rw [hf_5 7 (by decide)]; exact hHh
  have hN_9 : ∀ i, i < 24 → F_4 8 i = nI (Wd i) := by rw [hf_5 8 (by decide)]; exact hWd
  have hN_10 : ∀ i, i < 24 → F_4 9 i = nI (Pr i) := by rw [hf_5 9 (by decide)]; exact hPr
  have hN_11 : ∀ i, i < n → F_4 1 i = nI (X i) := by rw [hf_5 1 (by decide)]; exact hX
  have hN_12 : ∀ i, i < n → F_4 2 i = nI (Y i) := by rw [hf_5 2 (by decide)]; exact hY
  refine lv_istore_n (lv' := [(1, .int r_1), (0, .ref (h 0))]) hx hb dX5_unsure_9 rfl hl (by decide) rfl (fun ls hl => ?_)
  refine lv_iconst (v := 0) hx hb dX5_unsure_10 (by decide) ?_
  refine lv_istore_n (lv' := [(2, .int 0), (1, .int r_1), (0, .ref (h 0))]) hx hb dX5_unsure_11 rfl hl (by decide) rfl (fun ls hl => ?_)
  refine lv_iconst (v := 0) hx hb dX5_unsure_12 (by decide) ?_
  refine lv_istore_n (lv' := [(3, .int 0), (2, .int 0), (1, .int r_1), (0, .ref (h 0))]) hx hb dX5_unsure_13 rfl hl (by decide) rfl (fun ls hl => ?_)
  have loop14 : ∀ (fu : Nat) (x : Int32) (k : Nat), (k ≤ n) → (n - k) < fu → ∀ (H : Heap) (locs : List Loc) (ls : Array Slot), va_P (dC, dI) vwCl (wM cI cZ cJ h F_4 G (va_up V 0 0)) H → va_D A (wM cI cZ cJ h F_4 G (va_up V 0 0)) → va_S A s.heap H locs → lv_has ls 4 [(0, .ref (h 0)), (1, .int r_1), (2, .int x), (3, .int (nI k))] → W p l e rm_X5_unsure s m args below meth c H locs 0 0 Q (F0 m 14 ls []) := by
    intro fu
    induction fu with
    | zero => intro x k hk hn_; exact absurd hn_ (Nat.not_lt_zero _)
    | succ fu ih14 =>
      intro x k hk hn_ H locs ls hP hD hS hl
      refine lv_iload_n hx hb dX5_unsure_14 rfl (lv_at hl 3 rfl) ?_
      refine lv_aload_n hx hb dX5_unsure_15 rfl (lv_at hl 0 rfl) ?_
      refine va_get (D := (dC, dI)) (ci := 5) (v := .int (V 2)) (C := RX5) (T := TX5) (N := 33) hx hb hts hin_X5 hown hK hP 0 rfl rfl 2 (by decide) hw2 (fun _ h9 => h9) rfl dX5_unsure_16 ?_
      refine lv_topi (fun x_13 ex_13 => ?_)
      obtain rfl : x_13 = nI n := ex_13.trans (hV2)
      refine lv_icmp_ge (tgt := 59) hx hb dX5_unsure_19 (by decide) (fun c_14 => ?_) (fun c_14 => ?_)
      · have c_14 : n ≤ k := (nI_leI (a := n) (b := k) (by omega) (by omega)).mp c_14
        refine lv_iload_n hx hb dX5_unsure_59 rfl (lv_at hl 2 rfl) ?_
        exact hret x (F_4, G, va_up V 0 0) H locs 60 ls rfl dX5_unsure_60 (by
                      refine ⟨?_, ?_⟩
                      · (try dsimp only)
                        first | done | exact trivial
                      · (try dsimp only)
                        exact ⟨⟨hV2, by omega⟩, ⟨hV3, by omega⟩, ⟨hV4, by omega⟩, ⟨hV6, by omega⟩, ⟨hV7, by omega⟩, ⟨hV10, by omega⟩, ⟨sh, hV11, by omega⟩, ⟨hN_6, bSo⟩, ⟨hN_7, bLm⟩, ⟨hN_8, bHh⟩, ⟨hN_9, bWd⟩, ⟨hN_10, bPr⟩, ⟨hN_11, bX⟩, ⟨hN_12, bY⟩, ⟨am, hV8, by omega, by omega⟩, hGP, (fun i hi => (congrFun (hf_5 5 (by decide)) i).trans (hSX i hi)), (fun i hi => (congrFun (hf_5 6 (by decide)) i).trans (hSY i hi)), (fun i hi => (congrFun (hf_5 13 (by decide)) i).trans (hKc i hi)), (fun i hi => (congrFun (hf_5 15 (by decide)) i).trans (hKp i hi)), ((show (va_up V 0 0) 5 = V 5 from rfl)).trans hE, (fun t h1 h2 => (congrFun (hf_5 17 (by decide)) t).trans (hRB t h1 h2))⟩) (hP) (hD) hS
      · have c_14 : ¬ n ≤ k := fun h => c_14 ((nI_leI (a := n) (b := k) (by omega) (by omega)).mpr h)
        refine lv_iload_n hx hb dX5_unsure_22 rfl (lv_at hl 2 rfl) ?_
        refine lv_iload_n hx hb dX5_unsure_23 rfl (lv_at hl 1 rfl) ?_
        refine lv_if_eq (tgt := 46) hx hb dX5_unsure_24 (by decide) (fun c_15 => ?_) (fun c_15 => ?_)
        · have c_15 : eqI r_1 0 = true := decide_eq_true c_15
          refine lv_iconst (v := 1) hx hb dX5_unsure_46 (by decide) ?_
          refine lv_goto (tgt := 51) hx hb dX5_unsure_47 (by decide) ?_
          refine lv_iadd hx hb dX5_unsure_51 ?_
          refine lv_istore_n (lv' := [(2, .int (x + 1)), (0, .ref (h 0)), (1, .int r_1), (3, .int (nI k))]) hx hb dX5_unsure_52 rfl hl (by decide) rfl (fun ls hl => ?_)
          refine lv_iinc (v := nI (k + 1)) (lv' := [(3, .int (nI (k + 1))), (2, .int (x + 1)), (0, .ref (h 0)), (1, .int r_1)]) hx hb dX5_unsure_53 hl (k := 3) rfl (nI_1 _) (by decide) rfl (fun ls hl => ?_)
          refine lv_goto (tgt := 14) hx hb dX5_unsure_56 (by decide) ?_
          exact ih14 (x + 1) (k + 1) (by omega) (by omega) H locs ls hP hD hS (lv_sub hl [2, 3, 1, 0] rfl)
        · have c_15 : eqI r_1 0 = false := decide_eq_false c_15
          refine lv_aload_n hx hb dX5_unsure_27 rfl (lv_at hl 0 rfl) ?_
          refine va_get (D := (dC, dI)) (ci := 5) (v := .ref (h 21)) (C := RX5) (T := TX5) (N := 33) hx hb hts hin_X5 hown hK hP 0 rfl rfl 32 (by decide) hw3 (fun _ h9 => h9) rfl dX5_unsure_28 ?_
          refine lv_iload_n hx hb dX5_unsure_31 rfl (lv_at hl 3 rfl) ?_
          refine va_iald hx hb hK hP 21 0 rfl rfl (vp_in_nI (n := k) (N := 40) (by omega) (by decide)) dX5_unsure_32 ?_
          refine lv_topi (fun x_16 ex_16 => ?_)
          rw [nI_clamp (n := k) (by omega)] at ex_16
          refine lv_if_le (tgt := 50) hx hb dX5_unsure_33 (by decide) (fun c_17 => ?_) (fun c_17 => ?_)
          · have c_17 : ltI 0 x_16 = false := decide_eq_false (Int32.not_lt.mpr c_17)
            refine lv_iconst (v := 0) hx hb dX5_unsure_50 (by decide) ?_
            refine lv_iadd hx hb dX5_unsure_51 ?_
            refine lv_istore_n (lv' := [(2, .int (x + 0)), (0, .ref (h 0)), (1, .int r_1), (3, .int (nI k))]) hx hb dX5_unsure_52 rfl hl (by decide) rfl (fun ls hl => ?_)
            refine lv_iinc (v := nI (k + 1)) (lv' := [(3, .int (nI (k + 1))), (2, .int (x + 0)), (0, .ref (h 0)), (1, .int r_1)]) hx hb dX5_unsure_53 hl (k := 3) rfl (nI_1 _) (by decide) rfl (fun ls hl => ?_)
            refine lv_goto (tgt := 14) hx hb dX5_unsure_56 (by decide) ?_
            exact ih14 (x + 0) (k + 1) (by omega) (by omega) H locs ls hP hD hS (lv_sub hl [2, 3, 1, 0] rfl)
          · have c_17 : ltI 0 x_16 = true := decide_eq_true (Int32.not_le.mp c_17)
            refine lv_aload_n hx hb dX5_unsure_36 rfl (lv_at hl 0 rfl) ?_
            refine va_get (D := (dC, dI)) (ci := 5) (v := .ref (h 21)) (C := RX5) (T := TX5) (N := 33) hx hb hts hin_X5 hown hK hP 0 rfl rfl 32 (by decide) hw3 (fun _ h9 => h9) rfl dX5_unsure_37 ?_
            refine lv_iload_n hx hb dX5_unsure_40 rfl (lv_at hl 3 rfl) ?_
            refine va_iald hx hb hK hP 21 0 rfl rfl (vp_in_nI (n := k) (N := 40) (by omega) (by decide)) dX5_unsure_41 ?_
            refine lv_topi (fun x_18 ex_18 => ?_)
            rw [nI_clamp (n := k) (by omega)] at ex_18
            refine lv_iload_n hx hb dX5_unsure_42 rfl (lv_at hl 1 rfl) ?_
            refine lv_icmp_ge (tgt := 50) hx hb dX5_unsure_43 (by decide) (fun c_19 => ?_) (fun c_19 => ?_)
            · have c_19 : ltI x_18 r_1 = false := decide_eq_false (Int32.not_lt.mpr c_19)
              refine lv_iconst (v := 0) hx hb dX5_unsure_50 (by decide) ?_
              refine lv_iadd hx hb dX5_unsure_51 ?_
              refine lv_istore_n (lv' := [(2, .int (x + 0)), (0, .ref (h 0)), (1, .int r_1), (3, .int (nI k))]) hx hb dX5_unsure_52 rfl hl (by decide) rfl (fun ls hl => ?_)
              refine lv_iinc (v := nI (k + 1)) (lv' := [(3, .int (nI (k + 1))), (2, .int (x + 0)), (0, .ref (h 0)), (1, .int r_1)]) hx hb dX5_unsure_53 hl (k := 3) rfl (nI_1 _) (by decide) rfl (fun ls hl => ?_)
              refine lv_goto (tgt := 14) hx hb dX5_unsure_56 (by decide) ?_
              exact ih14 (x + 0) (k + 1) (by omega) (by omega) H locs ls hP hD hS (lv_sub hl [2, 3, 1, 0] rfl)
            · have c_19 : ltI x_18 r_1 = true := decide_eq_true (Int32.not_le.mp c_19)
              refine lv_iconst (v := 1) hx hb dX5_unsure_46 (by decide) ?_
              refine lv_goto (tgt := 51) hx hb dX5_unsure_47 (by decide) ?_
              refine lv_iadd hx hb dX5_unsure_51 ?_
              refine lv_istore_n (lv' := [(2, .int (x + 1)), (0, .ref (h 0)), (1, .int r_1), (3, .int (nI k))]) hx hb dX5_unsure_52 rfl hl (by decide) rfl (fun ls hl => ?_)
              refine lv_iinc (v := nI (k + 1)) (lv' := [(3, .int (nI (k + 1))), (2, .int (x + 1)), (0, .ref (h 0)), (1, .int r_1)]) hx hb dX5_unsure_53 hl (k := 3) rfl (nI_1 _) (by decide) rfl (fun ls hl => ?_)
              refine lv_goto (tgt := 14) hx hb dX5_unsure_56 (by decide) ?_
              exact ih14 (x + 1) (k + 1) (by omega) (by omega) H locs ls hP hD hS (lv_sub hl [2, 3, 1, 0] rfl)
  exact loop14 _ 0 0 (by omega) (Nat.lt_succ_self _) H locs ls hP hD hS (lv_sub hl [3, 2, 1, 0] rfl)
def rm_X5_mirror : Room := { frames := 1, cells := 0, slots := 0, locals := 22 }
set_option maxHeartbeats 4000000 in
set_option maxRecDepth 100000 in
theorem c_X5_mirror (l : Launch) (dC : Nat → ClassId) (dI : Nat → Nat → Nat) (cI cZ cJ : ClassId) (h : Nat → Nat) (F : Nat → Nat → Int32) (G : Nat → Int64) (V : Nat → Int32) (n : Nat) (hV2 : V 2 = nI n) (bV2 : n ≤ 40) (nw : Nat) (hV3 : V 3 = nI nw) (bV3 : nw ≤ 23) (un : Nat) (hV4 : V 4 = nI un) (bV4 : un ≤ 200) (d : Nat) (hV6 : V 6 = nI d) (bV6 : d ≤ 20) (wm : Nat) (hV7 : V 7 = nI wm) (bV7 : wm ≤ 1) (pf : Nat) (hV10 : V 10 = nI pf) (bV10 : pf ≤ 24) (sh : Nat) (hV11 : V 11 = nI sh) (bV11 : sh ≤ 12) (So : Nat → Nat) (hSo : ∀ i, i < 40 → F 3 i = nI (So i)) (bSo : ∀ i, i < 40 → So i ≤ 90) (Lm : Nat → Nat) (hLm : ∀ i, i < 4 → F 4 i = nI (Lm i)) (bLm : ∀ i, i < 4 → Lm i ≤ 10000) (Hh : Nat → Nat) (hHh : ∀ i, i < 24 → F 7 i = nI (Hh i)) (bHh : ∀ i, i < 24 → Hh i ≤ 9) (Wd : Nat → Nat) (hWd : ∀ i, i < 24 → F 8 i = nI (Wd i)) (bWd : ∀ i, i < 24 → Wd i ≤ 99) (Pr : Nat → Nat) (hPr : ∀ i, i < 24 → F 9 i = nI (Pr i)) (bPr : ∀ i, i < 24 → Pr i ≤ 999) (X : Nat → Nat) (hX : ∀ i, i < n → F 1 i = nI (X i)) (bX : ∀ i, i < n → X i ≤ 14) (Y : Nat → Nat) (hY : ∀ i, i < n → F 2 i = nI (Y i)) (bY : ∀ i, i < n → Y i ≤ 14) (p0 p1 : Int32)  (ks am : Nat) (hV8 : V 8 = nI am - 1) (bam : am ≤ 41) (hks : am - 1 = ks) (SX SY Kc Kp : Nat → Int32) (er : Int32) (rb : Nat → Bool) (hGP : GP n X Y) (hSX : ∀ i, i < 24 → F 5 i = SX i) (hSY : ∀ i, i < 24 → F 6 i = SY i) (hKc : ∀ i, i < ks → F 13 i = Kc i) (hKp : ∀ i, i < 4 → F 15 i = Kp i) (hE : V 5 = er) (hRB : ∀ t, pf ≤ t → t < 24 → F 17 t = bI (rb t)) : CtI l (dC, dI) vwCl (tys3 cI cZ cJ) yX5_mirror wsX5_mirror rm_X5_mirror [.ref (h 0), .int p0, .int p1] (wM cI cZ cJ h F G V) (S := (Nat → Nat → Int32) × (Nat → Int64) × (Nat → Int32)) (fun r u => (r = (bif mOK p0 p1 n X Y then nI n else (-1))) ∧ VM (bif mOK p0 p1 n X Y then n + 1 else n) d ks nw un wm pf So Hh Wd Lm Pr (bif mOK p0 p1 n X Y then nup X n p0.toNatClampNeg else X) (bif mOK p0 p1 n X Y then nup Y n p1.toNatClampNeg else Y) SX SY Kc Kp er rb u.1 u.2.2) (fun u => wM cI cZ cJ h u.1 u.2.1 u.2.2) 0 0 := by
  refine ct_I (cc := cX5_mirror) (maxL := 5) (ty := .int) (own := RX5) (by decide) rfl rfl (Nat.le_of_ble_eq_true rfl) (lv := [(0, .ref (h 0)), (1, .int p0), (2, .int p1)]) rfl ?_
  intro p e s m args below meth c A Q ls fx hK hP hD hA hl hret
  obtain ⟨hx, hb, hml, hown, hts⟩ := id fx
  have hS : va_S A s.heap s.heap [] := va_S.rf
  have hw0 := hts (.fieldLink RX5 1 "MirrorTowerModel" "thrown" "I") (by decide +kernel)
  have hin_X5 : ∀ w ∈ u_ws RX5 TX5 33, w ∈ wsX5_mirror := by decide +kernel
  have hw2 := hts (.fieldLink RX5 91 "MirrorTowerModel" "mirrors" "I") (by decide +kernel)
  have hw3 := hts (.fieldLink RX5 19 "MirrorTowerModel" "x" "[I") (by decide +kernel)
  have hw4 := hts (.fieldLink RX5 23 "MirrorTowerModel" "y" "[I") (by decide +kernel)
  obtain ⟨H, hH⟩ : ∃ H, H = s.heap := ⟨_, rfl⟩
  rw [← hH] at hP ⊢
  have hS : va_S A s.heap H [] := by rw [hH]; exact hS
  generalize ([] : List Loc) = locs at hS ⊢
  refine lv_aload_n hx hb dX5_mirror_0 rfl (lv_at hl 0 rfl) ?_
  refine lv_iconst (v := 0) hx hb dX5_mirror_1 (by decide) ?_
  refine va_put (D := (dC, dI)) (ci := 5) (v := .int 0) (ty := .int) (C := RX5) (T := TX5) (N := 33) hx hb hts hin_X5 tyX5 tyX5_ok nmX5 hown hK hP hD hS 0 rfl rfl 0 (by decide) hw0 (fun _ h9 => h9) rfl (by decide +kernel) rfl rfl (Nat.le_of_ble_eq_true rfl) dX5_mirror_2 (fun H locs hP hD hS => ?_)
  have hP : va_P (dC, dI) vwCl (wM cI cZ cJ h F G (va_up V 0 0)) H := hP
  have hD : va_D A (wM cI cZ cJ h F G (va_up V 0 0)) := hD
  refine lv_iload_n hx hb dX5_mirror_5 rfl (lv_at hl 1 rfl) ?_
  refine lv_iconst (v := 0) hx hb dX5_mirror_6 (by decide) ?_
  refine lv_bipush (v := 14) hx hb dX5_mirror_7 (by decide) ?_
  refine cw_Si (As := [.int p0, .int 0, .int 14]) (rest := []) (c_X5_in l dC dI cI cZ cJ (wM cI cZ cJ h F G (va_up V 0 0)) p0 0 14) fx (va_cwS 3 hts gX5_mirror_X5_in rfl rfl rfl (by decide +kernel) ⟨Nat.le_of_ble_eq_true rfl, Nat.le_of_ble_eq_true rfl⟩) hK hP hD hS hA rfl hl.1 rfl (Nat.le_of_ble_eq_true rfl) dX5_mirror_9 ⟨Nat.le_of_ble_eq_true rfl, Nat.le_of_ble_eq_true rfl⟩ (fun r_1 u_2 H locs hw_3 hP hD hS => ?_)
  have hP : va_P (dC, dI) vwCl (wM cI cZ cJ h F G (va_up V 0 0)) H := hP
  have hD : va_D A (wM cI cZ cJ h F G (va_up V 0 0)) := hD
  have hw_3 : r_1 = bI (isW p0 0 14) := hw_3
  refine lv_if_eq (tgt := 25) hx hb dX5_mirror_12 (by decide) (fun c_4 => ?_) (fun c_4 => ?_)
  · have c_4 : isW p0 0 14 = false := bI_f hw_3 c_4
    refine lv_aload_n hx hb dX5_mirror_25 rfl (lv_at hl 0 rfl) ?_
    refine lv_iconst (v := 2) hx hb dX5_mirror_26 (by decide) ?_
    refine cw_Vi (As := [.int 2]) (rest := []) (c_X5_refused l dC dI cI cZ cJ h F G (va_up V 0 0) 2) fx (cwV 1 hts gX5_mirror_X5_refused rfl rfl rfl (by decide +kernel) ⟨Nat.le_of_ble_eq_true rfl, Nat.le_of_ble_eq_true rfl⟩) hK hP hD hS hA 0 rfl rfl rfl rfl hl.1 rfl (Nat.le_of_ble_eq_true rfl) dX5_mirror_27 ⟨Nat.le_of_ble_eq_true rfl, Nat.le_of_ble_eq_true rfl⟩ (fun r_5 u_6 H locs hw_7 hP hD hS => ?_)
    have hP : va_P (dC, dI) vwCl (wM cI cZ cJ h F G (va_up (va_up V 0 0) 1 2)) H := hP
    have hD : va_D A (wM cI cZ cJ h F G (va_up (va_up V 0 0) 1 2)) := hD
    obtain rfl : r_5 = (-1) := hw_7
    exact hret (-1) (F, G, va_up (va_up V 0 0) 1 2) H locs 30 ls rfl dX5_mirror_30 (by
                  have hc_ : mOK p0 p1 n X Y = false := by simp [mOK, c_4]
                  refine ⟨?_, ?_⟩
                  · (try simp only [hc_, cond_true, cond_false])
                    first | done | exact rfl
                  · (try simp only [hc_, cond_true, cond_false])
                    exact ⟨⟨hV2, by omega⟩, ⟨hV3, by omega⟩, ⟨hV4, by omega⟩, ⟨hV6, by omega⟩, ⟨hV7, by omega⟩, ⟨hV10, by omega⟩, ⟨sh, hV11, by omega⟩, ⟨hSo, bSo⟩, ⟨hLm, bLm⟩, ⟨hHh, bHh⟩, ⟨hWd, bWd⟩, ⟨hPr, bPr⟩, ⟨hX, bX⟩, ⟨hY, bY⟩, ⟨am, hV8, by omega, by omega⟩, hGP, (fun i hi => (congrFun (Eq.refl (F 5)) i).trans (hSX i hi)), (fun i hi => (congrFun (Eq.refl (F 6)) i).trans (hSY i hi)), (fun i hi => (congrFun (Eq.refl (F 13)) i).trans (hKc i hi)), (fun i hi => (congrFun (Eq.refl (F 15)) i).trans (hKp i hi)), ((show (va_up (va_up V 0 0) 1 2) 5 = V 5 from rfl)).trans hE, (fun t h1 h2 => (congrFun (Eq.refl (F 17)) t).trans (hRB t h1 h2))⟩) (hP) (hD) hS
  · have c_4 : isW p0 0 14 = true := bI_t hw_3 c_4
    refine lv_iload_n hx hb dX5_mirror_15 rfl (lv_at hl 2 rfl) ?_
    refine lv_iconst (v := 0) hx hb dX5_mirror_16 (by decide) ?_
    refine lv_bipush (v := 14) hx hb dX5_mirror_17 (by decide) ?_
    refine cw_Si (As := [.int p1, .int 0, .int 14]) (rest := []) (c_X5_in l dC dI cI cZ cJ (wM cI cZ cJ h F G (va_up V 0 0)) p1 0 14) fx (va_cwS 3 hts gX5_mirror_X5_in rfl rfl rfl (by decide +kernel) ⟨Nat.le_of_ble_eq_true rfl, Nat.le_of_ble_eq_true rfl⟩) hK hP hD hS hA rfl hl.1 rfl (Nat.le_of_ble_eq_true rfl) dX5_mirror_19 ⟨Nat.le_of_ble_eq_true rfl, Nat.le_of_ble_eq_true rfl⟩ (fun r_8 u_9 H locs hw_10 hP hD hS => ?_)
    have hP : va_P (dC, dI) vwCl (wM cI cZ cJ h F G (va_up V 0 0)) H := hP
    have hD : va_D A (wM cI cZ cJ h F G (va_up V 0 0)) := hD
    have hw_10 : r_8 = bI (isW p1 0 14) := hw_10
    refine lv_if_ne (tgt := 31) hx hb dX5_mirror_22 (by decide) (fun c_11 => ?_) (fun c_11 => ?_)
    · have c_11 : isW p1 0 14 = true := bI_t hw_10 c_11
      obtain ⟨k0, hk0, rfl⟩ := isW_nat (M := 14) (n := 14) (by decide) c_4
      obtain ⟨k1, hk1, rfl⟩ := isW_nat (M := 14) (n := 14) (by decide) c_11
      refine lv_iload_n hx hb dX5_mirror_31 rfl (lv_at hl 1 rfl) ?_
      refine lv_bipush (v := 7) hx hb dX5_mirror_32 (by decide) ?_
      refine lv_icmp_ne (tgt := 45) hx hb dX5_mirror_34 (by decide) (fun c_12 => ?_) (fun c_12 => ?_)
      · have c_12 : ¬ k0 = 7 := fun h => c_12 ((nI_eq (a := k0) (b := 7) (by omega) (by omega)).mpr h)
        refine lv_iconst (v := 0) hx hb dX5_mirror_45 (by decide) ?_
        refine lv_istore_n (lv' := [(3, .int 0), (0, .ref (h 0)), (1, .int (nI k0)), (2, .int (nI k1))]) hx hb dX5_mirror_46 rfl hl (by decide) rfl (fun ls hl => ?_)
        refine lv_iconst (v := 0) hx hb dX5_mirror_47 (by decide) ?_
        refine lv_istore (lv' := [(4, .int 0), (3, .int 0), (0, .ref (h 0)), (1, .int (nI k0)), (2, .int (nI k1))]) hx hb dX5_mirror_48 hl (by decide) rfl (fun ls hl => ?_)
        have loop50 : ∀ (fu : Nat) (tk : Nat) (k : Nat), (tk ≤ 1) → (k ≤ n) → (tk = 1 ↔ (k0 = 7 ∧ k1 = 0) ∨ ¬ cnt X Y k (nI k0) (nI k1) = 0) → (n - k) < fu → ∀ (H : Heap) (locs : List Loc) (ls : Array Slot), va_P (dC, dI) vwCl (wM cI cZ cJ h F G (va_up V 0 0)) H → va_D A (wM cI cZ cJ h F G (va_up V 0 0)) → va_S A s.heap H locs → lv_has ls 5 [(0, .ref (h 0)), (1, .int (nI k0)), (2, .int (nI k1)), (3, .int (nI tk)), (4, .int (nI k))] → W p l e rm_X5_mirror s m args below meth c H locs 0 0 Q (F0 m 50 ls []) := by
          intro fu
          induction fu with
          | zero => intro tk k htk hk hti hn_; exact absurd hn_ (Nat.not_lt_zero _)
          | succ fu ih50 =>
            intro tk k htk hk hti hn_ H locs ls hP hD hS hl
            refine lv_iload hx hb dX5_mirror_50 (lv_at hl 4 rfl) ?_
            refine lv_aload_n hx hb dX5_mirror_52 rfl (lv_at hl 0 rfl) ?_
            refine va_get (D := (dC, dI)) (ci := 5) (v := .int (V 2)) (C := RX5) (T := TX5) (N := 33) hx hb hts hin_X5 hown hK hP 0 rfl rfl 2 (by decide) hw2 (fun _ h9 => h9) rfl dX5_mirror_53 ?_
            refine lv_topi (fun x_13 ex_13 => ?_)
            obtain rfl : x_13 = nI n := ex_13.trans (hV2)
            refine lv_icmp_ge (tgt := 97) hx hb dX5_mirror_56 (by decide) (fun c_14 => ?_) (fun c_14 => ?_)
            · have c_14 : n ≤ k := (nI_leI (a := n) (b := k) (by omega) (by omega)).mp c_14
              refine lv_iload_n hx hb dX5_mirror_97 rfl (lv_at hl 3 rfl) ?_
              refine lv_if_eq (tgt := 107) hx hb dX5_mirror_98 (by decide) (fun c_15 => ?_) (fun c_15 => ?_)
              · have c_15 : tk = 0 := (nI_eq (a := tk) (b := 0) (by omega) (by omega)).mp c_15
                refine lv_aload_n hx hb dX5_mirror_107 rfl (lv_at hl 0 rfl) ?_
                refine va_get (D := (dC, dI)) (ci := 5) (v := .int (V 2)) (C := RX5) (T := TX5) (N := 33) hx hb hts hin_X5 hown hK hP 0 rfl rfl 2 (by decide) hw2 (fun _ h9 => h9) rfl dX5_mirror_108 ?_
                refine lv_topi (fun x_16 ex_16 => ?_)
                obtain rfl : x_16 = nI n := ex_16.trans (hV2)
                refine lv_bipush (v := 40) hx hb dX5_mirror_111 (by decide) ?_
                refine lv_icmp_ne (tgt := 122) hx hb dX5_mirror_113 (by decide) (fun c_17 => ?_) (fun c_17 => ?_)
                · have c_17 : ¬ n = 40 := fun h => c_17 ((nI_eq (a := n) (b := 40) (by omega) (by omega)).mpr h)
                  refine lv_aload_n hx hb dX5_mirror_122 rfl (lv_at hl 0 rfl) ?_
                  refine va_get (D := (dC, dI)) (ci := 5) (v := .ref (h 1)) (C := RX5) (T := TX5) (N := 33) hx hb hts hin_X5 hown hK hP 0 rfl rfl 8 (by decide) hw3 (fun _ h9 => h9) rfl dX5_mirror_123 ?_
                  refine lv_aload_n hx hb dX5_mirror_126 rfl (lv_at hl 0 rfl) ?_
                  refine va_get (D := (dC, dI)) (ci := 5) (v := .int (V 2)) (C := RX5) (T := TX5) (N := 33) hx hb hts hin_X5 hown hK hP 0 rfl rfl 2 (by decide) hw2 (fun _ h9 => h9) rfl dX5_mirror_127 ?_
                  refine lv_topi (fun x_18 ex_18 => ?_)
                  obtain rfl : x_18 = nI n := ex_18.trans (hV2)
                  refine lv_iload_n hx hb dX5_mirror_130 rfl (lv_at hl 1 rfl) ?_
                  refine va_iast hx hb hK hP hD hS 1 0 rfl rfl (vp_in_nI (n := n) (N := 40) (by omega) (by decide)) dX5_mirror_131 (fun H locs hP hD hS => ?_)
                  obtain ⟨F_19, eF_19⟩ : ∃ z : Nat → Nat → Int32, z = va_up F 1 (upd (F 1) (nI n).toNatClampNeg (nI k0)) := ⟨_, rfl⟩
                  have hP : va_P (dC, dI) vwCl (wM cI cZ cJ h F_19 G (va_up V 0 0)) H := by rw [eF_19]; exact hP
                  have hD : va_D A (wM cI cZ cJ h F_19 G (va_up V 0 0)) := by rw [eF_19]; exact hD
                  have hN_20 : ∀ i, i < 40 → F_19 3 i = nI (So i) := by rw [eF_19]; exact hSo
                  have hN_21 : ∀ i, i < 4 → F_19 4 i = nI (Lm i) := by rw [eF_19]; exact hLm
                  have hN_22 : ∀ i, i < 24 → F_19 7 i = nI (Hh i) := by rw [eF_19]; exact hHh
                  have hN_23 : ∀ i, i < 24 → F_19 8 i = nI (Wd i) := by rw [eF_19]; exact hWd
                  have hN_24 : ∀ i, i < 24 → F_19 9 i = nI (Pr i) := by rw [eF_19]; exact hPr
                  obtain ⟨S_25, eS_25⟩ : ∃ z : Nat → Nat, z = nup X n k0 := ⟨_, rfl⟩
                  have hN_26 : ∀ i, i < n → F_19 1 i = nI (S_25 i) := by rw [eF_19, eS_25]; show ∀ i, i < n → upd (F 1) (nI n).toNatClampNeg (nI k0) i = nI _; exact nf_put hX (nI_clamp (n := n) (by omega))
                  have bN_27 : ∀ i, i < n → S_25 i ≤ 14 := by rw [eS_25]; exact nb_put bX (by omega)
                  have hN_28 : ∀ i, i < n → F_19 2 i = nI (Y i) := by rw [eF_19]; exact hY
                  refine lv_aload_n hx hb dX5_mirror_132 rfl (lv_at hl 0 rfl) ?_
                  refine va_get (D := (dC, dI)) (ci := 5) (v := .ref (h 2)) (C := RX5) (T := TX5) (N := 33) hx hb hts hin_X5 hown hK hP 0 rfl rfl 9 (by decide) hw4 (fun _ h9 => h9) rfl dX5_mirror_133 ?_
                  refine lv_aload_n hx hb dX5_mirror_136 rfl (lv_at hl 0 rfl) ?_
                  refine va_get (D := (dC, dI)) (ci := 5) (v := .int (V 2)) (C := RX5) (T := TX5) (N := 33) hx hb hts hin_X5 hown hK hP 0 rfl rfl 2 (by decide) hw2 (fun _ h9 => h9) rfl dX5_mirror_137 ?_
                  refine lv_topi (fun x_29 ex_29 => ?_)
                  obtain rfl : x_29 = nI n := ex_29.trans (hV2)
                  refine lv_iload_n hx hb dX5_mirror_140 rfl (lv_at hl 2 rfl) ?_
                  refine va_iast hx hb hK hP hD hS 2 0 rfl rfl (vp_in_nI (n := n) (N := 40) (by omega) (by decide)) dX5_mirror_141 (fun H locs hP hD hS => ?_)
                  obtain ⟨F_30, eF_30⟩ : ∃ z : Nat → Nat → Int32, z = va_up F_19 2 (upd (F_19 2) (nI n).toNatClampNeg (nI k1)) := ⟨_, rfl⟩
                  have hP : va_P (dC, dI) vwCl (wM cI cZ cJ h F_30 G (va_up V 0 0)) H := by rw [eF_30]; exact hP
                  have hD : va_D A (wM cI cZ cJ h F_30 G (va_up V 0 0)) := by rw [eF_30]; exact hD
                  have hN_31 : ∀ i, i < 40 → F_30 3 i = nI (So i) := by rw [eF_30]; exact hN_20
                  have hN_32 : ∀ i, i < 4 → F_30 4 i = nI (Lm i) := by rw [eF_30]; exact hN_21
                  have hN_33 : ∀ i, i < 24 → F_30 7 i = nI (Hh i) := by rw [eF_30]; exact hN_22
                  have hN_34 : ∀ i, i < 24 → F_30 8 i = nI (Wd i) := by rw [eF_30]; exact hN_23
                  have hN_35 : ∀ i, i < 24 → F_30 9 i = nI (Pr i) := by rw [eF_30]; exact hN_24
                  have hN_36 : ∀ i, i < n → F_30 1 i = nI (S_25 i) := by rw [eF_30]; exact hN_26
                  obtain ⟨S_37, eS_37⟩ : ∃ z : Nat → Nat, z = nup Y n k1 := ⟨_, rfl⟩
                  have hN_38 : ∀ i, i < n → F_30 2 i = nI (S_37 i) := by rw [eF_30, eS_37]; show ∀ i, i < n → upd (F_19 2) (nI n).toNatClampNeg (nI k1) i = nI _; exact nf_put hN_28 (nI_clamp (n := n) (by omega))
                  have bN_39 : ∀ i, i < n → S_37 i ≤ 14 := by rw [eS_37]; exact nb_put bY (by omega)
                  refine lv_aload_n hx hb dX5_mirror_142 rfl (lv_at hl 0 rfl) ?_
                  refine lv_dup hx hb dX5_mirror_143 rfl ?_
                  refine va_get (D := (dC, dI)) (ci := 5) (v := .int (V 2)) (C := RX5) (T := TX5) (N := 33) hx hb hts hin_X5 hown hK hP 0 rfl rfl 2 (by decide) hw2 (fun _ h9 => h9) rfl dX5_mirror_144 ?_
                  refine lv_topi (fun x_40 ex_40 => ?_)
                  obtain rfl : x_40 = nI n := ex_40.trans (hV2)
                  refine lv_iconst (v := 1) hx hb dX5_mirror_147 (by decide) ?_
                  refine lv_iadd hx hb dX5_mirror_148 ?_
                  refine lv_topi (fun x_41 ex_41 => ?_)
                  obtain rfl : x_41 = nI (n + 1) := ex_41.trans (nI_add n 1)
                  refine va_put (D := (dC, dI)) (ci := 5) (v := .int (nI (n + 1))) (ty := .int) (C := RX5) (T := TX5) (N := 33) hx hb hts hin_X5 tyX5 tyX5_ok nmX5 hown hK hP hD hS 0 rfl rfl 2 (by decide) hw2 (fun _ h9 => h9) rfl (by decide +kernel) rfl rfl (Nat.le_of_ble_eq_true rfl) dX5_mirror_149 (fun H locs hP hD hS => ?_)
                  have hP : va_P (dC, dI) vwCl (wM cI cZ cJ h F_30 G (va_up (va_up V 0 0) 2 (nI (n + 1)))) H := hP
                  have hD : va_D A (wM cI cZ cJ h F_30 G (va_up (va_up V 0 0) 2 (nI (n + 1)))) := hD
                  refine lv_aload_n hx hb dX5_mirror_152 rfl (lv_at hl 0 rfl) ?_
                  refine lv_aload_n hx hb dX5_mirror_153 rfl (lv_at hl 0 rfl) ?_
                  refine va_get (D := (dC, dI)) (ci := 5) (v := .int (nI (n + 1))) (C := RX5) (T := TX5) (N := 33) hx hb hts hin_X5 hown hK hP 0 rfl rfl 2 (by decide) hw2 (fun _ h9 => h9) rfl dX5_mirror_154 ?_
                  refine lv_iconst (v := 1) hx hb dX5_mirror_157 (by decide) ?_
                  refine lv_isub hx hb dX5_mirror_158 ?_
                  refine lv_topi (fun x_42 ex_42 => ?_)
                  obtain rfl : x_42 = nI ((n + 1) - 1) := ex_42.trans (pk_sub (a := n + 1) (b := 1) (by omega))
                  refine cw_Vi (As := [.int (nI ((n + 1) - 1))]) (rest := []) (c_X5_done l dC dI cI cZ cJ h F_30 G (va_up (va_up V 0 0) 2 (nI (n + 1))) (nI ((n + 1) - 1))) fx (cwV 1 hts gX5_mirror_X5_done rfl rfl rfl (by decide +kernel) ⟨Nat.le_of_ble_eq_true rfl, Nat.le_of_ble_eq_true rfl⟩) hK hP hD hS hA 0 rfl rfl rfl rfl hl.1 rfl (Nat.le_of_ble_eq_true rfl) dX5_mirror_159 ⟨Nat.le_of_ble_eq_true rfl, Nat.le_of_ble_eq_true rfl⟩ (fun r_43 u_44 H locs hw_45 hP hD hS => ?_)
                  have hP : va_P (dC, dI) vwCl (wM cI cZ cJ h F_30 G (va_up (va_up (va_up V 0 0) 2 (nI (n + 1))) 1 0)) H := hP
                  have hD : va_D A (wM cI cZ cJ h F_30 G (va_up (va_up (va_up V 0 0) 2 (nI (n + 1))) 1 0)) := hD
                  obtain rfl : r_43 = nI ((n + 1) - 1) := hw_45
                  exact hret (nI ((n + 1) - 1)) (F_30, G, va_up (va_up (va_up V 0 0) 2 (nI (n + 1))) 1 0) H locs 162 ls rfl dX5_mirror_162 (by
                                subst eS_25
                                subst eS_37
                                have hk_ : k = n := by omega
                                rw [hk_] at hti
                                have h0_ : cnt X Y n (nI k0) (nI k1) = 0 := by omega
                                have q1_ : F_30 1 = upd (F 1) n (nI k0) := by
                                  rw [eF_30]
                                  show F_19 1 = _
                                  rw [eF_19]
                                  show upd (F 1) (nI n).toNatClampNeg (nI k0) = _
                                  rw [nI_clamp (by omega)]
                                have q2_ : F_30 2 = upd (F 2) n (nI k1) := by
                                  rw [eF_30, eF_19]
                                  show upd (F 2) (nI n).toNatClampNeg (nI k1) = _
                                  rw [nI_clamp (by omega)]
                                have gp_ := GP_up hGP (by omega) (by omega) h0_
                                have hc_ : mOK (nI k0) (nI k1) n X Y = true := (mOK_nI (by omega) (by omega)).trans (decide_eq_true (by omega))
                                refine ⟨?_, ?_⟩
                                · (try simp only [hc_, cond_true, cond_false, nI_clamp (show k0 < 2 ^ 31 by omega), nI_clamp (show k1 < 2 ^ 31 by omega)])
                                  first | done | exact rfl
                                · (try simp only [hc_, cond_true, cond_false, nI_clamp (show k0 < 2 ^ 31 by omega), nI_clamp (show k1 < 2 ^ 31 by omega)])
                                  exact ⟨⟨rfl, by omega⟩, ⟨hV3, by omega⟩, ⟨hV4, by omega⟩, ⟨hV6, by omega⟩, ⟨hV7, by omega⟩, ⟨hV10, by omega⟩, ⟨sh, hV11, by omega⟩, ⟨hN_31, bSo⟩, ⟨hN_32, bLm⟩, ⟨hN_33, bHh⟩, ⟨hN_34, bWd⟩, ⟨hN_35, bPr⟩, ⟨by rw [q1_]; exact nf_up1 hX, gp_.1⟩, ⟨by rw [q2_]; exact nf_up1 hY, gp_.2.1⟩, ⟨am, hV8, by omega, by omega⟩, gp_, (fun i hi => (congrFun (Eq.trans (va_ne eF_30 (by decide)) (va_ne eF_19 (by decide))) i).trans (hSX i hi)), (fun i hi => (congrFun (Eq.trans (va_ne eF_30 (by decide)) (va_ne eF_19 (by decide))) i).trans (hSY i hi)), (fun i hi => (congrFun (Eq.trans (va_ne eF_30 (by decide)) (va_ne eF_19 (by decide))) i).trans (hKc i hi)), (fun i hi => (congrFun (Eq.trans (va_ne eF_30 (by decide)) (va_ne eF_19 (by decide))) i).trans (hKp i hi)), ((show (va_up (va_up (va_up V 0 0) 2 (nI (n + 1))) 1 0) 5 = V 5 from rfl)).trans hE, (fun t h1 h2 => (congrFun (Eq.trans (va_ne eF_30 (by decide)) (va_ne eF_19 (by decide))) t).trans (hRB t h1 h2))⟩) (hP) (hD) hS
                · have c_17 : n = 40 := (nI_eq (a := n) (b := 40) (by omega) (by omega)).mp c_17
                  refine lv_aload_n hx hb dX5_mirror_116 rfl (lv_at hl 0 rfl) ?_
                  refine lv_iconst (v := 3) hx hb dX5_mirror_117 (by decide) ?_
                  refine cw_Vi (As := [.int 3]) (rest := []) (c_X5_refused l dC dI cI cZ cJ h F G (va_up V 0 0) 3) fx (cwV 1 hts gX5_mirror_X5_refused rfl rfl rfl (by decide +kernel) ⟨Nat.le_of_ble_eq_true rfl, Nat.le_of_ble_eq_true rfl⟩) hK hP hD hS hA 0 rfl rfl rfl rfl hl.1 rfl (Nat.le_of_ble_eq_true rfl) dX5_mirror_118 ⟨Nat.le_of_ble_eq_true rfl, Nat.le_of_ble_eq_true rfl⟩ (fun r_46 u_47 H locs hw_48 hP hD hS => ?_)
                  have hP : va_P (dC, dI) vwCl (wM cI cZ cJ h F G (va_up (va_up V 0 0) 1 3)) H := hP
                  have hD : va_D A (wM cI cZ cJ h F G (va_up (va_up V 0 0) 1 3)) := hD
                  obtain rfl : r_46 = (-1) := hw_48
                  exact hret (-1) (F, G, va_up (va_up V 0 0) 1 3) H locs 121 ls rfl dX5_mirror_121 (by
                                have hk_ : k = n := by omega
                                rw [hk_] at hti
                                have hc_ : mOK (nI k0) (nI k1) n X Y = false := (mOK_nI (by omega) (by omega)).trans (decide_eq_false (by omega))
                                refine ⟨?_, ?_⟩
                                · (try simp only [hc_, cond_true, cond_false, nI_clamp (show k0 < 2 ^ 31 by omega), nI_clamp (show k1 < 2 ^ 31 by omega)])
                                  first | done | exact rfl
                                · (try simp only [hc_, cond_true, cond_false, nI_clamp (show k0 < 2 ^ 31 by omega), nI_clamp (show k1 < 2 ^ 31 by omega)])
                                  exact ⟨⟨hV2, by omega⟩, ⟨hV3, by omega⟩, ⟨hV4, by omega⟩, ⟨hV6, by omega⟩, ⟨hV7, by omega⟩, ⟨hV10, by omega⟩, ⟨sh, hV11, by omega⟩, ⟨hSo, bSo⟩, ⟨hLm, bLm⟩, ⟨hHh, bHh⟩, ⟨hWd, bWd⟩, ⟨hPr, bPr⟩, ⟨hX, bX⟩, ⟨hY, bY⟩, ⟨am, hV8, by omega, by omega⟩, hGP, (fun i hi => (congrFun (Eq.refl (F 5)) i).trans (hSX i hi)), (fun i hi => (congrFun (Eq.refl (F 6)) i).trans (hSY i hi)), (fun i hi => (congrFun (Eq.refl (F 13)) i).trans (hKc i hi)), (fun i hi => (congrFun (Eq.refl (F 15)) i).trans (hKp i hi)), ((show (va_up (va_up V 0 0) 1 3) 5 = V 5 from rfl)).trans hE, (fun t h1 h2 => (congrFun (Eq.refl (F 17)) t).trans (hRB t h1 h2))⟩) (hP) (hD) hS
              · have c_15 : ¬ tk = 0 := fun h => c_15 ((nI_eq (a := tk) (b := 0) (by omega) (by omega)).mpr h)
                refine lv_aload_n hx hb dX5_mirror_101 rfl (lv_at hl 0 rfl) ?_
                refine lv_iconst (v := 4) hx hb dX5_mirror_102 (by decide) ?_
                refine cw_Vi (As := [.int 4]) (rest := []) (c_X5_refused l dC dI cI cZ cJ h F G (va_up V 0 0) 4) fx (cwV 1 hts gX5_mirror_X5_refused rfl rfl rfl (by decide +kernel) ⟨Nat.le_of_ble_eq_true rfl, Nat.le_of_ble_eq_true rfl⟩) hK hP hD hS hA 0 rfl rfl rfl rfl hl.1 rfl (Nat.le_of_ble_eq_true rfl) dX5_mirror_103 ⟨Nat.le_of_ble_eq_true rfl, Nat.le_of_ble_eq_true rfl⟩ (fun r_49 u_50 H locs hw_51 hP hD hS => ?_)
                have hP : va_P (dC, dI) vwCl (wM cI cZ cJ h F G (va_up (va_up V 0 0) 1 4)) H := hP
                have hD : va_D A (wM cI cZ cJ h F G (va_up (va_up V 0 0) 1 4)) := hD
                obtain rfl : r_49 = (-1) := hw_51
                exact hret (-1) (F, G, va_up (va_up V 0 0) 1 4) H locs 106 ls rfl dX5_mirror_106 (by
                              have hk_ : k = n := by omega
                              rw [hk_] at hti
                              have hc_ : mOK (nI k0) (nI k1) n X Y = false := (mOK_nI (by omega) (by omega)).trans (decide_eq_false (by omega))
                              refine ⟨?_, ?_⟩
                              · (try simp only [hc_, cond_true, cond_false, nI_clamp (show k0 < 2 ^ 31 by omega), nI_clamp (show k1 < 2 ^ 31 by omega)])
                                first | done | exact rfl
                              · (try simp only [hc_, cond_true, cond_false, nI_clamp (show k0 < 2 ^ 31 by omega), nI_clamp (show k1 < 2 ^ 31 by omega)])
                                exact ⟨⟨hV2, by omega⟩, ⟨hV3, by omega⟩, ⟨hV4, by omega⟩, ⟨hV6, by omega⟩, ⟨hV7, by omega⟩, ⟨hV10, by omega⟩, ⟨sh, hV11, by omega⟩, ⟨hSo, bSo⟩, ⟨hLm, bLm⟩, ⟨hHh, bHh⟩, ⟨hWd, bWd⟩, ⟨hPr, bPr⟩, ⟨hX, bX⟩, ⟨hY, bY⟩, ⟨am, hV8, by omega, by omega⟩, hGP, (fun i hi => (congrFun (Eq.refl (F 5)) i).trans (hSX i hi)), (fun i hi => (congrFun (Eq.refl (F 6)) i).trans (hSY i hi)), (fun i hi => (congrFun (Eq.refl (F 13)) i).trans (hKc i hi)), (fun i hi => (congrFun (Eq.refl (F 15)) i).trans (hKp i hi)), ((show (va_up (va_up V 0 0) 1 4) 5 = V 5 from rfl)).trans hE, (fun t h1 h2 => (congrFun (Eq.refl (F 17)) t).trans (hRB t h1 h2))⟩) (hP) (hD) hS
            · have c_14 : ¬ n ≤ k := fun h => c_14 ((nI_leI (a := n) (b := k) (by omega) (by omega)).mpr h)
              refine lv_iload_n hx hb dX5_mirror_59 rfl (lv_at hl 3 rfl) ?_
              refine lv_if_ne (tgt := 85) hx hb dX5_mirror_60 (by decide) (fun c_52 => ?_) (fun c_52 => ?_)
              · have c_52 : ¬ tk = 0 := fun h => c_52 ((nI_eq (a := tk) (b := 0) (by omega) (by omega)).mpr h)
                refine lv_iconst (v := 1) hx hb dX5_mirror_85 (by decide) ?_
                refine lv_goto (tgt := 90) hx hb dX5_mirror_86 (by decide) ?_
                refine lv_istore_n (lv' := [(3, .int 1), (0, .ref (h 0)), (1, .int (nI k0)), (2, .int (nI k1)), (4, .int (nI k))]) hx hb dX5_mirror_90 rfl hl (by decide) rfl (fun ls hl => ?_)
                refine lv_iinc (v := nI (k + 1)) (lv' := [(4, .int (nI (k + 1))), (3, .int 1), (0, .ref (h 0)), (1, .int (nI k0)), (2, .int (nI k1))]) hx hb dX5_mirror_91 hl (k := 4) rfl (nI_1 _) (by decide) rfl (fun ls hl => ?_)
                refine lv_goto (tgt := 50) hx hb dX5_mirror_94 (by decide) ?_
                have hm_ : cnt X Y k (nI k0) (nI k1) ≤ cnt X Y (k + 1) (nI k0) (nI k1) := by rw [cnt]; omega
                have hxk_ := bX k (by omega)
                have hyk_ := bY k (by omega)
                have hy_ : X k = k0 → Y k = k1 → cnt X Y (k + 1) (nI k0) (nI k1) = cnt X Y k (nI k0) (nI k1) + 1 := fun a b => cnt_yes a b
                have hno_ : ¬ (X k = k0 ∧ Y k = k1) → cnt X Y (k + 1) (nI k0) (nI k1) = cnt X Y k (nI k0) (nI k1) := fun a => cnt_not (by omega) (by omega) (by omega) (by omega) a
                exact ih50 1 (k + 1) (by omega) (by omega) (by omega) (by omega) H locs ls hP hD hS (lv_sub hl [2, 3, 4, 1, 0] rfl)
              · have c_52 : tk = 0 := (nI_eq (a := tk) (b := 0) (by omega) (by omega)).mp c_52
                refine lv_aload_n hx hb dX5_mirror_63 rfl (lv_at hl 0 rfl) ?_
                refine va_get (D := (dC, dI)) (ci := 5) (v := .ref (h 1)) (C := RX5) (T := TX5) (N := 33) hx hb hts hin_X5 hown hK hP 0 rfl rfl 8 (by decide) hw3 (fun _ h9 => h9) rfl dX5_mirror_64 ?_
                refine lv_iload hx hb dX5_mirror_67 (lv_at hl 4 rfl) ?_
                refine va_iald hx hb hK hP 1 0 rfl rfl (vp_in_nI (n := k) (N := 40) (by omega) (by decide)) dX5_mirror_69 ?_
                have hb_53 := bX k (by omega)
                refine lv_topi (fun x_54 ex_54 => ?_)
                obtain rfl : x_54 = nI (X k) := ex_54.trans ((congrArg (F 1) (nI_clamp (n := k) (by omega))).trans (hX k (by omega)))
                refine lv_iload_n hx hb dX5_mirror_70 rfl (lv_at hl 1 rfl) ?_
                refine lv_icmp_ne (tgt := 89) hx hb dX5_mirror_71 (by decide) (fun c_55 => ?_) (fun c_55 => ?_)
                · have c_55 : ¬ (X k) = k0 := fun h => c_55 ((nI_eq (a := X k) (b := k0) (by omega) (by omega)).mpr h)
                  refine lv_iconst (v := 0) hx hb dX5_mirror_89 (by decide) ?_
                  refine lv_istore_n (lv' := [(3, .int 0), (0, .ref (h 0)), (1, .int (nI k0)), (2, .int (nI k1)), (4, .int (nI k))]) hx hb dX5_mirror_90 rfl hl (by decide) rfl (fun ls hl => ?_)
                  refine lv_iinc (v := nI (k + 1)) (lv' := [(4, .int (nI (k + 1))), (3, .int 0), (0, .ref (h 0)), (1, .int (nI k0)), (2, .int (nI k1))]) hx hb dX5_mirror_91 hl (k := 4) rfl (nI_1 _) (by decide) rfl (fun ls hl => ?_)
                  refine lv_goto (tgt := 50) hx hb dX5_mirror_94 (by decide) ?_
                  have hm_ : cnt X Y k (nI k0) (nI k1) ≤ cnt X Y (k + 1) (nI k0) (nI k1) := by rw [cnt]; omega
                  have hxk_ := bX k (by omega)
                  have hyk_ := bY k (by omega)
                  have hy_ : X k = k0 → Y k = k1 → cnt X Y (k + 1) (nI k0) (nI k1) = cnt X Y k (nI k0) (nI k1) + 1 := fun a b => cnt_yes a b
                  have hno_ : ¬ (X k = k0 ∧ Y k = k1) → cnt X Y (k + 1) (nI k0) (nI k1) = cnt X Y k (nI k0) (nI k1) := fun a => cnt_not (by omega) (by omega) (by omega) (by omega) a
                  exact ih50 0 (k + 1) (by omega) (by omega) (by omega) (by omega) H locs ls hP hD hS (lv_sub hl [2, 3, 4, 1, 0] rfl)
                · have c_55 : (X k) = k0 := (nI_eq (a := X k) (b := k0) (by omega) (by omega)).mp c_55
                  refine lv_aload_n hx hb dX5_mirror_74 rfl (lv_at hl 0 rfl) ?_
                  refine va_get (D := (dC, dI)) (ci := 5) (v := .ref (h 2)) (C := RX5) (T := TX5) (N := 33) hx hb hts hin_X5 hown hK hP 0 rfl rfl 9 (by decide) hw4 (fun _ h9 => h9) rfl dX5_mirror_75 ?_
                  refine lv_iload hx hb dX5_mirror_78 (lv_at hl 4 rfl) ?_
                  refine va_iald hx hb hK hP 2 0 rfl rfl (vp_in_nI (n := k) (N := 40) (by omega) (by decide)) dX5_mirror_80 ?_
                  have hb_56 := bY k (by omega)
                  refine lv_topi (fun x_57 ex_57 => ?_)
                  obtain rfl : x_57 = nI (Y k) := ex_57.trans ((congrArg (F 2) (nI_clamp (n := k) (by omega))).trans (hY k (by omega)))
                  refine lv_iload_n hx hb dX5_mirror_81 rfl (lv_at hl 2 rfl) ?_
                  refine lv_icmp_ne (tgt := 89) hx hb dX5_mirror_82 (by decide) (fun c_58 => ?_) (fun c_58 => ?_)
                  · have c_58 : ¬ (Y k) = k1 := fun h => c_58 ((nI_eq (a := Y k) (b := k1) (by omega) (by omega)).mpr h)
                    refine lv_iconst (v := 0) hx hb dX5_mirror_89 (by decide) ?_
                    refine lv_istore_n (lv' := [(3, .int 0), (0, .ref (h 0)), (1, .int (nI k0)), (2, .int (nI k1)), (4, .int (nI k))]) hx hb dX5_mirror_90 rfl hl (by decide) rfl (fun ls hl => ?_)
                    refine lv_iinc (v := nI (k + 1)) (lv' := [(4, .int (nI (k + 1))), (3, .int 0), (0, .ref (h 0)), (1, .int (nI k0)), (2, .int (nI k1))]) hx hb dX5_mirror_91 hl (k := 4) rfl (nI_1 _) (by decide) rfl (fun ls hl => ?_)
                    refine lv_goto (tgt := 50) hx hb dX5_mirror_94 (by decide) ?_
                    have hm_ : cnt X Y k (nI k0) (nI k1) ≤ cnt X Y (k + 1) (nI k0) (nI k1) := by rw [cnt]; omega
                    have hxk_ := bX k (by omega)
                    have hyk_ := bY k (by omega)
                    have hy_ : X k = k0 → Y k = k1 → cnt X Y (k + 1) (nI k0) (nI k1) = cnt X Y k (nI k0) (nI k1) + 1 := fun a b => cnt_yes a b
                    have hno_ : ¬ (X k = k0 ∧ Y k = k1) → cnt X Y (k + 1) (nI k0) (nI k1) = cnt X Y k (nI k0) (nI k1) := fun a => cnt_not (by omega) (by omega) (by omega) (by omega) a
                    exact ih50 0 (k + 1) (by omega) (by omega) (by omega) (by omega) H locs ls hP hD hS (lv_sub hl [2, 3, 4, 1, 0] rfl)
                  · have c_58 : (Y k) = k1 := (nI_eq (a := Y k) (b := k1) (by omega) (by omega)).mp c_58
                    refine lv_iconst (v := 1) hx hb dX5_mirror_85 (by decide) ?_
                    refine lv_goto (tgt := 90) hx hb dX5_mirror_86 (by decide) ?_
                    refine lv_istore_n (lv' := [(3, .int 1), (0, .ref (h 0)), (1, .int (nI k0)), (2, .int (nI k1)), (4, .int (nI k))]) hx hb dX5_mirror_90 rfl hl (by decide) rfl (fun ls hl => ?_)
                    refine lv_iinc (v := nI (k + 1)) (lv' := [(4, .int (nI (k + 1))), (3, .int 1), (0, .ref (h 0)), (1, .int (nI k0)), (2, .int (nI k1))]) hx hb dX5_mirror_91 hl (k := 4) rfl (nI_1 _) (by decide) rfl (fun ls hl => ?_)
                    refine lv_goto (tgt := 50) hx hb dX5_mirror_94 (by decide) ?_
                    have hm_ : cnt X Y k (nI k0) (nI k1) ≤ cnt X Y (k + 1) (nI k0) (nI k1) := by rw [cnt]; omega
                    have hxk_ := bX k (by omega)
                    have hyk_ := bY k (by omega)
                    have hy_ : X k = k0 → Y k = k1 → cnt X Y (k + 1) (nI k0) (nI k1) = cnt X Y k (nI k0) (nI k1) + 1 := fun a b => cnt_yes a b
                    have hno_ : ¬ (X k = k0 ∧ Y k = k1) → cnt X Y (k + 1) (nI k0) (nI k1) = cnt X Y k (nI k0) (nI k1) := fun a => cnt_not (by omega) (by omega) (by omega) (by omega) a
                    exact ih50 1 (k + 1) (by omega) (by omega) (by omega) (by omega) H locs ls hP hD hS (lv_sub hl [2, 3, 4, 1, 0] rfl)
        exact loop50 _ 0 0 (by omega) (by omega) (by have hz0_ : cnt X Y 0 (nI k0) (nI k1) = 0 := rfl; omega) (Nat.lt_succ_self _) H locs ls hP hD hS (lv_sub hl [2, 3, 4, 1, 0] rfl)
      · have c_12 : k0 = 7 := (nI_eq (a := k0) (b := 7) (by omega) (by omega)).mp c_12
        refine lv_iload_n hx hb dX5_mirror_37 rfl (lv_at hl 2 rfl) ?_
        refine lv_if_ne (tgt := 45) hx hb dX5_mirror_38 (by decide) (fun c_59 => ?_) (fun c_59 => ?_)
        · have c_59 : ¬ k1 = 0 := fun h => c_59 ((nI_eq (a := k1) (b := 0) (by omega) (by omega)).mpr h)
          refine lv_iconst (v := 0) hx hb dX5_mirror_45 (by decide) ?_
          refine lv_istore_n (lv' := [(3, .int 0), (0, .ref (h 0)), (1, .int (nI k0)), (2, .int (nI k1))]) hx hb dX5_mirror_46 rfl hl (by decide) rfl (fun ls hl => ?_)
          refine lv_iconst (v := 0) hx hb dX5_mirror_47 (by decide) ?_
          refine lv_istore (lv' := [(4, .int 0), (3, .int 0), (0, .ref (h 0)), (1, .int (nI k0)), (2, .int (nI k1))]) hx hb dX5_mirror_48 hl (by decide) rfl (fun ls hl => ?_)
          have loop50 : ∀ (fu : Nat) (tk : Nat) (k : Nat), (tk ≤ 1) → (k ≤ n) → (tk = 1 ↔ (k0 = 7 ∧ k1 = 0) ∨ ¬ cnt X Y k (nI k0) (nI k1) = 0) → (n - k) < fu → ∀ (H : Heap) (locs : List Loc) (ls : Array Slot), va_P (dC, dI) vwCl (wM cI cZ cJ h F G (va_up V 0 0)) H → va_D A (wM cI cZ cJ h F G (va_up V 0 0)) → va_S A s.heap H locs → lv_has ls 5 [(0, .ref (h 0)), (1, .int (nI k0)), (2, .int (nI k1)), (3, .int (nI tk)), (4, .int (nI k))] → W p l e rm_X5_mirror s m args below meth c H locs 0 0 Q (F0 m 50 ls []) := by
            intro fu
            induction fu with
            | zero => intro tk k htk hk hti hn_; exact absurd hn_ (Nat.not_lt_zero _)
            | succ fu ih50 =>
              intro tk k htk hk hti hn_ H locs ls hP hD hS hl
              refine lv_iload hx hb dX5_mirror_50 (lv_at hl 4 rfl) ?_
              refine lv_aload_n hx hb dX5_mirror_52 rfl (lv_at hl 0 rfl) ?_
              refine va_get (D := (dC, dI)) (ci := 5) (v := .int (V 2)) (C := RX5) (T := TX5) (N := 33) hx hb hts hin_X5 hown hK hP 0 rfl rfl 2 (by decide) hw2 (fun _ h9 => h9) rfl dX5_mirror_53 ?_
              refine lv_topi (fun x_60 ex_60 => ?_)
              obtain rfl : x_60 = nI n := ex_60.trans (hV2)
              refine lv_icmp_ge (tgt := 97) hx hb dX5_mirror_56 (by decide) (fun c_61 => ?_) (fun c_61 => ?_)
              · have c_61 : n ≤ k := (nI_leI (a := n) (b := k) (by omega) (by omega)).mp c_61
                refine lv_iload_n hx hb dX5_mirror_97 rfl (lv_at hl 3 rfl) ?_
                refine lv_if_eq (tgt := 107) hx hb dX5_mirror_98 (by decide) (fun c_62 => ?_) (fun c_62 => ?_)
                · have c_62 : tk = 0 := (nI_eq (a := tk) (b := 0) (by omega) (by omega)).mp c_62
                  refine lv_aload_n hx hb dX5_mirror_107 rfl (lv_at hl 0 rfl) ?_
                  refine va_get (D := (dC, dI)) (ci := 5) (v := .int (V 2)) (C := RX5) (T := TX5) (N := 33) hx hb hts hin_X5 hown hK hP 0 rfl rfl 2 (by decide) hw2 (fun _ h9 => h9) rfl dX5_mirror_108 ?_
                  refine lv_topi (fun x_63 ex_63 => ?_)
                  obtain rfl : x_63 = nI n := ex_63.trans (hV2)
                  refine lv_bipush (v := 40) hx hb dX5_mirror_111 (by decide) ?_
                  refine lv_icmp_ne (tgt := 122) hx hb dX5_mirror_113 (by decide) (fun c_64 => ?_) (fun c_64 => ?_)
                  · have c_64 : ¬ n = 40 := fun h => c_64 ((nI_eq (a := n) (b := 40) (by omega) (by omega)).mpr h)
                    refine lv_aload_n hx hb dX5_mirror_122 rfl (lv_at hl 0 rfl) ?_
                    refine va_get (D := (dC, dI)) (ci := 5) (v := .ref (h 1)) (C := RX5) (T := TX5) (N := 33) hx hb hts hin_X5 hown hK hP 0 rfl rfl 8 (by decide) hw3 (fun _ h9 => h9) rfl dX5_mirror_123 ?_
                    refine lv_aload_n hx hb dX5_mirror_126 rfl (lv_at hl 0 rfl) ?_
                    refine va_get (D := (dC, dI)) (ci := 5) (v := .int (V 2)) (C := RX5) (T := TX5) (N := 33) hx hb hts hin_X5 hown hK hP 0 rfl rfl 2 (by decide) hw2 (fun _ h9 => h9) rfl dX5_mirror_127 ?_
                    refine lv_topi (fun x_65 ex_65 => ?_)
                    obtain rfl : x_65 = nI n := ex_65.trans (hV2)
                    refine lv_iload_n hx hb dX5_mirror_130 rfl (lv_at hl 1 rfl) ?_
                    refine va_iast hx hb hK hP hD hS 1 0 rfl rfl (vp_in_nI (n := n) (N := 40) (by omega) (by decide)) dX5_mirror_131 (fun H locs hP hD hS => ?_)
                    obtain ⟨F_66, eF_66⟩ : ∃ z : Nat → Nat → Int32, z = va_up F 1 (upd (F 1) (nI n).toNatClampNeg (nI k0)) := ⟨_, rfl⟩
                    have hP : va_P (dC, dI) vwCl (wM cI cZ cJ h F_66 G (va_up V 0 0)) H := by rw [eF_66]; exact hP
                    have hD : va_D A (wM cI cZ cJ h F_66 G (va_up V 0 0)) := by rw [eF_66]; exact hD
                    have hN_67 : ∀ i, i < 40 → F_66 3 i = nI (So i) := by rw [eF_66]; exact hSo
                    have hN_68 : ∀ i, i < 4 → F_66 4 i = nI (Lm i) := by rw [eF_66]; exact hLm
                    have hN_69 : ∀ i, i < 24 → F_66 7 i = nI (Hh i) := by rw [eF_66]; exact hHh
                    have hN_70 : ∀ i, i < 24 → F_66 8 i = nI (Wd i) := by rw [eF_66]; exact hWd
                    have hN_71 : ∀ i, i < 24 → F_66 9 i = nI (Pr i) := by rw [eF_66]; exact hPr
                    obtain ⟨S_72, eS_72⟩ : ∃ z : Nat → Nat, z = nup X n k0 := ⟨_, rfl⟩
                    have hN_73 : ∀ i, i < n → F_66 1 i = nI (S_72 i) := by rw [eF_66, eS_72]; show ∀ i, i < n → upd (F 1) (nI n).toNatClampNeg (nI k0) i = nI _; exact nf_put hX (nI_clamp (n := n) (by omega))
                    have bN_74 : ∀ i, i < n → S_72 i ≤ 14 := by rw [eS_72]; exact nb_put bX (by omega)
                    have hN_75 : ∀ i, i < n → F_66 2 i = nI (Y i) := by rw [eF_66]; exact hY
                    refine lv_aload_n hx hb dX5_mirror_132 rfl (lv_at hl 0 rfl) ?_
                    refine va_get (D := (dC, dI)) (ci := 5) (v := .ref (h 2)) (C := RX5) (T := TX5) (N := 33) hx hb hts hin_X5 hown hK hP 0 rfl rfl 9 (by decide) hw4 (fun _ h9 => h9) rfl dX5_mirror_133 ?_
                    refine lv_aload_n hx hb dX5_mirror_136 rfl (lv_at hl 0 rfl) ?_
                    refine va_get (D := (dC, dI)) (ci := 5) (v := .int (V 2)) (C := RX5) (T := TX5) (N := 33) hx hb hts hin_X5 hown hK hP 0 rfl rfl 2 (by decide) hw2 (fun _ h9 => h9) rfl dX5_mirror_137 ?_
                    refine lv_topi (fun x_76 ex_76 => ?_)
                    obtain rfl : x_76 = nI n := ex_76.trans (hV2)
                    refine lv_iload_n hx hb dX5_mirror_140 rfl (lv_at hl 2 rfl) ?_
                    refine va_iast hx hb hK hP hD hS 2 0 rfl rfl (vp_in_nI (n := n) (N := 40) (by omega) (by decide)) dX5_mirror_141 (fun H locs hP hD hS => ?_)
                    obtain ⟨F_77, eF_77⟩ : ∃ z : Nat → Nat → Int32, z = va_up F_66 2 (upd (F_66 2) (nI n).toNatClampNeg (nI k1)) := ⟨_, rfl⟩
                    have hP : va_P (dC, dI) vwCl (wM cI cZ cJ h F_77 G (va_up V 0 0)) H := by rw [eF_77]; exact hP
                    have hD : va_D A (wM cI cZ cJ h F_77 G (va_up V 0 0)) := by rw [eF_77]; exact hD
                    have hN_78 : ∀ i, i < 40 → F_77 3 i = nI (So i) := by rw [eF_77]; exact hN_67
                    have hN_79 : ∀ i, i < 4 → F_77 4 i = nI (Lm i) := by rw [eF_77]; exact hN_68
                    have hN_80 : ∀ i, i < 24 → F_77 7 i = nI (Hh i) := by rw [eF_77]; exact hN_69
                    have hN_81 : ∀ i, i < 24 → F_77 8 i = nI (Wd i) := by rw [eF_77]; exact hN_70
                    have hN_82 : ∀ i, i < 24 → F_77 9 i = nI (Pr i) := by rw [eF_77]; exact hN_71
                    have hN_83 : ∀ i, i < n → F_77 1 i = nI (S_72 i) := by rw [eF_77]; exact hN_73
                    obtain ⟨S_84, eS_84⟩ : ∃ z : Nat → Nat, z = nup Y n k1 := ⟨_, rfl⟩
                    have hN_85 : ∀ i, i < n → F_77 2 i = nI (S_84 i) := by rw [eF_77, eS_84]; show ∀ i, i < n → upd (F_66 2) (nI n).toNatClampNeg (nI k1) i = nI _; exact nf_put hN_75 (nI_clamp (n := n) (by omega))
                    have bN_86 : ∀ i, i < n → S_84 i ≤ 14 := by rw [eS_84]; exact nb_put bY (by omega)
                    refine lv_aload_n hx hb dX5_mirror_142 rfl (lv_at hl 0 rfl) ?_
                    refine lv_dup hx hb dX5_mirror_143 rfl ?_
                    refine va_get (D := (dC, dI)) (ci := 5) (v := .int (V 2)) (C := RX5) (T := TX5) (N := 33) hx hb hts hin_X5 hown hK hP 0 rfl rfl 2 (by decide) hw2 (fun _ h9 => h9) rfl dX5_mirror_144 ?_
                    refine lv_topi (fun x_87 ex_87 => ?_)
                    obtain rfl : x_87 = nI n := ex_87.trans (hV2)
                    refine lv_iconst (v := 1) hx hb dX5_mirror_147 (by decide) ?_
                    refine lv_iadd hx hb dX5_mirror_148 ?_
                    refine lv_topi (fun x_88 ex_88 => ?_)
                    obtain rfl : x_88 = nI (n + 1) := ex_88.trans (nI_add n 1)
                    refine va_put (D := (dC, dI)) (ci := 5) (v := .int (nI (n + 1))) (ty := .int) (C := RX5) (T := TX5) (N := 33) hx hb hts hin_X5 tyX5 tyX5_ok nmX5 hown hK hP hD hS 0 rfl rfl 2 (by decide) hw2 (fun _ h9 => h9) rfl (by decide +kernel) rfl rfl (Nat.le_of_ble_eq_true rfl) dX5_mirror_149 (fun H locs hP hD hS => ?_)
                    have hP : va_P (dC, dI) vwCl (wM cI cZ cJ h F_77 G (va_up (va_up V 0 0) 2 (nI (n + 1)))) H := hP
                    have hD : va_D A (wM cI cZ cJ h F_77 G (va_up (va_up V 0 0) 2 (nI (n + 1)))) := hD
                    refine lv_aload_n hx hb dX5_mirror_152 rfl (lv_at hl 0 rfl) ?_
                    refine lv_aload_n hx hb dX5_mirror_153 rfl (lv_at hl 0 rfl) ?_
                    refine va_get (D := (dC, dI)) (ci := 5) (v := .int (nI (n + 1))) (C := RX5) (T := TX5) (N := 33) hx hb hts hin_X5 hown hK hP 0 rfl rfl 2 (by decide) hw2 (fun _ h9 => h9) rfl dX5_mirror_154 ?_
                    refine lv_iconst (v := 1) hx hb dX5_mirror_157 (by decide) ?_
                    refine lv_isub hx hb dX5_mirror_158 ?_
                    refine lv_topi (fun x_89 ex_89 => ?_)
                    obtain rfl : x_89 = nI ((n + 1) - 1) := ex_89.trans (pk_sub (a := n + 1) (b := 1) (by omega))
                    refine cw_Vi (As := [.int (nI ((n + 1) - 1))]) (rest := []) (c_X5_done l dC dI cI cZ cJ h F_77 G (va_up (va_up V 0 0) 2 (nI (n + 1))) (nI ((n + 1) - 1))) fx (cwV 1 hts gX5_mirror_X5_done rfl rfl rfl (by decide +kernel) ⟨Nat.le_of_ble_eq_true rfl, Nat.le_of_ble_eq_true rfl⟩) hK hP hD hS hA 0 rfl rfl rfl rfl hl.1 rfl (Nat.le_of_ble_eq_true rfl) dX5_mirror_159 ⟨Nat.le_of_ble_eq_true rfl, Nat.le_of_ble_eq_true rfl⟩ (fun r_90 u_91 H locs hw_92 hP hD hS => ?_)
                    have hP : va_P (dC, dI) vwCl (wM cI cZ cJ h F_77 G (va_up (va_up (va_up V 0 0) 2 (nI (n + 1))) 1 0)) H := hP
                    have hD : va_D A (wM cI cZ cJ h F_77 G (va_up (va_up (va_up V 0 0) 2 (nI (n + 1))) 1 0)) := hD
                    obtain rfl : r_90 = nI ((n + 1) - 1) := hw_92
                    exact hret (nI ((n + 1) - 1)) (F_77, G, va_up (va_up (va_up V 0 0) 2 (nI (n + 1))) 1 0) H locs 162 ls rfl dX5_mirror_162 (by
                                  subst eS_72
                                  subst eS_84
                                  have hk_ : k = n := by omega
                                  rw [hk_] at hti
                                  have h0_ : cnt X Y n (nI k0) (nI k1) = 0 := by omega
                                  have q1_ : F_77 1 = upd (F 1) n (nI k0) := by
                                    rw [eF_77]
                                    show F_66 1 = _
                                    rw [eF_66]
                                    show upd (F 1) (nI n).toNatClampNeg (nI k0) = _
                                    rw [nI_clamp (by omega)]
                                  have q2_ : F_77 2 = upd (F 2) n (nI k1) := by
                                    rw [eF_77, eF_66]
                                    show upd (F 2) (nI n).toNatClampNeg (nI k1) = _
                                    rw [nI_clamp (by omega)]
                                  have gp_ := GP_up hGP (by omega) (by omega) h0_
                                  have hc_ : mOK (nI k0) (nI k1) n X Y = true := (mOK_nI (by omega) (by omega)).trans (decide_eq_true (by omega))
                                  refine ⟨?_, ?_⟩
                                  · (try simp only [hc_, cond_true, cond_false, nI_clamp (show k0 < 2 ^ 31 by omega), nI_clamp (show k1 < 2 ^ 31 by omega)])
                                    first | done | exact rfl
                                  · (try simp only [hc_, cond_true, cond_false, nI_clamp (show k0 < 2 ^ 31 by omega), nI_clamp (show k1 < 2 ^ 31 by omega)])
                                    exact ⟨⟨rfl, by omega⟩, ⟨hV3, by omega⟩, ⟨hV4, by omega⟩, ⟨hV6, by omega⟩, ⟨hV7, by omega⟩, ⟨hV10, by omega⟩, ⟨sh, hV11, by omega⟩, ⟨hN_78, bSo⟩, ⟨hN_79, bLm⟩, ⟨hN_80, bHh⟩, ⟨hN_81, bWd⟩, ⟨hN_82, bPr⟩, ⟨by rw [q1_]; exact nf_up1 hX, gp_.1⟩, ⟨by rw [q2_]; exact nf_up1 hY, gp_.2.1⟩, ⟨am, hV8, by omega, by omega⟩, gp_, (fun i hi => (congrFun (Eq.trans (va_ne eF_77 (by decide)) (va_ne eF_66 (by decide))) i).trans (hSX i hi)), (fun i hi => (congrFun (Eq.trans (va_ne eF_77 (by decide)) (va_ne eF_66 (by decide))) i).trans (hSY i hi)), (fun i hi => (congrFun (Eq.trans (va_ne eF_77 (by decide)) (va_ne eF_66 (by decide))) i).trans (hKc i hi)), (fun i hi => (congrFun (Eq.trans (va_ne eF_77 (by decide)) (va_ne eF_66 (by decide))) i).trans (hKp i hi)), ((show (va_up (va_up (va_up V 0 0) 2 (nI (n + 1))) 1 0) 5 = V 5 from rfl)).trans hE, (fun t h1 h2 => (congrFun (Eq.trans (va_ne eF_77 (by decide)) (va_ne eF_66 (by decide))) t).trans (hRB t h1 h2))⟩) (hP) (hD) hS
                  · have c_64 : n = 40 := (nI_eq (a := n) (b := 40) (by omega) (by omega)).mp c_64
                    refine lv_aload_n hx hb dX5_mirror_116 rfl (lv_at hl 0 rfl) ?_
                    refine lv_iconst (v := 3) hx hb dX5_mirror_117 (by decide) ?_
                    refine cw_Vi (As := [.int 3]) (rest := []) (c_X5_refused l dC dI cI cZ cJ h F G (va_up V 0 0) 3) fx (cwV 1 hts gX5_mirror_X5_refused rfl rfl rfl (by decide +kernel) ⟨Nat.le_of_ble_eq_true rfl, Nat.le_of_ble_eq_true rfl⟩) hK hP hD hS hA 0 rfl rfl rfl rfl hl.1 rfl (Nat.le_of_ble_eq_true rfl) dX5_mirror_118 ⟨Nat.le_of_ble_eq_true rfl, Nat.le_of_ble_eq_true rfl⟩ (fun r_93 u_94 H locs hw_95 hP hD hS => ?_)
                    have hP : va_P (dC, dI) vwCl (wM cI cZ cJ h F G (va_up (va_up V 0 0) 1 3)) H := hP
                    have hD : va_D A (wM cI cZ cJ h F G (va_up (va_up V 0 0) 1 3)) := hD
                    obtain rfl : r_93 = (-1) := hw_95
                    exact hret (-1) (F, G, va_up (va_up V 0 0) 1 3) H locs 121 ls rfl dX5_mirror_121 (by
                                  have hk_ : k = n := by omega
                                  rw [hk_] at hti
                                  have hc_ : mOK (nI k0) (nI k1) n X Y = false := (mOK_nI (by omega) (by omega)).trans (decide_eq_false (by omega))
                                  refine ⟨?_, ?_⟩
                                  · (try simp only [hc_, cond_true, cond_false, nI_clamp (show k0 < 2 ^ 31 by omega), nI_clamp (show k1 < 2 ^ 31 by omega)])
                                    first | done | exact rfl
                                  · (try simp only [hc_, cond_true, cond_false, nI_clamp (show k0 < 2 ^ 31 by omega), nI_clamp (show k1 < 2 ^ 31 by omega)])
                                    exact ⟨⟨hV2, by omega⟩, ⟨hV3, by omega⟩, ⟨hV4, by omega⟩, ⟨hV6, by omega⟩, ⟨hV7, by omega⟩, ⟨hV10, by omega⟩, ⟨sh, hV11, by omega⟩, ⟨hSo, bSo⟩, ⟨hLm, bLm⟩, ⟨hHh, bHh⟩, ⟨hWd, bWd⟩, ⟨hPr, bPr⟩, ⟨hX, bX⟩, ⟨hY, bY⟩, ⟨am, hV8, by omega, by omega⟩, hGP, (fun i hi => (congrFun (Eq.refl (F 5)) i).trans (hSX i hi)), (fun i hi => (congrFun (Eq.refl (F 6)) i).trans (hSY i hi)), (fun i hi => (congrFun (Eq.refl (F 13)) i).trans (hKc i hi)), (fun i hi => (congrFun (Eq.refl (F 15)) i).trans (hKp i hi)), ((show (va_up (va_up V 0 0) 1 3) 5 = V 5 from rfl)).trans hE, (fun t h1 h2 => (congrFun (Eq.refl (F 17)) t).trans (hRB t h1 h2))⟩) (hP) (hD) hS
                · have c_62 : ¬ tk = 0 := fun h => c_62 ((nI_eq (a := tk) (b := 0) (by omega) (by omega)).mpr h)
                  refine lv_aload_n hx hb dX5_mirror_101 rfl (lv_at hl 0 rfl) ?_
                  refine lv_iconst (v := 4) hx hb dX5_mirror_102 (by decide) ?_
                  refine cw_Vi (As := [.int 4]) (rest := []) (c_X5_refused l dC dI cI cZ cJ h F G (va_up V 0 0) 4) fx (cwV 1 hts gX5_mirror_X5_refused rfl rfl rfl (by decide +kernel) ⟨Nat.le_of_ble_eq_true rfl, Nat.le_of_ble_eq_true rfl⟩) hK hP hD hS hA 0 rfl rfl rfl rfl hl.1 rfl (Nat.le_of_ble_eq_true rfl) dX5_mirror_103 ⟨Nat.le_of_ble_eq_true rfl, Nat.le_of_ble_eq_true rfl⟩ (fun r_96 u_97 H locs hw_98 hP hD hS => ?_)
                  have hP : va_P (dC, dI) vwCl (wM cI cZ cJ h F G (va_up (va_up V 0 0) 1 4)) H := hP
                  have hD : va_D A (wM cI cZ cJ h F G (va_up (va_up V 0 0) 1 4)) := hD
                  obtain rfl : r_96 = (-1) := hw_98
                  exact hret (-1) (F, G, va_up (va_up V 0 0) 1 4) H locs 106 ls rfl dX5_mirror_106 (by
                                have hk_ : k = n := by omega
                                rw [hk_] at hti
                                have hc_ : mOK (nI k0) (nI k1) n X Y = false := (mOK_nI (by omega) (by omega)).trans (decide_eq_false (by omega))
                                refine ⟨?_, ?_⟩
                                · (try simp only [hc_, cond_true, cond_false, nI_clamp (show k0 < 2 ^ 31 by omega), nI_clamp (show k1 < 2 ^ 31 by omega)])
                                  first | done | exact rfl
                                · (try simp only [hc_, cond_true, cond_false, nI_clamp (show k0 < 2 ^ 31 by omega), nI_clamp (show k1 < 2 ^ 31 by omega)])
                                  exact ⟨⟨hV2, by omega⟩, ⟨hV3, by omega⟩, ⟨hV4, by omega⟩, ⟨hV6, by omega⟩, ⟨hV7, by omega⟩, ⟨hV10, by omega⟩, ⟨sh, hV11, by omega⟩, ⟨hSo, bSo⟩, ⟨hLm, bLm⟩, ⟨hHh, bHh⟩, ⟨hWd, bWd⟩, ⟨hPr, bPr⟩, ⟨hX, bX⟩, ⟨hY, bY⟩, ⟨am, hV8, by omega, by omega⟩, hGP, (fun i hi => (congrFun (Eq.refl (F 5)) i).trans (hSX i hi)), (fun i hi => (congrFun (Eq.refl (F 6)) i).trans (hSY i hi)), (fun i hi => (congrFun (Eq.refl (F 13)) i).trans (hKc i hi)), (fun i hi => (congrFun (Eq.refl (F 15)) i).trans (hKp i hi)), ((show (va_up (va_up V 0 0) 1 4) 5 = V 5 from rfl)).trans hE, (fun t h1 h2 => (congrFun (Eq.refl (F 17)) t).trans (hRB t h1 h2))⟩) (hP) (hD) hS
              · have c_61 : ¬ n ≤ k := fun h => c_61 ((nI_leI (a := n) (b := k) (by omega) (by omega)).mpr h)
                refine lv_iload_n hx hb dX5_mirror_59 rfl (lv_at hl 3 rfl) ?_
                refine lv_if_ne (tgt := 85) hx hb dX5_mirror_60 (by decide) (fun c_99 => ?_) (fun c_99 => ?_)
                · have c_99 : ¬ tk = 0 := fun h => c_99 ((nI_eq (a := tk) (b := 0) (by omega) (by omega)).mpr h)
                  refine lv_iconst (v := 1) hx hb dX5_mirror_85 (by decide) ?_
                  refine lv_goto (tgt := 90) hx hb dX5_mirror_86 (by decide) ?_
                  refine lv_istore_n (lv' := [(3, .int 1), (0, .ref (h 0)), (1, .int (nI k0)), (2, .int (nI k1)), (4, .int (nI k))]) hx hb dX5_mirror_90 rfl hl (by decide) rfl (fun ls hl => ?_)
                  refine lv_iinc (v := nI (k + 1)) (lv' := [(4, .int (nI (k + 1))), (3, .int 1), (0, .ref (h 0)), (1, .int (nI k0)), (2, .int (nI k1))]) hx hb dX5_mirror_91 hl (k := 4) rfl (nI_1 _) (by decide) rfl (fun ls hl => ?_)
                  refine lv_goto (tgt := 50) hx hb dX5_mirror_94 (by decide) ?_
                  have hm_ : cnt X Y k (nI k0) (nI k1) ≤ cnt X Y (k + 1) (nI k0) (nI k1) := by rw [cnt]; omega
                  have hxk_ := bX k (by omega)
                  have hyk_ := bY k (by omega)
                  have hy_ : X k = k0 → Y k = k1 → cnt X Y (k + 1) (nI k0) (nI k1) = cnt X Y k (nI k0) (nI k1) + 1 := fun a b => cnt_yes a b
                  have hno_ : ¬ (X k = k0 ∧ Y k = k1) → cnt X Y (k + 1) (nI k0) (nI k1) = cnt X Y k (nI k0) (nI k1) := fun a => cnt_not (by omega) (by omega) (by omega) (by omega) a
                  exact ih50 1 (k + 1) (by omega) (by omega) (by omega) (by omega) H locs ls hP hD hS (lv_sub hl [2, 3, 4, 1, 0] rfl)
                · have c_99 : tk = 0 := (nI_eq (a := tk) (b := 0) (by omega) (by omega)).mp c_99
                  refine lv_aload_n hx hb dX5_mirror_63 rfl (lv_at hl 0 rfl) ?_
                  refine va_get (D := (dC, dI)) (ci := 5) (v := .ref (h 1)) (C := RX5) (T := TX5) (N := 33) hx hb hts hin_X5 hown hK hP 0 rfl rfl 8 (by decide) hw3 (fun _ h9 => h9) rfl dX5_mirror_64 ?_
                  refine lv_iload hx hb dX5_mirror_67 (lv_at hl 4 rfl) ?_
                  refine va_iald hx hb hK hP 1 0 rfl rfl (vp_in_nI (n := k) (N := 40) (by omega) (by decide)) dX5_mirror_69 ?_
                  have hb_100 := bX k (by omega)
                  refine lv_topi (fun x_101 ex_101 => ?_)
                  obtain rfl : x_101 = nI (X k) := ex_101.trans ((congrArg (F 1) (nI_clamp (n := k) (by omega))).trans (hX k (by omega)))
                  refine lv_iload_n hx hb dX5_mirror_70 rfl (lv_at hl 1 rfl) ?_
                  refine lv_icmp_ne (tgt := 89) hx hb dX5_mirror_71 (by decide) (fun c_102 => ?_) (fun c_102 => ?_)
                  · have c_102 : ¬ (X k) = k0 := fun h => c_102 ((nI_eq (a := X k) (b := k0) (by omega) (by omega)).mpr h)
                    refine lv_iconst (v := 0) hx hb dX5_mirror_89 (by decide) ?_
                    refine lv_istore_n (lv' := [(3, .int 0), (0, .ref (h 0)), (1, .int (nI k0)), (2, .int (nI k1)), (4, .int (nI k))]) hx hb dX5_mirror_90 rfl hl (by decide) rfl (fun ls hl => ?_)
                    refine lv_iinc (v := nI (k + 1)) (lv' := [(4, .int (nI (k + 1))), (3, .int 0), (0, .ref (h 0)), (1, .int (nI k0)), (2, .int (nI k1))]) hx hb dX5_mirror_91 hl (k := 4) rfl (nI_1 _) (by decide) rfl (fun ls hl => ?_)
                    refine lv_goto (tgt := 50) hx hb dX5_mirror_94 (by decide) ?_
                    have hm_ : cnt X Y k (nI k0) (nI k1) ≤ cnt X Y (k + 1) (nI k0) (nI k1) := by rw [cnt]; omega
                    have hxk_ := bX k (by omega)
                    have hyk_ := bY k (by omega)
                    have hy_ : X k = k0 → Y k = k1 → cnt X Y (k + 1) (nI k0) (nI k1) = cnt X Y k (nI k0) (nI k1) + 1 := fun a b => cnt_yes a b
                    have hno_ : ¬ (X k = k0 ∧ Y k = k1) → cnt X Y (k + 1) (nI k0) (nI k1) = cnt X Y k (nI k0) (nI k1) := fun a => cnt_not (by omega) (by omega) (by omega) (by omega) a
                    exact ih50 0 (k + 1) (by omega) (by omega) (by omega) (by omega) H locs ls hP hD hS (lv_sub hl [2, 3, 4, 1, 0] rfl)
                  · have c_102 : (X k) = k0 := (nI_eq (a := X k) (b := k0) (by omega) (by omega)).mp c_102
                    refine lv_aload_n hx hb dX5_mirror_74 rfl (lv_at hl 0 rfl) ?_
                    refine va_get (D := (dC, dI)) (ci := 5) (v := .ref (h 2)) (C := RX5) (T := TX5) (N := 33) hx hb hts hin_X5 hown hK hP 0 rfl rfl 9 (by decide) hw4 (fun _ h9 => h9) rfl dX5_mirror_75 ?_
                    refine lv_iload hx hb dX5_mirror_78 (lv_at hl 4 rfl) ?_
                    refine va_iald hx hb hK hP 2 0 rfl rfl (vp_in_nI (n := k) (N := 40) (by omega) (by decide)) dX5_mirror_80 ?_
                    have hb_103 := bY k (by omega)
                    refine lv_topi (fun x_104 ex_104 => ?_)
                    obtain rfl : x_104 = nI (Y k) := ex_104.trans ((congrArg (F 2) (nI_clamp (n := k) (by omega))).trans (hY k (by omega)))
                    refine lv_iload_n hx hb dX5_mirror_81 rfl (lv_at hl 2 rfl) ?_
                    refine lv_icmp_ne (tgt := 89) hx hb dX5_mirror_82 (by decide) (fun c_105 => ?_) (fun c_105 => ?_)
                    · have c_105 : ¬ (Y k) = k1 := fun h => c_105 ((nI_eq (a := Y k) (b := k1) (by omega) (by omega)).mpr h)
                      refine lv_iconst (v := 0) hx hb dX5_mirror_89 (by decide) ?_
                      refine lv_istore_n (lv' := [(3, .int 0), (0, .ref (h 0)), (1, .int (nI k0)), (2, .int (nI k1)), (4, .int (nI k))]) hx hb dX5_mirror_90 rfl hl (by decide) rfl (fun ls hl => ?_)
                      refine lv_iinc (v := nI (k + 1)) (lv' := [(4, .int (nI (k + 1))), (3, .int 0), (0, .ref (h 0)), (1, .int (nI k0)), (2, .int (nI k1))]) hx hb dX5_mirror_91 hl (k := 4) rfl (nI_1 _) (by decide) rfl (fun ls hl => ?_)
                      refine lv_goto (tgt := 50) hx hb dX5_mirror_94 (by decide) ?_
                      have hm_ : cnt X Y k (nI k0) (nI k1) ≤ cnt X Y (k + 1) (nI k0) (nI k1) := by rw [cnt]; omega
                      have hxk_ := bX k (by omega)
                      have hyk_ := bY k (by omega)
                      have hy_ : X k = k0 → Y k = k1 → cnt X Y (k + 1) (nI k0) (nI k1) = cnt X Y k (nI k0) (nI k1) + 1 := fun a b => cnt_yes a b
                      have hno_ : ¬ (X k = k0 ∧ Y k = k1) → cnt X Y (k + 1) (nI k0) (nI k1) = cnt X Y k (nI k0) (nI k1) := fun a => cnt_not (by omega) (by omega) (by omega) (by omega) a
                      exact ih50 0 (k + 1) (by omega) (by omega) (by omega) (by omega) H locs ls hP hD hS (lv_sub hl [2, 3, 4, 1, 0] rfl)
                    · have c_105 : (Y k) = k1 := (nI_eq (a := Y k) (b := k1) (by omega) (by omega)).mp c_105
                      refine lv_iconst (v := 1) hx hb dX5_mirror_85 (by decide) ?_
                      refine lv_goto (tgt := 90) hx hb dX5_mirror_86 (by decide) ?_
                      refine lv_istore_n (lv' := [(3, .int 1), (0, .ref (h 0)), (1, .int (nI k0)), (2, .int (nI k1)), (4, .int (nI k))]) hx hb dX5_mirror_90 rfl hl (by decide) rfl (fun ls hl => ?_)
                      refine lv_iinc (v := nI (k + 1)) (lv' := [(4, .int (nI (k + 1))), (3, .int 1), (0, .ref (h 0)), (1, .int (nI k0)), (2, .int (nI k1))]) hx hb dX5_mirror_91 hl (k := 4) rfl (nI_1 _) (by decide) rfl (fun ls hl => ?_)
                      refine lv_goto (tgt := 50) hx hb dX5_mirror_94 (by decide) ?_
                      have hm_ : cnt X Y k (nI k0) (nI k1) ≤ cnt X Y (k + 1) (nI k0) (nI k1) := by rw [cnt]; omega
                      have hxk_ := bX k (by omega)
                      have hyk_ := bY k (by omega)
                      have hy_ : X k = k0 → Y k = k1 → cnt X Y (k + 1) (nI k0) (nI k1) = cnt X Y k (nI k0) (nI k1) + 1 := fun a b => cnt_yes a b
                      have hno_ : ¬ (X k = k0 ∧ Y k = k1) → cnt X Y (k + 1) (nI k0) (nI k1) = cnt X Y k (nI k0) (nI k1) := fun a => cnt_not (by omega) (by omega) (by omega) (by omega) a
                      exact ih50 1 (k + 1) (by omega) (by omega) (by omega) (by omega) H locs ls hP hD hS (lv_sub hl [2, 3, 4, 1, 0] rfl)
          exact loop50 _ 0 0 (by omega) (by omega) (by have hz0_ : cnt X Y 0 (nI k0) (nI k1) = 0 := rfl; omega) (Nat.lt_succ_self _) H locs ls hP hD hS (lv_sub hl [2, 3, 4, 1, 0] rfl)
        · have c_59 : k1 = 0 := (nI_eq (a := k1) (b := 0) (by omega) (by omega)).mp c_59
          refine lv_iconst (v := 1) hx hb dX5_mirror_41 (by decide) ?_
          refine lv_goto (tgt := 46) hx hb dX5_mirror_42 (by decide) ?_
          refine lv_istore_n (lv' := [(3, .int 1), (0, .ref (h 0)), (1, .int (nI k0)), (2, .int (nI k1))]) hx hb dX5_mirror_46 rfl hl (by decide) rfl (fun ls hl => ?_)
          refine lv_iconst (v := 0) hx hb dX5_mirror_47 (by decide) ?_
          refine lv_istore (lv' := [(4, .int 0), (3, .int 1), (0, .ref (h 0)), (1, .int (nI k0)), (2, .int (nI k1))]) hx hb dX5_mirror_48 hl (by decide) rfl (fun ls hl => ?_)
          have loop50 : ∀ (fu : Nat) (tk : Nat) (k : Nat), (tk ≤ 1) → (k ≤ n) → (tk = 1 ↔ (k0 = 7 ∧ k1 = 0) ∨ ¬ cnt X Y k (nI k0) (nI k1) = 0) → (n - k) < fu → ∀ (H : Heap) (locs : List Loc) (ls : Array Slot), va_P (dC, dI) vwCl (wM cI cZ cJ h F G (va_up V 0 0)) H → va_D A (wM cI cZ cJ h F G (va_up V 0 0)) → va_S A s.heap H locs → lv_has ls 5 [(0, .ref (h 0)), (1, .int (nI k0)), (2, .int (nI k1)), (3, .int (nI tk)), (4, .int (nI k))] → W p l e rm_X5_mirror s m args below meth c H locs 0 0 Q (F0 m 50 ls []) := by
            intro fu
            induction fu with
            | zero => intro tk k htk hk hti hn_; exact absurd hn_ (Nat.not_lt_zero _)
            | succ fu ih50 =>
              intro tk k htk hk hti hn_ H locs ls hP hD hS hl
              refine lv_iload hx hb dX5_mirror_50 (lv_at hl 4 rfl) ?_
              refine lv_aload_n hx hb dX5_mirror_52 rfl (lv_at hl 0 rfl) ?_
              refine va_get (D := (dC, dI)) (ci := 5) (v := .int (V 2)) (C := RX5) (T := TX5) (N := 33) hx hb hts hin_X5 hown hK hP 0 rfl rfl 2 (by decide) hw2 (fun _ h9 => h9) rfl dX5_mirror_53 ?_
              refine lv_topi (fun x_106 ex_106 => ?_)
              obtain rfl : x_106 = nI n := ex_106.trans (hV2)
              refine lv_icmp_ge (tgt := 97) hx hb dX5_mirror_56 (by decide) (fun c_107 => ?_) (fun c_107 => ?_)
              · have c_107 : n ≤ k := (nI_leI (a := n) (b := k) (by omega) (by omega)).mp c_107
                refine lv_iload_n hx hb dX5_mirror_97 rfl (lv_at hl 3 rfl) ?_
                refine lv_if_eq (tgt := 107) hx hb dX5_mirror_98 (by decide) (fun c_108 => ?_) (fun c_108 => ?_)
                · have c_108 : tk = 0 := (nI_eq (a := tk) (b := 0) (by omega) (by omega)).mp c_108
                  refine lv_aload_n hx hb dX5_mirror_107 rfl (lv_at hl 0 rfl) ?_
                  refine va_get (D := (dC, dI)) (ci := 5) (v := .int (V 2)) (C := RX5) (T := TX5) (N := 33) hx hb hts hin_X5 hown hK hP 0 rfl rfl 2 (by decide) hw2 (fun _ h9 => h9) rfl dX5_mirror_108 ?_
                  refine lv_topi (fun x_109 ex_109 => ?_)
                  obtain rfl : x_109 = nI n := ex_109.trans (hV2)
                  refine lv_bipush (v := 40) hx hb dX5_mirror_111 (by decide) ?_
                  refine lv_icmp_ne (tgt := 122) hx hb dX5_mirror_113 (by decide) (fun c_110 => ?_) (fun c_110 => ?_)
                  · have c_110 : ¬ n = 40 := fun h => c_110 ((nI_eq (a := n) (b := 40) (by omega) (by omega)).mpr h)
                    refine lv_aload_n hx hb dX5_mirror_122 rfl (lv_at hl 0 rfl) ?_
                    refine va_get (D := (dC, dI)) (ci := 5) (v := .ref (h 1)) (C := RX5) (T := TX5) (N := 33) hx hb hts hin_X5 hown hK hP 0 rfl rfl 8 (by decide) hw3 (fun _ h9 => h9) rfl dX5_mirror_123 ?_
                    refine lv_aload_n hx hb dX5_mirror_126 rfl (lv_at hl 0 rfl) ?_
                    refine va_get (D := (dC, dI)) (ci := 5) (v := .int (V 2)) (C := RX5) (T := TX5) (N := 33) hx hb hts hin_X5 hown hK hP 0 rfl rfl 2 (by decide) hw2 (fun _ h9 => h9) rfl dX5_mirror_127 ?_
                    refine lv_topi (fun x_111 ex_111 => ?_)
                    obtain rfl : x_111 = nI n := ex_111.trans (hV2)
                    refine lv_iload_n hx hb dX5_mirror_130 rfl (lv_at hl 1 rfl) ?_
                    refine va_iast hx hb hK hP hD hS 1 0 rfl rfl (vp_in_nI (n := n) (N := 40) (by omega) (by decide)) dX5_mirror_131 (fun H locs hP hD hS => ?_)
                    obtain ⟨F_112, eF_112⟩ : ∃ z : Nat → Nat → Int32, z = va_up F 1 (upd (F 1) (nI n).toNatClampNeg (nI k0)) := ⟨_, rfl⟩
                    have hP : va_P (dC, dI) vwCl (wM cI cZ cJ h F_112 G (va_up V 0 0)) H := by rw [eF_112]; exact hP
                    have hD : va_D A (wM cI cZ cJ h F_112 G (va_up V 0 0)) := by rw [eF_112]; exact hD
                    have hN_113 : ∀ i, i < 40 → F_112 3 i = nI (So i) := by rw [eF_112]; exact hSo
                    have hN_114 : ∀ i, i < 4 → F_112 4 i = nI (Lm i) := by rw [eF_112]; exact hLm
                    have hN_115 : ∀ i, i < 24 → F_112 7 i = nI (Hh i) := by rw [eF_112]; exact hHh
                    have hN_116 : ∀ i, i < 24 → F_112 8 i = nI (Wd i) := by rw [eF_112]; exact hWd
                    have hN_117 : ∀ i, i < 24 → F_112 9 i = nI (Pr i) := by rw [eF_112]; exact hPr
                    obtain ⟨S_118, eS_118⟩ : ∃ z : Nat → Nat, z = nup X n k0 := ⟨_, rfl⟩
                    have hN_119 : ∀ i, i < n → F_112 1 i = nI (S_118 i) := by rw [eF_112, eS_118]; show ∀ i, i < n → upd (F 1) (nI n).toNatClampNeg (nI k0) i = nI _; exact nf_put hX (nI_clamp (n := n) (by omega))
                    have bN_120 : ∀ i, i < n → S_118 i ≤ 14 := by rw [eS_118]; exact nb_put bX (by omega)
                    have hN_121 : ∀ i, i < n → F_112 2 i = nI (Y i) := by rw [eF_112]; exact hY
                    refine lv_aload_n hx hb dX5_mirror_132 rfl (lv_at hl 0 rfl) ?_
                    refine va_get (D := (dC, dI)) (ci := 5) (v := .ref (h 2)) (C := RX5) (T := TX5) (N := 33) hx hb hts hin_X5 hown hK hP 0 rfl rfl 9 (by decide) hw4 (fun _ h9 => h9) rfl dX5_mirror_133 ?_
                    refine lv_aload_n hx hb dX5_mirror_136 rfl (lv_at hl 0 rfl) ?_
                    refine va_get (D := (dC, dI)) (ci := 5) (v := .int (V 2)) (C := RX5) (T := TX5) (N := 33) hx hb hts hin_X5 hown hK hP 0 rfl rfl 2 (by decide) hw2 (fun _ h9 => h9) rfl dX5_mirror_137 ?_
                    refine lv_topi (fun x_122 ex_122 => ?_)
                    obtain rfl : x_122 = nI n := ex_122.trans (hV2)
                    refine lv_iload_n hx hb dX5_mirror_140 rfl (lv_at hl 2 rfl) ?_
                    refine va_iast hx hb hK hP hD hS 2 0 rfl rfl (vp_in_nI (n := n) (N := 40) (by omega) (by decide)) dX5_mirror_141 (fun H locs hP hD hS => ?_)
                    obtain ⟨F_123, eF_123⟩ : ∃ z : Nat → Nat → Int32, z = va_up F_112 2 (upd (F_112 2) (nI n).toNatClampNeg (nI k1)) := ⟨_, rfl⟩
                    have hP : va_P (dC, dI) vwCl (wM cI cZ cJ h F_123 G (va_up V 0 0)) H := by rw [eF_123]; exact hP
                    have hD : va_D A (wM cI cZ cJ h F_123 G (va_up V 0 0)) := by rw [eF_123]; exact hD
                    have hN_124 : ∀ i, i < 40 → F_123 3 i = nI (So i) := by rw [eF_123]; exact hN_113
                    have hN_125 : ∀ i, i < 4 → F_123 4 i = nI (Lm i) := by rw [eF_123]; exact hN_114
                    have hN_126 : ∀ i, i < 24 → F_123 7 i = nI (Hh i) := by rw [eF_123]; exact hN_115
                    have hN_127 : ∀ i, i < 24 → F_123 8 i = nI (Wd i) := by rw [eF_123]; exact hN_116
                    have hN_128 : ∀ i, i < 24 → F_123 9 i = nI (Pr i) := by rw [eF_123]; exact hN_117
                    have hN_129 : ∀ i, i < n → F_123 1 i = nI (S_118 i) := by rw [eF_123]; exact hN_119
                    obtain ⟨S_130, eS_130⟩ : ∃ z : Nat → Nat, z = nup Y n k1 := ⟨_, rfl⟩
                    have hN_131 : ∀ i, i < n → F_123 2 i = nI (S_130 i) := by rw [eF_123, eS_130]; show ∀ i, i < n → upd (F_112 2) (nI n).toNatClampNeg (nI k1) i = nI _; exact nf_put hN_121 (nI_clamp (n := n) (by omega))
                    have bN_132 : ∀ i, i < n → S_130 i ≤ 14 := by rw [eS_130]; exact nb_put bY (by omega)
                    refine lv_aload_n hx hb dX5_mirror_142 rfl (lv_at hl 0 rfl) ?_
                    refine lv_dup hx hb dX5_mirror_143 rfl ?_
                    refine va_get (D := (dC, dI)) (ci := 5) (v := .int (V 2)) (C := RX5) (T := TX5) (N := 33) hx hb hts hin_X5 hown hK hP 0 rfl rfl 2 (by decide) hw2 (fun _ h9 => h9) rfl dX5_mirror_144 ?_
                    refine lv_topi (fun x_133 ex_133 => ?_)
                    obtain rfl : x_133 = nI n := ex_133.trans (hV2)
                    refine lv_iconst (v := 1) hx hb dX5_mirror_147 (by decide) ?_
                    refine lv_iadd hx hb dX5_mirror_148 ?_
                    refine lv_topi (fun x_134 ex_134 => ?_)
                    obtain rfl : x_134 = nI (n + 1) := ex_134.trans (nI_add n 1)
                    refine va_put (D := (dC, dI)) (ci := 5) (v := .int (nI (n + 1))) (ty := .int) (C := RX5) (T := TX5) (N := 33) hx hb hts hin_X5 tyX5 tyX5_ok nmX5 hown hK hP hD hS 0 rfl rfl 2 (by decide) hw2 (fun _ h9 => h9) rfl (by decide +kernel) rfl rfl (Nat.le_of_ble_eq_true rfl) dX5_mirror_149 (fun H locs hP hD hS => ?_)
                    have hP : va_P (dC, dI) vwCl (wM cI cZ cJ h F_123 G (va_up (va_up V 0 0) 2 (nI (n + 1)))) H := hP
                    have hD : va_D A (wM cI cZ cJ h F_123 G (va_up (va_up V 0 0) 2 (nI (n + 1)))) := hD
                    refine lv_aload_n hx hb dX5_mirror_152 rfl (lv_at hl 0 rfl) ?_
                    refine lv_aload_n hx hb dX5_mirror_153 rfl (lv_at hl 0 rfl) ?_
                    refine va_get (D := (dC, dI)) (ci := 5) (v := .int (nI (n + 1))) (C := RX5) (T := TX5) (N := 33) hx hb hts hin_X5 hown hK hP 0 rfl rfl 2 (by decide) hw2 (fun _ h9 => h9) rfl dX5_mirror_154 ?_
                    refine lv_iconst (v := 1) hx hb dX5_mirror_157 (by decide) ?_
                    refine lv_isub hx hb dX5_mirror_158 ?_
                    refine lv_topi (fun x_135 ex_135 => ?_)
                    obtain rfl : x_135 = nI ((n + 1) - 1) := ex_135.trans (pk_sub (a := n + 1) (b := 1) (by omega))
                    refine cw_Vi (As := [.int (nI ((n + 1) - 1))]) (rest := []) (c_X5_done l dC dI cI cZ cJ h F_123 G (va_up (va_up V 0 0) 2 (nI (n + 1))) (nI ((n + 1) - 1))) fx (cwV 1 hts gX5_mirror_X5_done rfl rfl rfl (by decide +kernel) ⟨Nat.le_of_ble_eq_true rfl, Nat.le_of_ble_eq_true rfl⟩) hK hP hD hS hA 0 rfl rfl rfl rfl hl.1 rfl (Nat.le_of_ble_eq_true rfl) dX5_mirror_159 ⟨Nat.le_of_ble_eq_true rfl, Nat.le_of_ble_eq_true rfl⟩ (fun r_136 u_137 H locs hw_138 hP hD hS => ?_)
                    have hP : va_P (dC, dI) vwCl (wM cI cZ cJ h F_123 G (va_up (va_up (va_up V 0 0) 2 (nI (n + 1))) 1 0)) H := hP
                    have hD : va_D A (wM cI cZ cJ h F_123 G (va_up (va_up (va_up V 0 0) 2 (nI (n + 1))) 1 0)) := hD
                    obtain rfl : r_136 = nI ((n + 1) - 1) := hw_138
                    exact hret (nI ((n + 1) - 1)) (F_123, G, va_up (va_up (va_up V 0 0) 2 (nI (n + 1))) 1 0) H locs 162 ls rfl dX5_mirror_162 (by
                                  subst eS_118
                                  subst eS_130
                                  have hk_ : k = n := by omega
                                  rw [hk_] at hti
                                  have h0_ : cnt X Y n (nI k0) (nI k1) = 0 := by omega
                                  have q1_ : F_123 1 = upd (F 1) n (nI k0) := by
                                    rw [eF_123]
                                    show F_112 1 = _
                                    rw [eF_112]
                                    show upd (F 1) (nI n).toNatClampNeg (nI k0) = _
                                    rw [nI_clamp (by omega)]
                                  have q2_ : F_123 2 = upd (F 2) n (nI k1) := by
                                    rw [eF_123, eF_112]
                                    show upd (F 2) (nI n).toNatClampNeg (nI k1) = _
                                    rw [nI_clamp (by omega)]
                                  have gp_ := GP_up hGP (by omega) (by omega) h0_
                                  have hc_ : mOK (nI k0) (nI k1) n X Y = true := (mOK_nI (by omega) (by omega)).trans (decide_eq_true (by omega))
                                  refine ⟨?_, ?_⟩
                                  · (try simp only [hc_, cond_true, cond_false, nI_clamp (show k0 < 2 ^ 31 by omega), nI_clamp (show k1 < 2 ^ 31 by omega)])
                                    first | done | exact rfl
                                  · (try simp only [hc_, cond_true, cond_false, nI_clamp (show k0 < 2 ^ 31 by omega), nI_clamp (show k1 < 2 ^ 31 by omega)])
                                    exact ⟨⟨rfl, by omega⟩, ⟨hV3, by omega⟩, ⟨hV4, by omega⟩, ⟨hV6, by omega⟩, ⟨hV7, by omega⟩, ⟨hV10, by omega⟩, ⟨sh, hV11, by omega⟩, ⟨hN_124, bSo⟩, ⟨hN_125, bLm⟩, ⟨hN_126, bHh⟩, ⟨hN_127, bWd⟩, ⟨hN_128, bPr⟩, ⟨by rw [q1_]; exact nf_up1 hX, gp_.1⟩, ⟨by rw [q2_]; exact nf_up1 hY, gp_.2.1⟩, ⟨am, hV8, by omega, by omega⟩, gp_, (fun i hi => (congrFun (Eq.trans (va_ne eF_123 (by decide)) (va_ne eF_112 (by decide))) i).trans (hSX i hi)), (fun i hi => (congrFun (Eq.trans (va_ne eF_123 (by decide)) (va_ne eF_112 (by decide))) i).trans (hSY i hi)), (fun i hi => (congrFun (Eq.trans (va_ne eF_123 (by decide)) (va_ne eF_112 (by decide))) i).trans (hKc i hi)), (fun i hi => (congrFun (Eq.trans (va_ne eF_123 (by decide)) (va_ne eF_112 (by decide))) i).trans (hKp i hi)), ((show (va_up (va_up (va_up V 0 0) 2 (nI (n + 1))) 1 0) 5 = V 5 from rfl)).trans hE, (fun t h1 h2 => (congrFun (Eq.trans (va_ne eF_123 (by decide)) (va_ne eF_112 (by decide))) t).trans (hRB t h1 h2))⟩) (hP) (hD) hS
                  · have c_110 : n = 40 := (nI_eq (a := n) (b := 40) (by omega) (by omega)).mp c_110
                    refine lv_aload_n hx hb dX5_mirror_116 rfl (lv_at hl 0 rfl) ?_
                    refine lv_iconst (v := 3) hx hb dX5_mirror_117 (by decide) ?_
                    refine cw_Vi (As := [.int 3]) (rest := []) (c_X5_refused l dC dI cI cZ cJ h F G (va_up V 0 0) 3) fx (cwV 1 hts gX5_mirror_X5_refused rfl rfl rfl (by decide +kernel) ⟨Nat.le_of_ble_eq_true rfl, Nat.le_of_ble_eq_true rfl⟩) hK hP hD hS hA 0 rfl rfl rfl rfl hl.1 rfl (Nat.le_of_ble_eq_true rfl) dX5_mirror_118 ⟨Nat.le_of_ble_eq_true rfl, Nat.le_of_ble_eq_true rfl⟩ (fun r_139 u_140 H locs hw_141 hP hD hS => ?_)
                    have hP : va_P (dC, dI) vwCl (wM cI cZ cJ h F G (va_up (va_up V 0 0) 1 3)) H := hP
                    have hD : va_D A (wM cI cZ cJ h F G (va_up (va_up V 0 0) 1 3)) := hD
                    obtain rfl : r_139 = (-1) := hw_141
                    exact hret (-1) (F, G, va_up (va_up V 0 0) 1 3) H locs 121 ls rfl dX5_mirror_121 (by
                                  have hk_ : k = n := by omega
                                  rw [hk_] at hti
                                  have hc_ : mOK (nI k0) (nI k1) n X Y = false := (mOK_nI (by omega) (by omega)).trans (decide_eq_false (by omega))
                                  refine ⟨?_, ?_⟩
                                  · (try simp only [hc_, cond_true, cond_false, nI_clamp (show k0 < 2 ^ 31 by omega), nI_clamp (show k1 < 2 ^ 31 by omega)])
                                    first | done | exact rfl
                                  · (try simp only [hc_, cond_true, cond_false, nI_clamp (show k0 < 2 ^ 31 by omega), nI_clamp (show k1 < 2 ^ 31 by omega)])
                                    exact ⟨⟨hV2, by omega⟩, ⟨hV3, by omega⟩, ⟨hV4, by omega⟩, ⟨hV6, by omega⟩, ⟨hV7, by omega⟩, ⟨hV10, by omega⟩, ⟨sh, hV11, by omega⟩, ⟨hSo, bSo⟩, ⟨hLm, bLm⟩, ⟨hHh, bHh⟩, ⟨hWd, bWd⟩, ⟨hPr, bPr⟩, ⟨hX, bX⟩, ⟨hY, bY⟩, ⟨am, hV8, by omega, by omega⟩, hGP, (fun i hi => (congrFun (Eq.refl (F 5)) i).trans (hSX i hi)), (fun i hi => (congrFun (Eq.refl (F 6)) i).trans (hSY i hi)), (fun i hi => (congrFun (Eq.refl (F 13)) i).trans (hKc i hi)), (fun i hi => (congrFun (Eq.refl (F 15)) i).trans (hKp i hi)), ((show (va_up (va_up V 0 0) 1 3) 5 = V 5 from rfl)).trans hE, (fun t h1 h2 => (congrFun (Eq.refl (F 17)) t).trans (hRB t h1 h2))⟩) (hP) (hD) hS
                · have c_108 : ¬ tk = 0 := fun h => c_108 ((nI_eq (a := tk) (b := 0) (by omega) (by omega)).mpr h)
                  refine lv_aload_n hx hb dX5_mirror_101 rfl (lv_at hl 0 rfl) ?_
                  refine lv_iconst (v := 4) hx hb dX5_mirror_102 (by decide) ?_
                  refine cw_Vi (As := [.int 4]) (rest := []) (c_X5_refused l dC dI cI cZ cJ h F G (va_up V 0 0) 4) fx (cwV 1 hts gX5_mirror_X5_refused rfl rfl rfl (by decide +kernel) ⟨Nat.le_of_ble_eq_true rfl, Nat.le_of_ble_eq_true rfl⟩) hK hP hD hS hA 0 rfl rfl rfl rfl hl.1 rfl (Nat.le_of_ble_eq_true rfl) dX5_mirror_103 ⟨Nat.le_of_ble_eq_true rfl, Nat.le_of_ble_eq_true rfl⟩ (fun r_142 u_143 H locs hw_144 hP hD hS => ?_)
                  have hP : va_P (dC, dI) vwCl (wM cI cZ cJ h F G (va_up (va_up V 0 0) 1 4)) H := hP
                  have hD : va_D A (wM cI cZ cJ h F G (va_up (va_up V 0 0) 1 4)) := hD
                  obtain rfl : r_142 = (-1) := hw_144
                  exact hret (-1) (F, G, va_up (va_up V 0 0) 1 4) H locs 106 ls rfl dX5_mirror_106 (by
                                have hk_ : k = n := by omega
                                rw [hk_] at hti
                                have hc_ : mOK (nI k0) (nI k1) n X Y = false := (mOK_nI (by omega) (by omega)).trans (decide_eq_false (by omega))
                                refine ⟨?_, ?_⟩
                                · (try simp only [hc_, cond_true, cond_false, nI_clamp (show k0 < 2 ^ 31 by omega), nI_clamp (show k1 < 2 ^ 31 by omega)])
                                  first | done | exact rfl
                                · (try simp only [hc_, cond_true, cond_false, nI_clamp (show k0 < 2 ^ 31 by omega), nI_clamp (show k1 < 2 ^ 31 by omega)])
                                  exact ⟨⟨hV2, by omega⟩, ⟨hV3, by omega⟩, ⟨hV4, by omega⟩, ⟨hV6, by omega⟩, ⟨hV7, by omega⟩, ⟨hV10, by omega⟩, ⟨sh, hV11, by omega⟩, ⟨hSo, bSo⟩, ⟨hLm, bLm⟩, ⟨hHh, bHh⟩, ⟨hWd, bWd⟩, ⟨hPr, bPr⟩, ⟨hX, bX⟩, ⟨hY, bY⟩, ⟨am, hV8, by omega, by omega⟩, hGP, (fun i hi => (congrFun (Eq.refl (F 5)) i).trans (hSX i hi)), (fun i hi => (congrFun (Eq.refl (F 6)) i).trans (hSY i hi)), (fun i hi => (congrFun (Eq.refl (F 13)) i).trans (hKc i hi)), (fun i hi => (congrFun (Eq.refl (F 15)) i).trans (hKp i hi)), ((show (va_up (va_up V 0 0) 1 4) 5 = V 5 from rfl)).trans hE, (fun t h1 h2 => (congrFun (Eq.refl (F 17)) t).trans (hRB t h1 h2))⟩) (hP) (hD) hS
              · have c_107 : ¬ n ≤ k := fun h => c_107 ((nI_leI (a := n) (b := k) (by omega) (by omega)).mpr h)
                refine lv_iload_n hx hb dX5_mirror_59 rfl (lv_at hl 3 rfl) ?_
                refine lv_if_ne (tgt := 85) hx hb dX5_mirror_60 (by decide) (fun c_145 => ?_) (fun c_145 => ?_)
                · have c_145 : ¬ tk = 0 := fun h => c_145 ((nI_eq (a := tk) (b := 0) (by omega) (by omega)).mpr h)
                  refine lv_iconst (v := 1) hx hb dX5_mirror_85 (by decide) ?_
                  refine lv_goto (tgt := 90) hx hb dX5_mirror_86 (by decide) ?_
                  refine lv_istore_n (lv' := [(3, .int 1), (0, .ref (h 0)), (1, .int (nI k0)), (2, .int (nI k1)), (4, .int (nI k))]) hx hb dX5_mirror_90 rfl hl (by decide) rfl (fun ls hl => ?_)
                  refine lv_iinc (v := nI (k + 1)) (lv' := [(4, .int (nI (k + 1))), (3, .int 1), (0, .ref (h 0)), (1, .int (nI k0)), (2, .int (nI k1))]) hx hb dX5_mirror_91 hl (k := 4) rfl (nI_1 _) (by decide) rfl (fun ls hl => ?_)
                  refine lv_goto (tgt := 50) hx hb dX5_mirror_94 (by decide) ?_
                  have hm_ : cnt X Y k (nI k0) (nI k1) ≤ cnt X Y (k + 1) (nI k0) (nI k1) := by rw [cnt]; omega
                  have hxk_ := bX k (by omega)
                  have hyk_ := bY k (by omega)
                  have hy_ : X k = k0 → Y k = k1 → cnt X Y (k + 1) (nI k0) (nI k1) = cnt X Y k (nI k0) (nI k1) + 1 := fun a b => cnt_yes a b
                  have hno_ : ¬ (X k = k0 ∧ Y k = k1) → cnt X Y (k + 1) (nI k0) (nI k1) = cnt X Y k (nI k0) (nI k1) := fun a => cnt_not (by omega) (by omega) (by omega) (by omega) a
                  exact ih50 1 (k + 1) (by omega) (by omega) (by omega) (by omega) H locs ls hP hD hS (lv_sub hl [2, 3, 4, 1, 0] rfl)
                · have c_145 : tk = 0 := (nI_eq (a := tk) (b := 0) (by omega) (by omega)).mp c_145
                  refine lv_aload_n hx hb dX5_mirror_63 rfl (lv_at hl 0 rfl) ?_
                  refine va_get (D := (dC, dI)) (ci := 5) (v := .ref (h 1)) (C := RX5) (T := TX5) (N := 33) hx hb hts hin_X5 hown hK hP 0 rfl rfl 8 (by decide) hw3 (fun _ h9 => h9) rfl dX5_mirror_64 ?_
                  refine lv_iload hx hb dX5_mirror_67 (lv_at hl 4 rfl) ?_
                  refine va_iald hx hb hK hP 1 0 rfl rfl (vp_in_nI (n := k) (N := 40) (by omega) (by decide)) dX5_mirror_69 ?_
                  have hb_146 := bX k (by omega)
                  refine lv_topi (fun x_147 ex_147 => ?_)
                  obtain rfl : x_147 = nI (X k) := ex_147.trans ((congrArg (F 1) (nI_clamp (n := k) (by omega))).trans (hX k (by omega)))
                  refine lv_iload_n hx hb dX5_mirror_70 rfl (lv_at hl 1 rfl) ?_
                  refine lv_icmp_ne (tgt := 89) hx hb dX5_mirror_71 (by decide) (fun c_148 => ?_) (fun c_148 => ?_)
                  · have c_148 : ¬ (X k) = k0 := fun h => c_148 ((nI_eq (a := X k) (b := k0) (by omega) (by omega)).mpr h)
                    refine lv_iconst (v := 0) hx hb dX5_mirror_89 (by decide) ?_
                    refine lv_istore_n (lv' := [(3, .int 0), (0, .ref (h 0)), (1, .int (nI k0)), (2, .int (nI k1)), (4, .int (nI k))]) hx hb dX5_mirror_90 rfl hl (by decide) rfl (fun ls hl => ?_)
                    refine lv_iinc (v := nI (k + 1)) (lv' := [(4, .int (nI (k + 1))), (3, .int 0), (0, .ref (h 0)), (1, .int (nI k0)), (2, .int (nI k1))]) hx hb dX5_mirror_91 hl (k := 4) rfl (nI_1 _) (by decide) rfl (fun ls hl => ?_)
                    refine lv_goto (tgt := 50) hx hb dX5_mirror_94 (by decide) ?_
                    have hm_ : cnt X Y k (nI k0) (nI k1) ≤ cnt X Y (k + 1) (nI k0) (nI k1) := by rw [cnt]; omega
                    have hxk_ := bX k (by omega)
                    have hyk_ := bY k (by omega)
                    have hy_ : X k = k0 → Y k = k1 → cnt X Y (k + 1) (nI k0) (nI k1) = cnt X Y k (nI k0) (nI k1) + 1 := fun a b => cnt_yes a b
                    have hno_ : ¬ (X k = k0 ∧ Y k = k1) → cnt X Y (k + 1) (nI k0) (nI k1) = cnt X Y k (nI k0) (nI k1) := fun a => cnt_not (by omega) (by omega) (by omega) (by omega) a
                    exact ih50 0 (k + 1) (by omega) (by omega) (by omega) (by omega) H locs ls hP hD hS (lv_sub hl [2, 3, 4, 1, 0] rfl)
                  · have c_148 : (X k) = k0 := (nI_eq (a := X k) (b := k0) (by omega) (by omega)).mp c_148
                    refine lv_aload_n hx hb dX5_mirror_74 rfl (lv_at hl 0 rfl) ?_
                    refine va_get (D := (dC, dI)) (ci := 5) (v := .ref (h 2)) (C := RX5) (T := TX5) (N := 33) hx hb hts hin_X5 hown hK hP 0 rfl rfl 9 (by decide) hw4 (fun _ h9 => h9) rfl dX5_mirror_75 ?_
                    refine lv_iload hx hb dX5_mirror_78 (lv_at hl 4 rfl) ?_
                    refine va_iald hx hb hK hP 2 0 rfl rfl (vp_in_nI (n := k) (N := 40) (by omega) (by decide)) dX5_mirror_80 ?_
                    have hb_149 := bY k (by omega)
                    refine lv_topi (fun x_150 ex_150 => ?_)
                    obtain rfl : x_150 = nI (Y k) := ex_150.trans ((congrArg (F 2) (nI_clamp (n := k) (by omega))).trans (hY k (by omega)))
                    refine lv_iload_n hx hb dX5_mirror_81 rfl (lv_at hl 2 rfl) ?_
                    refine lv_icmp_ne (tgt := 89) hx hb dX5_mirror_82 (by decide) (fun c_151 => ?_) (fun c_151 => ?_)
                    · have c_151 : ¬ (Y k) = k1 := fun h => c_151 ((nI_eq (a := Y k) (b := k1) (by omega) (by omega)).mpr h)
                      refine lv_iconst (v := 0) hx hb dX5_mirror_89 (by decide) ?_
                      refine lv_istore_n (lv' := [(3, .int 0), (0, .ref (h 0)), (1, .int (nI k0)), (2, .int (nI k1)), (4, .int (nI k))]) hx hb dX5_mirror_90 rfl hl (by decide) rfl (fun ls hl => ?_)
                      refine lv_iinc (v := nI (k + 1)) (lv' := [(4, .int (nI (k + 1))), (3, .int 0), (0, .ref (h 0)), (1, .int (nI k0)), (2, .int (nI k1))]) hx hb dX5_mirror_91 hl (k := 4) rfl (nI_1 _) (by decide) rfl (fun ls hl => ?_)
                      refine lv_goto (tgt := 50) hx hb dX5_mirror_94 (by decide) ?_
                      have hm_ : cnt X Y k (nI k0) (nI k1) ≤ cnt X Y (k + 1) (nI k0) (nI k1) := by rw [cnt]; omega
                      have hxk_ := bX k (by omega)
                      have hyk_ := bY k (by omega)
                      have hy_ : X k = k0 → Y k = k1 → cnt X Y (k + 1) (nI k0) (nI k1) = cnt X Y k (nI k0) (nI k1) + 1 := fun a b => cnt_yes a b
                      have hno_ : ¬ (X k = k0 ∧ Y k = k1) → cnt X Y (k + 1) (nI k0) (nI k1) = cnt X Y k (nI k0) (nI k1) := fun a => cnt_not (by omega) (by omega) (by omega) (by omega) a
                      exact ih50 0 (k + 1) (by omega) (by omega) (by omega) (by omega) H locs ls hP hD hS (lv_sub hl [2, 3, 4, 1, 0] rfl)
                    · have c_151 : (Y k) = k1 := (nI_eq (a := Y k) (b := k1) (by omega) (by omega)).mp c_151
                      refine lv_iconst (v := 1) hx hb dX5_mirror_85 (by decide) ?_
                      refine lv_goto (tgt := 90) hx hb dX5_mirror_86 (by decide) ?_
                      refine lv_istore_n (lv' := [(3, .int 1), (0, .ref (h 0)), (1, .int (nI k0)), (2, .int (nI k1)), (4, .int (nI k))]) hx hb dX5_mirror_90 rfl hl (by decide) rfl (fun ls hl => ?_)
                      refine lv_iinc (v := nI (k + 1)) (lv' := [(4, .int (nI (k + 1))), (3, .int 1), (0, .ref (h 0)), (1, .int (nI k0)), (2, .int (nI k1))]) hx hb dX5_mirror_91 hl (k := 4) rfl (nI_1 _) (by decide) rfl (fun ls hl => ?_)
                      refine lv_goto (tgt := 50) hx hb dX5_mirror_94 (by decide) ?_
                      have hm_ : cnt X Y k (nI k0) (nI k1) ≤ cnt X Y (k + 1) (nI k0) (nI k1) := by rw [cnt]; omega
                      have hxk_ := bX k (by omega)
                      have hyk_ := bY k (by omega)
                      have hy_ : X k = k0 → Y k = k1 → cnt X Y (k + 1) (nI k0) (nI k1) = cnt X Y k (nI k0) (nI k1) + 1 := fun a b => cnt_yes a b
                      have hno_ : ¬ (X k = k0 ∧ Y k = k1) → cnt X Y (k + 1) (nI k0) (nI k1) = cnt X Y k (nI k0) (nI k1) := fun a => cnt_not (by omega) (by omega) (by omega) (by omega) a
                      exact ih50 1 (k + 1) (by omega) (by omega) (by omega) (by omega) H locs ls hP hD hS (lv_sub hl [2, 3, 4, 1, 0] rfl)
          exact loop50 _ 1 0 (by omega) (by omega) (by have hz0_ : cnt X Y 0 (nI k0) (nI k1) = 0 := rfl; omega) (Nat.lt_succ_self _) H locs ls hP hD hS (lv_sub hl [2, 3, 4, 1, 0] rfl)
    · have c_11 : isW p1 0 14 = false := bI_f hw_10 c_11
      refine lv_aload_n hx hb dX5_mirror_25 rfl (lv_at hl 0 rfl) ?_
      refine lv_iconst (v := 2) hx hb dX5_mirror_26 (by decide) ?_
      refine cw_Vi (As := [.int 2]) (rest := []) (c_X5_refused l dC dI cI cZ cJ h F G (va_up V 0 0) 2) fx (cwV 1 hts gX5_mirror_X5_refused rfl rfl rfl (by decide +kernel) ⟨Nat.le_of_ble_eq_true rfl, Nat.le_of_ble_eq_true rfl⟩) hK hP hD hS hA 0 rfl rfl rfl rfl hl.1 rfl (Nat.le_of_ble_eq_true rfl) dX5_mirror_27 ⟨Nat.le_of_ble_eq_true rfl, Nat.le_of_ble_eq_true rfl⟩ (fun r_152 u_153 H locs hw_154 hP hD hS => ?_)
      have hP : va_P (dC, dI) vwCl (wM cI cZ cJ h F G (va_up (va_up V 0 0) 1 2)) H := hP
      have hD : va_D A (wM cI cZ cJ h F G (va_up (va_up V 0 0) 1 2)) := hD
      obtain rfl : r_152 = (-1) := hw_154
      exact hret (-1) (F, G, va_up (va_up V 0 0) 1 2) H locs 30 ls rfl dX5_mirror_30 (by
                    have hc_ : mOK p0 p1 n X Y = false := by simp [mOK, c_4, c_11]
                    refine ⟨?_, ?_⟩
                    · (try simp only [hc_, cond_true, cond_false])
                      first | done | exact rfl
                    · (try simp only [hc_, cond_true, cond_false])
                      exact ⟨⟨hV2, by omega⟩, ⟨hV3, by omega⟩, ⟨hV4, by omega⟩, ⟨hV6, by omega⟩, ⟨hV7, by omega⟩, ⟨hV10, by omega⟩, ⟨sh, hV11, by omega⟩, ⟨hSo, bSo⟩, ⟨hLm, bLm⟩, ⟨hHh, bHh⟩, ⟨hWd, bWd⟩, ⟨hPr, bPr⟩, ⟨hX, bX⟩, ⟨hY, bY⟩, ⟨am, hV8, by omega, by omega⟩, hGP, (fun i hi => (congrFun (Eq.refl (F 5)) i).trans (hSX i hi)), (fun i hi => (congrFun (Eq.refl (F 6)) i).trans (hSY i hi)), (fun i hi => (congrFun (Eq.refl (F 13)) i).trans (hKc i hi)), (fun i hi => (congrFun (Eq.refl (F 15)) i).trans (hKp i hi)), ((show (va_up (va_up V 0 0) 1 2) 5 = V 5 from rfl)).trans hE, (fun t h1 h2 => (congrFun (Eq.refl (F 17)) t).trans (hRB t h1 h2))⟩) (hP) (hD) hS
def rm_X5_shot : Room := { frames := 1, cells := 0, slots := 0, locals := 24 }
set_option maxHeartbeats 4000000 in
set_option maxRecDepth 100000 in
theorem c_X5_shot (l : Launch) (dC : Nat → ClassId) (dI : Nat → Nat → Nat) (cI cZ cJ : ClassId) (h : Nat → Nat) (F : Nat → Nat → Int32) (G : Nat → Int64) (V : Nat → Int32) (n : Nat) (hV2 : V 2 = nI n) (bV2 : n ≤ 40) (nw : Nat) (hV3 : V 3 = nI nw) (bV3 : nw ≤ 23) (un : Nat) (hV4 : V 4 = nI un) (bV4 : un ≤ 200) (d : Nat) (hV6 : V 6 = nI d) (bV6 : d ≤ 20) (wm : Nat) (hV7 : V 7 = nI wm) (bV7 : wm ≤ 1) (pf : Nat) (hV10 : V 10 = nI pf) (bV10 : pf ≤ 24) (sh : Nat) (hV11 : V 11 = nI sh) (bV11 : sh ≤ 12) (So : Nat → Nat) (hSo : ∀ i, i < 40 → F 3 i = nI (So i)) (bSo : ∀ i, i < 40 → So i ≤ 90) (Lm : Nat → Nat) (hLm : ∀ i, i < 4 → F 4 i = nI (Lm i)) (bLm : ∀ i, i < 4 → Lm i ≤ 10000) (Hh : Nat → Nat) (hHh : ∀ i, i < 24 → F 7 i = nI (Hh i)) (bHh : ∀ i, i < 24 → Hh i ≤ 9) (Wd : Nat → Nat) (hWd : ∀ i, i < 24 → F 8 i = nI (Wd i)) (bWd : ∀ i, i < 24 → Wd i ≤ 99) (Pr : Nat → Nat) (hPr : ∀ i, i < 24 → F 9 i = nI (Pr i)) (bPr : ∀ i, i < 24 → Pr i ≤ 999) (X : Nat → Nat) (hX : ∀ i, i < n → F 1 i = nI (X i)) (bX : ∀ i, i < n → X i ≤ 14) (Y : Nat → Nat) (hY : ∀ i, i < n → F 2 i = nI (Y i)) (bY : ∀ i, i < n → Y i ≤ 14) (p0 p1 p2 : Int32)  (ks am : Nat) (hV8 : V 8 = nI am - 1) (bam : am ≤ 41) (hks : am - 1 = ks) (SX SY Kc Kp : Nat → Int32) (er : Int32) (rb : Nat → Bool) (hGP : GP n X Y) (hSX : ∀ i, i < 24 → F 5 i = SX i) (hSY : ∀ i, i < 24 → F 6 i = SY i) (hKc : ∀ i, i < ks → F 13 i = Kc i) (hKp : ∀ i, i < 4 → F 15 i = Kp i) (hE : V 5 = er) (hRB : ∀ t, pf ≤ t → t < 24 → F 17 t = bI (rb t)) : CtI l (dC, dI) vwCl (tys3 cI cZ cJ) yX5_shot wsX5_shot rm_X5_shot [.ref (h 0), .int p0, .int p1, .int p2] (wM cI cZ cJ h F G V) (S := (Nat → Nat → Int32) × (Nat → Int64) × (Nat → Int32)) (fun r u => (True) ∧ VM n d ks nw un wm pf So Hh Wd Lm Pr X Y SX SY Kc Kp er rb u.1 u.2.2) (fun u => wM cI cZ cJ h u.1 u.2.1 u.2.2) 0 0 := by
  refine ct_I (cc := cX5_shot) (maxL := 6) (ty := .int) (own := RX5) (by decide) rfl rfl (Nat.le_of_ble_eq_true rfl) (lv := [(0, .ref (h 0)), (1, .int p0), (2, .int p1), (3, .int p2)]) rfl ?_
  intro p e s m args below meth c A Q ls fx hK hP hD hA hl hret
  obtain ⟨hx, hb, hml, hown, hts⟩ := id fx
  have hS : va_S A s.heap s.heap [] := va_S.rf
  have hw0 := hts (.fieldLink RX5 1 "MirrorTowerModel" "thrown" "I") (by decide +kernel)
  have hin_X5 : ∀ w ∈ u_ws RX5 TX5 33, w ∈ wsX5_shot := by decide +kernel
  have hw2 := hts (.constantLong RX5 178 (4294967295)) (by decide +kernel)
  have hw3 := hts (.fieldLink RX5 91 "MirrorTowerModel" "mirrors" "I") (by decide +kernel)
  have hw4 := hts (.constantLong RX5 184 (-1)) (by decide +kernel)
  have hw5 := hts (.fieldLink RX5 186 "MirrorTowerModel" "shots" "I") (by decide +kernel)
  have hw6 := hts (.fieldLink RX5 81 "MirrorTowerModel" "shot" "[J") (by decide +kernel)
  have hw7 := hts (.fieldLink RX5 85 "MirrorTowerModel" "hits" "[I") (by decide +kernel)
  obtain ⟨H, hH⟩ : ∃ H, H = s.heap := ⟨_, rfl⟩
  rw [← hH] at hP ⊢
  have hS : va_S A s.heap H [] := by rw [hH]; exact hS
  generalize ([] : List Loc) = locs at hS ⊢
  refine lv_aload_n hx hb dX5_shot_0 rfl (lv_at hl 0 rfl) ?_
  refine lv_iconst (v := 0) hx hb dX5_shot_1 (by decide) ?_
  refine va_put (D := (dC, dI)) (ci := 5) (v := .int 0) (ty := .int) (C := RX5) (T := TX5) (N := 33) hx hb hts hin_X5 tyX5 tyX5_ok nmX5 hown hK hP hD hS 0 rfl rfl 0 (by decide) hw0 (fun _ h9 => h9) rfl (by decide +kernel) rfl rfl (Nat.le_of_ble_eq_true rfl) dX5_shot_2 (fun H locs hP hD hS => ?_)
  have hP : va_P (dC, dI) vwCl (wM cI cZ cJ h F G (va_up V 0 0)) H := hP
  have hD : va_D A (wM cI cZ cJ h F G (va_up V 0 0)) := hD
  refine lv_iload_n hx hb dX5_shot_5 rfl (lv_at hl 2 rfl) ?_
  refine lv_i2l hx hb dX5_shot_6 rfl ?_
  refine lv_bipush (v := 32) hx hb dX5_shot_7 (by decide) ?_
  refine lv_lshl hx hb dX5_shot_9 rfl ?_
  refine lv_topl (fun z_1 ez_1 => ?_)
  refine lv_iload_n hx hb dX5_shot_10 rfl (lv_at hl 1 rfl) ?_
  refine lv_i2l hx hb dX5_shot_11 rfl ?_
  refine lv_ldc2 hx hb hown hw2 dX5_shot_12 ?_
  refine lv_land hx hb dX5_shot_15 ?_
  refine lv_topl (fun z_2 ez_2 => ?_)
  refine lv_lor hx hb dX5_shot_16 ?_
  refine lv_topl (fun z_3 ez_3 => ?_)
  refine lv_lstore (lv' := [(4, .long z_3), (0, .ref (h 0)), (1, .int p0), (2, .int p1), (3, .int p2)]) hx hb dX5_shot_17 hl (by decide) rfl (fun ls hl => ?_)
  refine lv_iload_n hx hb dX5_shot_19 rfl (lv_at hl 4 rfl) ?_
  refine lv_if_lt (tgt := 32) hx hb dX5_shot_20 (by decide) (fun c_4 => ?_) (fun c_4 => ?_)
  · have c_4 : ltI p2 0 = true := decide_eq_true c_4
    refine lv_aload_n hx hb dX5_shot_32 rfl (lv_at hl 1 rfl) ?_
    refine lv_iconst (v := 2) hx hb dX5_shot_33 (by decide) ?_
    refine cw_Vi (As := [.int 2]) (rest := []) (c_X5_refused l dC dI cI cZ cJ h F G (va_up V 0 0) 2) fx (cwV 1 hts gX5_shot_X5_refused rfl rfl rfl (by decide +kernel) ⟨Nat.le_of_ble_eq_true rfl, Nat.le_of_ble_eq_true rfl⟩) hK hP hD hS hA 0 rfl rfl rfl rfl hl.1 rfl (Nat.le_of_ble_eq_true rfl) dX5_shot_34 ⟨Nat.le_of_ble_eq_true rfl, Nat.le_of_ble_eq_true rfl⟩ (fun r_5 u_6 H locs hw_7 hP hD hS => ?_)
    have hP : va_P (dC, dI) vwCl (wM cI cZ cJ h F G (va_up (va_up V 0 0) 1 2)) H := hP
    have hD : va_D A (wM cI cZ cJ h F G (va_up (va_up V 0 0) 1 2)) := hD
    obtain rfl : r_5 = (-1) := hw_7
    exact hret (-1) (F, G, va_up (va_up V 0 0) 1 2) H locs 37 ls rfl dX5_shot_37 (by
                  refine ⟨?_, ?_⟩
                  · (try dsimp only)
                    first | done | exact trivial
                  · (try dsimp only)
                    exact ⟨⟨hV2, by omega⟩, ⟨hV3, by omega⟩, ⟨hV4, by omega⟩, ⟨hV6, by omega⟩, ⟨hV7, by omega⟩, ⟨hV10, by omega⟩, ⟨sh, hV11, by omega⟩, ⟨hSo, bSo⟩, ⟨hLm, bLm⟩, ⟨hHh, bHh⟩, ⟨hWd, bWd⟩, ⟨hPr, bPr⟩, ⟨hX, bX⟩, ⟨hY, bY⟩, ⟨am, hV8, by omega, by omega⟩, hGP, (fun i hi => (congrFun (Eq.refl (F 5)) i).trans (hSX i hi)), (fun i hi => (congrFun (Eq.refl (F 6)) i).trans (hSY i hi)), (fun i hi => (congrFun (Eq.refl (F 13)) i).trans (hKc i hi)), (fun i hi => (congrFun (Eq.refl (F 15)) i).trans (hKp i hi)), ((show (va_up (va_up V 0 0) 1 2) 5 = V 5 from rfl)).trans hE, (fun t h1 h2 => (congrFun (Eq.refl (F 17)) t).trans (hRB t h1 h2))⟩) (hP) (hD) hS
  · have c_4 : ltI p2 0 = false := decide_eq_false c_4
    refine lv_iload_n hx hb dX5_shot_23 rfl (lv_at hl 4 rfl) ?_
    refine lv_lload hx hb dX5_shot_24 (lv_at hl 0 rfl) ?_
    refine cw_Si (As := [.long z_3]) (rest := [.int p2]) (c_X5_bits l dC dI cI cZ cJ (wM cI cZ cJ h F G (va_up V 0 0)) z_3) fx (va_cwS 1 hts gX5_shot_X5_bits rfl rfl rfl (by decide +kernel) ⟨Nat.le_of_ble_eq_true rfl, Nat.le_of_ble_eq_true rfl⟩) hK hP hD hS hA rfl hl.1 rfl (Nat.le_of_ble_eq_true rfl) dX5_shot_26 ⟨Nat.le_of_ble_eq_true rfl, Nat.le_of_ble_eq_true rfl⟩ (fun r_8 u_9 H locs hw_10 hP hD hS => ?_)
    have hP : va_P (dC, dI) vwCl (wM cI cZ cJ h F G (va_up V 0 0)) H := hP
    have hD : va_D A (wM cI cZ cJ h F G (va_up V 0 0)) := hD
    refine lv_icmp_le (tgt := 38) hx hb dX5_shot_29 (by decide) (fun c_11 => ?_) (fun c_11 => ?_)
    · have c_11 : ltI r_8 p2 = false := decide_eq_false (Int32.not_lt.mpr c_11)
      refine lv_lload hx hb dX5_shot_38 (lv_at hl 0 rfl) ?_
      refine lv_lconst (v := 0) hx hb dX5_shot_40 (by decide) ?_
      refine W.lcmp hx hb dX5_shot_41 ?_
      refine lv_if_eq (tgt := 65) hx hb dX5_shot_42 (by decide) (fun c_12 => ?_) (fun c_12 => ?_)
      · have c_12 : eqI (lg_cmp z_3 0) 0 = true := decide_eq_true c_12
        refine lv_aload_n hx hb dX5_shot_65 rfl (lv_at hl 1 rfl) ?_
        refine lv_iconst (v := 4) hx hb dX5_shot_66 (by decide) ?_
        refine cw_Vi (As := [.int 4]) (rest := []) (c_X5_refused l dC dI cI cZ cJ h F G (va_up V 0 0) 4) fx (cwV 1 hts gX5_shot_X5_refused rfl rfl rfl (by decide +kernel) ⟨Nat.le_of_ble_eq_true rfl, Nat.le_of_ble_eq_true rfl⟩) hK hP hD hS hA 0 rfl rfl rfl rfl hl.1 rfl (Nat.le_of_ble_eq_true rfl) dX5_shot_67 ⟨Nat.le_of_ble_eq_true rfl, Nat.le_of_ble_eq_true rfl⟩ (fun r_13 u_14 H locs hw_15 hP hD hS => ?_)
        have hP : va_P (dC, dI) vwCl (wM cI cZ cJ h F G (va_up (va_up V 0 0) 1 4)) H := hP
        have hD : va_D A (wM cI cZ cJ h F G (va_up (va_up V 0 0) 1 4)) := hD
        obtain rfl : r_13 = (-1) := hw_15
        exact hret (-1) (F, G, va_up (va_up V 0 0) 1 4) H locs 70 ls rfl dX5_shot_70 (by
                      refine ⟨?_, ?_⟩
                      · (try dsimp only)
                        first | done | exact trivial
                      · (try dsimp only)
                        exact ⟨⟨hV2, by omega⟩, ⟨hV3, by omega⟩, ⟨hV4, by omega⟩, ⟨hV6, by omega⟩, ⟨hV7, by omega⟩, ⟨hV10, by omega⟩, ⟨sh, hV11, by omega⟩, ⟨hSo, bSo⟩, ⟨hLm, bLm⟩, ⟨hHh, bHh⟩, ⟨hWd, bWd⟩, ⟨hPr, bPr⟩, ⟨hX, bX⟩, ⟨hY, bY⟩, ⟨am, hV8, by omega, by omega⟩, hGP, (fun i hi => (congrFun (Eq.refl (F 5)) i).trans (hSX i hi)), (fun i hi => (congrFun (Eq.refl (F 6)) i).trans (hSY i hi)), (fun i hi => (congrFun (Eq.refl (F 13)) i).trans (hKc i hi)), (fun i hi => (congrFun (Eq.refl (F 15)) i).trans (hKp i hi)), ((show (va_up (va_up V 0 0) 1 4) 5 = V 5 from rfl)).trans hE, (fun t h1 h2 => (congrFun (Eq.refl (F 17)) t).trans (hRB t h1 h2))⟩) (hP) (hD) hS
      · have c_12 : eqI (lg_cmp z_3 0) 0 = false := decide_eq_false c_12
        refine lv_lload hx hb dX5_shot_45 (lv_at hl 0 rfl) ?_
        refine lv_lconst (v := 1) hx hb dX5_shot_47 (by decide) ?_
        refine lv_aload_n hx hb dX5_shot_48 rfl (lv_at hl 1 rfl) ?_
        refine va_get (D := (dC, dI)) (ci := 5) (v := .int (V 2)) (C := RX5) (T := TX5) (N := 33) hx hb hts hin_X5 hown hK hP 0 rfl rfl 2 (by decide) hw3 (fun _ h9 => h9) rfl dX5_shot_49 ?_
        refine lv_topi (fun x_16 ex_16 => ?_)
        obtain rfl : x_16 = nI n := ex_16.trans (hV2)
        refine lv_lshl hx hb dX5_shot_52 rfl ?_
        refine lv_topl (fun z_17 ez_17 => ?_)
        refine lv_lconst (v := 1) hx hb dX5_shot_53 (by decide) ?_
        refine lv_lsub hx hb dX5_shot_54 ?_
        refine lv_topl (fun z_18 ez_18 => ?_)
        refine lv_ldc2 hx hb hown hw4 dX5_shot_55 ?_
        refine lv_lxor hx hb dX5_shot_58 ?_
        refine lv_topl (fun z_19 ez_19 => ?_)
        refine lv_land hx hb dX5_shot_59 ?_
        refine lv_topl (fun z_20 ez_20 => ?_)
        refine lv_lconst (v := 0) hx hb dX5_shot_60 (by decide) ?_
        refine W.lcmp hx hb dX5_shot_61 ?_
        refine lv_if_eq (tgt := 71) hx hb dX5_shot_62 (by decide) (fun c_21 => ?_) (fun c_21 => ?_)
        · have c_21 : eqI (lg_cmp z_20 0) 0 = true := decide_eq_true c_21
          refine lv_aload_n hx hb dX5_shot_71 rfl (lv_at hl 1 rfl) ?_
          refine va_get (D := (dC, dI)) (ci := 5) (v := .int (V 11)) (C := RX5) (T := TX5) (N := 33) hx hb hts hin_X5 hown hK hP 0 rfl rfl 31 (by decide) hw5 (fun _ h9 => h9) rfl dX5_shot_72 ?_
          refine lv_topi (fun x_22 ex_22 => ?_)
          obtain rfl : x_22 = nI sh := ex_22.trans (hV11)
          refine lv_bipush (v := 12) hx hb dX5_shot_75 (by decide) ?_
          refine lv_icmp_ne (tgt := 86) hx hb dX5_shot_77 (by decide) (fun c_23 => ?_) (fun c_23 => ?_)
          · have c_23 : ¬ sh = 12 := fun h => c_23 ((nI_eq (a := sh) (b := 12) (by omega) (by omega)).mpr h)
            refine lv_aload_n hx hb dX5_shot_86 rfl (lv_at hl 1 rfl) ?_
            refine va_get (D := (dC, dI)) (ci := 5) (v := .ref (h 19)) (C := RX5) (T := TX5) (N := 33) hx hb hts hin_X5 hown hK hP 0 rfl rfl 29 (by decide) hw6 (fun _ h9 => h9) rfl dX5_shot_87 ?_
            refine lv_aload_n hx hb dX5_shot_90 rfl (lv_at hl 1 rfl) ?_
            refine va_get (D := (dC, dI)) (ci := 5) (v := .int (V 11)) (C := RX5) (T := TX5) (N := 33) hx hb hts hin_X5 hown hK hP 0 rfl rfl 31 (by decide) hw5 (fun _ h9 => h9) rfl dX5_shot_91 ?_
            refine lv_topi (fun x_24 ex_24 => ?_)
            obtain rfl : x_24 = nI sh := ex_24.trans (hV11)
            refine lv_lload hx hb dX5_shot_94 (lv_at hl 0 rfl) ?_
            refine va_last hx hb hK hP hD hS 19 2 rfl rfl (vp_in_nI (n := sh) (N := 12) (by omega) (by decide)) dX5_shot_96 (fun H locs hP hD hS => ?_)
            obtain ⟨G_25, eG_25⟩ : ∃ z : Nat → Int64, z = vp_updL G (nI sh).toNatClampNeg z_3 := ⟨_, rfl⟩
            have hP : va_P (dC, dI) vwCl (wM cI cZ cJ h F G_25 (va_up V 0 0)) H := by rw [eG_25]; exact hP
            have hD : va_D A (wM cI cZ cJ h F G_25 (va_up V 0 0)) := by rw [eG_25]; exact hD
            refine lv_aload_n hx hb dX5_shot_97 rfl (lv_at hl 1 rfl) ?_
            refine va_get (D := (dC, dI)) (ci := 5) (v := .ref (h 20)) (C := RX5) (T := TX5) (N := 33) hx hb hts hin_X5 hown hK hP 0 rfl rfl 30 (by decide) hw7 (fun _ h9 => h9) rfl dX5_shot_98 ?_
            refine lv_aload_n hx hb dX5_shot_101 rfl (lv_at hl 1 rfl) ?_
            refine va_get (D := (dC, dI)) (ci := 5) (v := .int (V 11)) (C := RX5) (T := TX5) (N := 33) hx hb hts hin_X5 hown hK hP 0 rfl rfl 31 (by decide) hw5 (fun _ h9 => h9) rfl dX5_shot_102 ?_
            refine lv_topi (fun x_26 ex_26 => ?_)
            obtain rfl : x_26 = nI sh := ex_26.trans (hV11)
            refine lv_iload_n hx hb dX5_shot_105 rfl (lv_at hl 4 rfl) ?_
            refine va_iast hx hb hK hP hD hS 20 0 rfl rfl (vp_in_nI (n := sh) (N := 12) (by omega) (by decide)) dX5_shot_106 (fun H locs hP hD hS => ?_)
            obtain ⟨F_27, eF_27⟩ : ∃ z : Nat → Nat → Int32, z = va_up F 20 (upd (F 20) (nI sh).toNatClampNeg p2) := ⟨_, rfl⟩
            have hP : va_P (dC, dI) vwCl (wM cI cZ cJ h F_27 G_25 (va_up V 0 0)) H := by rw [eF_27]; exact hP
            have hD : va_D A (wM cI cZ cJ h F_27 G_25 (va_up V 0 0)) := by rw [eF_27]; exact hD
            have hN_28 : ∀ i, i < 40 → F_27 3 i = nI (So i) := by rw [eF_27]; exact hSo
            have hN_29 : ∀ i, i < 4 → F_27 4 i = nI (Lm i) := by rw [eF_27]; exact hLm
            have hN_30 : ∀ i, i < 24 → F_27 7 i = nI (Hh i) := by rw [eF_27]; exact hHh
            have hN_31 : ∀ i, i < 24 → F_27 8 i = nI (Wd i) := by rw [eF_27]; exact hWd
            have hN_32 : ∀ i, i < 24 → F_27 9 i = nI (Pr i) := by rw [eF_27]; exact hPr
            have hN_33 : ∀ i, i < n → F_27 1 i = nI (X i) := by rw [eF_27]; exact hX
            have hN_34 : ∀ i, i < n → F_27 2 i = nI (Y i) := by rw [eF_27]; exact hY
            refine lv_aload_n hx hb dX5_shot_107 rfl (lv_at hl 1 rfl) ?_
            refine lv_dup hx hb dX5_shot_108 rfl ?_
            refine va_get (D := (dC, dI)) (ci := 5) (v := .int (V 11)) (C := RX5) (T := TX5) (N := 33) hx hb hts hin_X5 hown hK hP 0 rfl rfl 31 (by decide) hw5 (fun _ h9 => h9) rfl dX5_shot_109 ?_
            refine lv_topi (fun x_35 ex_35 => ?_)
            obtain rfl : x_35 = nI sh := ex_35.trans (hV11)
            refine lv_iconst (v := 1) hx hb dX5_shot_112 (by decide) ?_
            refine lv_iadd hx hb dX5_shot_113 ?_
            refine lv_topi (fun x_36 ex_36 => ?_)
            obtain rfl : x_36 = nI (sh + 1) := ex_36.trans (nI_add sh 1)
            refine va_put (D := (dC, dI)) (ci := 5) (v := .int (nI (sh + 1))) (ty := .int) (C := RX5) (T := TX5) (N := 33) hx hb hts hin_X5 tyX5 tyX5_ok nmX5 hown hK hP hD hS 0 rfl rfl 31 (by decide) hw5 (fun _ h9 => h9) rfl (by decide +kernel) rfl rfl (Nat.le_of_ble_eq_true rfl) dX5_shot_114 (fun H locs hP hD hS => ?_)
            have hP : va_P (dC, dI) vwCl (wM cI cZ cJ h F_27 G_25 (va_up (va_up V 0 0) 11 (nI (sh + 1)))) H := hP
            have hD : va_D A (wM cI cZ cJ h F_27 G_25 (va_up (va_up V 0 0) 11 (nI (sh + 1)))) := hD
            refine lv_aload_n hx hb dX5_shot_117 rfl (lv_at hl 1 rfl) ?_
            refine lv_aload_n hx hb dX5_shot_118 rfl (lv_at hl 1 rfl) ?_
            refine va_get (D := (dC, dI)) (ci := 5) (v := .int (nI (sh + 1))) (C := RX5) (T := TX5) (N := 33) hx hb hts hin_X5 hown hK hP 0 rfl rfl 31 (by decide) hw5 (fun _ h9 => h9) rfl dX5_shot_119 ?_
            refine lv_iconst (v := 1) hx hb dX5_shot_122 (by decide) ?_
            refine lv_isub hx hb dX5_shot_123 ?_
            refine lv_topi (fun x_37 ex_37 => ?_)
            obtain rfl : x_37 = nI ((sh + 1) - 1) := ex_37.trans (pk_sub (a := sh + 1) (b := 1) (by omega))
            refine cw_Vi (As := [.int (nI ((sh + 1) - 1))]) (rest := []) (c_X5_done l dC dI cI cZ cJ h F_27 G_25 (va_up (va_up V 0 0) 11 (nI (sh + 1))) (nI ((sh + 1) - 1))) fx (cwV 1 hts gX5_shot_X5_done rfl rfl rfl (by decide +kernel) ⟨Nat.le_of_ble_eq_true rfl, Nat.le_of_ble_eq_true rfl⟩) hK hP hD hS hA 0 rfl rfl rfl rfl hl.1 rfl (Nat.le_of_ble_eq_true rfl) dX5_shot_124 ⟨Nat.le_of_ble_eq_true rfl, Nat.le_of_ble_eq_true rfl⟩ (fun r_38 u_39 H locs hw_40 hP hD hS => ?_)
            have hP : va_P (dC, dI) vwCl (wM cI cZ cJ h F_27 G_25 (va_up (va_up (va_up V 0 0) 11 (nI (sh + 1))) 1 0)) H := hP
            have hD : va_D A (wM cI cZ cJ h F_27 G_25 (va_up (va_up (va_up V 0 0) 11 (nI (sh + 1))) 1 0)) := hD
            obtain rfl : r_38 = nI ((sh + 1) - 1) := hw_40
            exact hret (nI ((sh + 1) - 1)) (F_27, G_25, va_up (va_up (va_up V 0 0) 11 (nI (sh + 1))) 1 0) H locs 127 ls rfl dX5_shot_127 (by
                          refine ⟨?_, ?_⟩
                          · (try dsimp only)
                            first | done | exact trivial
                          · (try dsimp only)
                            exact ⟨⟨hV2, by omega⟩, ⟨hV3, by omega⟩, ⟨hV4, by omega⟩, ⟨hV6, by omega⟩, ⟨hV7, by omega⟩, ⟨hV10, by omega⟩, ⟨(sh + 1), rfl, by omega⟩, ⟨hN_28, bSo⟩, ⟨hN_29, bLm⟩, ⟨hN_30, bHh⟩, ⟨hN_31, bWd⟩, ⟨hN_32, bPr⟩, ⟨hN_33, bX⟩, ⟨hN_34, bY⟩, ⟨am, hV8, by omega, by omega⟩, hGP, (fun i hi => (congrFun (va_ne eF_27 (by decide)) i).trans (hSX i hi)), (fun i hi => (congrFun (va_ne eF_27 (by decide)) i).trans (hSY i hi)), (fun i hi => (congrFun (va_ne eF_27 (by decide)) i).trans (hKc i hi)), (fun i hi => (congrFun (va_ne eF_27 (by decide)) i).trans (hKp i hi)), ((show (va_up (va_up (va_up V 0 0) 11 (nI (sh + 1))) 1 0) 5 = V 5 from rfl)).trans hE, (fun t h1 h2 => (congrFun (va_ne eF_27 (by decide)) t).trans (hRB t h1 h2))⟩) (hP) (hD) hS
          · have c_23 : sh = 12 := (nI_eq (a := sh) (b := 12) (by omega) (by omega)).mp c_23
            refine lv_aload_n hx hb dX5_shot_80 rfl (lv_at hl 1 rfl) ?_
            refine lv_iconst (v := 3) hx hb dX5_shot_81 (by decide) ?_
            refine cw_Vi (As := [.int 3]) (rest := []) (c_X5_refused l dC dI cI cZ cJ h F G (va_up V 0 0) 3) fx (cwV 1 hts gX5_shot_X5_refused rfl rfl rfl (by decide +kernel) ⟨Nat.le_of_ble_eq_true rfl, Nat.le_of_ble_eq_true rfl⟩) hK hP hD hS hA 0 rfl rfl rfl rfl hl.1 rfl (Nat.le_of_ble_eq_true rfl) dX5_shot_82 ⟨Nat.le_of_ble_eq_true rfl, Nat.le_of_ble_eq_true rfl⟩ (fun r_41 u_42 H locs hw_43 hP hD hS => ?_)
            have hP : va_P (dC, dI) vwCl (wM cI cZ cJ h F G (va_up (va_up V 0 0) 1 3)) H := hP
            have hD : va_D A (wM cI cZ cJ h F G (va_up (va_up V 0 0) 1 3)) := hD
            obtain rfl : r_41 = (-1) := hw_43
            exact hret (-1) (F, G, va_up (va_up V 0 0) 1 3) H locs 85 ls rfl dX5_shot_85 (by
                          refine ⟨?_, ?_⟩
                          · (try dsimp only)
                            first | done | exact trivial
                          · (try dsimp only)
                            exact ⟨⟨hV2, by omega⟩, ⟨hV3, by omega⟩, ⟨hV4, by omega⟩, ⟨hV6, by omega⟩, ⟨hV7, by omega⟩, ⟨hV10, by omega⟩, ⟨sh, hV11, by omega⟩, ⟨hSo, bSo⟩, ⟨hLm, bLm⟩, ⟨hHh, bHh⟩, ⟨hWd, bWd⟩, ⟨hPr, bPr⟩, ⟨hX, bX⟩, ⟨hY, bY⟩, ⟨am, hV8, by omega, by omega⟩, hGP, (fun i hi => (congrFun (Eq.refl (F 5)) i).trans (hSX i hi)), (fun i hi => (congrFun (Eq.refl (F 6)) i).trans (hSY i hi)), (fun i hi => (congrFun (Eq.refl (F 13)) i).trans (hKc i hi)), (fun i hi => (congrFun (Eq.refl (F 15)) i).trans (hKp i hi)), ((show (va_up (va_up V 0 0) 1 3) 5 = V 5 from rfl)).trans hE, (fun t h1 h2 => (congrFun (Eq.refl (F 17)) t).trans (hRB t h1 h2))⟩) (hP) (hD) hS
        · have c_21 : eqI (lg_cmp z_20 0) 0 = false := decide_eq_false c_21
          refine lv_aload_n hx hb dX5_shot_65 rfl (lv_at hl 1 rfl) ?_
          refine lv_iconst (v := 4) hx hb dX5_shot_66 (by decide) ?_
          refine cw_Vi (As := [.int 4]) (rest := []) (c_X5_refused l dC dI cI cZ cJ h F G (va_up V 0 0) 4) fx (cwV 1 hts gX5_shot_X5_refused rfl rfl rfl (by decide +kernel) ⟨Nat.le_of_ble_eq_true rfl, Nat.le_of_ble_eq_true rfl⟩) hK hP hD hS hA 0 rfl rfl rfl rfl hl.1 rfl (Nat.le_of_ble_eq_true rfl) dX5_shot_67 ⟨Nat.le_of_ble_eq_true rfl, Nat.le_of_ble_eq_true rfl⟩ (fun r_44 u_45 H locs hw_46 hP hD hS => ?_)
          have hP : va_P (dC, dI) vwCl (wM cI cZ cJ h F G (va_up (va_up V 0 0) 1 4)) H := hP
          have hD : va_D A (wM cI cZ cJ h F G (va_up (va_up V 0 0) 1 4)) := hD
          obtain rfl : r_44 = (-1) := hw_46
          exact hret (-1) (F, G, va_up (va_up V 0 0) 1 4) H locs 70 ls rfl dX5_shot_70 (by
                        refine ⟨?_, ?_⟩
                        · (try dsimp only)
                          first | done | exact trivial
                        · (try dsimp only)
                          exact ⟨⟨hV2, by omega⟩, ⟨hV3, by omega⟩, ⟨hV4, by omega⟩, ⟨hV6, by omega⟩, ⟨hV7, by omega⟩, ⟨hV10, by omega⟩, ⟨sh, hV11, by omega⟩, ⟨hSo, bSo⟩, ⟨hLm, bLm⟩, ⟨hHh, bHh⟩, ⟨hWd, bWd⟩, ⟨hPr, bPr⟩, ⟨hX, bX⟩, ⟨hY, bY⟩, ⟨am, hV8, by omega, by omega⟩, hGP, (fun i hi => (congrFun (Eq.refl (F 5)) i).trans (hSX i hi)), (fun i hi => (congrFun (Eq.refl (F 6)) i).trans (hSY i hi)), (fun i hi => (congrFun (Eq.refl (F 13)) i).trans (hKc i hi)), (fun i hi => (congrFun (Eq.refl (F 15)) i).trans (hKp i hi)), ((show (va_up (va_up V 0 0) 1 4) 5 = V 5 from rfl)).trans hE, (fun t h1 h2 => (congrFun (Eq.refl (F 17)) t).trans (hRB t h1 h2))⟩) (hP) (hD) hS
    · have c_11 : ltI r_8 p2 = true := decide_eq_true (Int32.not_le.mp c_11)
      refine lv_aload_n hx hb dX5_shot_32 rfl (lv_at hl 1 rfl) ?_
      refine lv_iconst (v := 2) hx hb dX5_shot_33 (by decide) ?_
      refine cw_Vi (As := [.int 2]) (rest := []) (c_X5_refused l dC dI cI cZ cJ h F G (va_up V 0 0) 2) fx (cwV 1 hts gX5_shot_X5_refused rfl rfl rfl (by decide +kernel) ⟨Nat.le_of_ble_eq_true rfl, Nat.le_of_ble_eq_true rfl⟩) hK hP hD hS hA 0 rfl rfl rfl rfl hl.1 rfl (Nat.le_of_ble_eq_true rfl) dX5_shot_34 ⟨Nat.le_of_ble_eq_true rfl, Nat.le_of_ble_eq_true rfl⟩ (fun r_47 u_48 H locs hw_49 hP hD hS => ?_)
      have hP : va_P (dC, dI) vwCl (wM cI cZ cJ h F G (va_up (va_up V 0 0) 1 2)) H := hP
      have hD : va_D A (wM cI cZ cJ h F G (va_up (va_up V 0 0) 1 2)) := hD
      obtain rfl : r_47 = (-1) := hw_49
      exact hret (-1) (F, G, va_up (va_up V 0 0) 1 2) H locs 37 ls rfl dX5_shot_37 (by
                    refine ⟨?_, ?_⟩
                    · (try dsimp only)
                      first | done | exact trivial
                    · (try dsimp only)
                      exact ⟨⟨hV2, by omega⟩, ⟨hV3, by omega⟩, ⟨hV4, by omega⟩, ⟨hV6, by omega⟩, ⟨hV7, by omega⟩, ⟨hV10, by omega⟩, ⟨sh, hV11, by omega⟩, ⟨hSo, bSo⟩, ⟨hLm, bLm⟩, ⟨hHh, bHh⟩, ⟨hWd, bWd⟩, ⟨hPr, bPr⟩, ⟨hX, bX⟩, ⟨hY, bY⟩, ⟨am, hV8, by omega, by omega⟩, hGP, (fun i hi => (congrFun (Eq.refl (F 5)) i).trans (hSX i hi)), (fun i hi => (congrFun (Eq.refl (F 6)) i).trans (hSY i hi)), (fun i hi => (congrFun (Eq.refl (F 13)) i).trans (hKc i hi)), (fun i hi => (congrFun (Eq.refl (F 15)) i).trans (hKp i hi)), ((show (va_up (va_up V 0 0) 1 2) 5 = V 5 from rfl)).trans hE, (fun t h1 h2 => (congrFun (Eq.refl (F 17)) t).trans (hRB t h1 h2))⟩) (hP) (hD) hS
