def rm_X5_sun : Room := { frames := 1, cells := 0, slots := 0, locals := 22 }
set_option maxHeartbeats 4000000 in
set_option maxRecDepth 100000 in
theorem c_X5_sun (l : Launch) (dC : Nat → ClassId) (dI : Nat → Nat → Nat) (cI cZ cJ : ClassId) (h : Nat → Nat) (F : Nat → Nat → Int32) (G : Nat → Int64) (V : Nat → Int32) (n : Nat) (hV2 : V 2 = nI n) (bV2 : n ≤ 40) (nw : Nat) (hV3 : V 3 = nI nw) (bV3 : nw ≤ 23) (un : Nat) (hV4 : V 4 = nI un) (bV4 : un ≤ 200) (d : Nat) (hV6 : V 6 = nI d) (bV6 : d ≤ 20) (wm : Nat) (hV7 : V 7 = nI wm) (bV7 : wm ≤ 1) (pf : Nat) (hV10 : V 10 = nI pf) (bV10 : pf ≤ 24) (sh : Nat) (hV11 : V 11 = nI sh) (bV11 : sh ≤ 12) (So : Nat → Nat) (hSo : ∀ i, i < 40 → F 3 i = nI (So i)) (bSo : ∀ i, i < 40 → So i ≤ 90) (Lm : Nat → Nat) (hLm : ∀ i, i < 4 → F 4 i = nI (Lm i)) (bLm : ∀ i, i < 4 → Lm i ≤ 10000) (Hh : Nat → Nat) (hHh : ∀ i, i < 24 → F 7 i = nI (Hh i)) (bHh : ∀ i, i < 24 → Hh i ≤ 9) (Wd : Nat → Nat) (hWd : ∀ i, i < 24 → F 8 i = nI (Wd i)) (bWd : ∀ i, i < 24 → Wd i ≤ 99) (Pr : Nat → Nat) (hPr : ∀ i, i < 24 → F 9 i = nI (Pr i)) (bPr : ∀ i, i < 24 → Pr i ≤ 999) (X : Nat → Nat) (hX : ∀ i, i < n → F 1 i = nI (X i)) (bX : ∀ i, i < n → X i ≤ 14) (Y : Nat → Nat) (hY : ∀ i, i < n → F 2 i = nI (Y i)) (bY : ∀ i, i < n → Y i ≤ 14) (p0 p1 p2 p3 : Int32)  (ks am : Nat) (hV8 : V 8 = nI am - 1) (bam : am ≤ 41) (hks : am - 1 = ks) (SX SY Kc Kp : Nat → Int32) (er : Int32) (rb : Nat → Bool) (hGP : GP n X Y) (hSX : ∀ i, i < 24 → F 5 i = SX i) (hSY : ∀ i, i < 24 → F 6 i = SY i) (hKc : ∀ i, i < ks → F 13 i = Kc i) (hKp : ∀ i, i < 4 → F 15 i = Kp i) (hE : V 5 = er) (hRB : ∀ t, pf ≤ t → t < 24 → F 17 t = bI (rb t)) : CtI l (dC, dI) vwCl (tys3 cI cZ cJ) yX5_sun wsX5_sun rm_X5_sun [.ref (h 0), .int p0, .int p1, .int p2, .int p3] (wM cI cZ cJ h F G V) (S := (Nat → Nat → Int32) × (Nat → Int64) × (Nat → Int32)) (fun r u => (r = bI (okS p0 p1 p2 p3)) ∧ VM n d ks nw un wm pf So (bif okS p0 p1 p2 p3 then nup Hh p0.toNatClampNeg p3.toNatClampNeg else Hh) Wd Lm Pr X Y (bif okS p0 p1 p2 p3 then upd SX p0.toNatClampNeg p1 else SX) (bif okS p0 p1 p2 p3 then upd SY p0.toNatClampNeg p2 else SY) Kc Kp er rb u.1 u.2.2) (fun u => wM cI cZ cJ h u.1 u.2.1 u.2.2) 0 0 := by
  refine ct_I (cc := cX5_sun) (maxL := 5) (ty := .boolean) (own := RX5) (by decide) rfl rfl (Nat.le_of_ble_eq_true rfl) (lv := [(0, .ref (h 0)), (1, .int p0), (2, .int p1), (3, .int p2), (4, .int p3)]) rfl ?_
  intro p e s m args below meth c A Q ls fx hK hP hD hA hl hret
  obtain ⟨hx, hb, hml, hown, hts⟩ := id fx
  have hS : va_S A s.heap s.heap [] := va_S.rf
  have hw0 := hts (.fieldLink RX5 1 "MirrorTowerModel" "thrown" "I") (by decide +kernel)
  have hin_X5 : ∀ w ∈ u_ws RX5 TX5 33, w ∈ wsX5_sun := by decide +kernel
  have hw2 := hts (.fieldLink RX5 32 "MirrorTowerModel" "sunX" "[I") (by decide +kernel)
  have hw3 := hts (.fieldLink RX5 35 "MirrorTowerModel" "sunY" "[I") (by decide +kernel)
  have hw4 := hts (.fieldLink RX5 38 "MirrorTowerModel" "height" "[I") (by decide +kernel)
  obtain ⟨H, hH⟩ : ∃ H, H = s.heap := ⟨_, rfl⟩
  rw [← hH] at hP ⊢
  have hS : va_S A s.heap H [] := by rw [hH]; exact hS
  generalize ([] : List Loc) = locs at hS ⊢
  refine lv_aload_n hx hb dX5_sun_0 rfl (lv_at hl 0 rfl) ?_
  refine lv_iconst (v := 0) hx hb dX5_sun_1 (by decide) ?_
  refine va_put (D := (dC, dI)) (ci := 5) (v := .int 0) (ty := .int) (C := RX5) (T := TX5) (N := 33) hx hb hts hin_X5 tyX5 tyX5_ok nmX5 hown hK hP hD hS 0 rfl rfl 0 (by decide) hw0 (fun _ h9 => h9) rfl (by decide +kernel) rfl rfl (Nat.le_of_ble_eq_true rfl) dX5_sun_2 (fun H locs hP hD hS => ?_)
  have hP : va_P (dC, dI) vwCl (wM cI cZ cJ h F G (va_up V 0 0)) H := hP
  have hD : va_D A (wM cI cZ cJ h F G (va_up V 0 0)) := hD
  refine lv_iload_n hx hb dX5_sun_5 rfl (lv_at hl 1 rfl) ?_
  refine cw_Si (As := [.int p0]) (rest := []) (c_X5_isHour l dC dI cI cZ cJ (wM cI cZ cJ h F G (va_up V 0 0)) p0) fx (va_cwS 1 hts gX5_sun_X5_isHour rfl rfl rfl (by decide +kernel) ⟨Nat.le_of_ble_eq_true rfl, Nat.le_of_ble_eq_true rfl⟩) hK hP hD hS hA rfl hl.1 rfl (Nat.le_of_ble_eq_true rfl) dX5_sun_6 ⟨Nat.le_of_ble_eq_true rfl, Nat.le_of_ble_eq_true rfl⟩ (fun r_1 u_2 H locs hw_3 hP hD hS => ?_)
  have hP : va_P (dC, dI) vwCl (wM cI cZ cJ h F G (va_up V 0 0)) H := hP
  have hD : va_D A (wM cI cZ cJ h F G (va_up V 0 0)) := hD
  have hw_3 : r_1 = bI (isW p0 0 23) := hw_3
  refine lv_if_eq (tgt := 51) hx hb dX5_sun_9 (by decide) (fun c_4 => ?_) (fun c_4 => ?_)
  · have c_4 : isW p0 0 23 = false := bI_f hw_3 c_4
    refine lv_aload_n hx hb dX5_sun_51 rfl (lv_at hl 0 rfl) ?_
    refine lv_iconst (v := 2) hx hb dX5_sun_52 (by decide) ?_
    refine cw_Vi (As := [.int 2]) (rest := []) (c_X5_denied l dC dI cI cZ cJ h F G (va_up V 0 0) 2) fx (cwV 1 hts gX5_sun_X5_denied rfl rfl rfl (by decide +kernel) ⟨Nat.le_of_ble_eq_true rfl, Nat.le_of_ble_eq_true rfl⟩) hK hP hD hS hA 0 rfl rfl rfl rfl hl.1 rfl (Nat.le_of_ble_eq_true rfl) dX5_sun_53 ⟨Nat.le_of_ble_eq_true rfl, Nat.le_of_ble_eq_true rfl⟩ (fun r_5 u_6 H locs hw_7 hP hD hS => ?_)
    have hP : va_P (dC, dI) vwCl (wM cI cZ cJ h F G (va_up (va_up V 0 0) 1 2)) H := hP
    have hD : va_D A (wM cI cZ cJ h F G (va_up (va_up V 0 0) 1 2)) := hD
    obtain rfl : r_5 = 0 := hw_7
    exact hret 0 (F, G, va_up (va_up V 0 0) 1 2) H locs 56 ls rfl dX5_sun_56 (by
                  have hc_ : okS p0 p1 p2 p3 = false := by simp [okS, c_4]
                  refine ⟨?_, ?_⟩
                  · (try simp only [hc_, cond_true, cond_false])
                    first | done | exact rfl
                  · (try simp only [hc_, cond_true, cond_false])
                    exact ⟨⟨hV2, by omega⟩, ⟨hV3, by omega⟩, ⟨hV4, by omega⟩, ⟨hV6, by omega⟩, ⟨hV7, by omega⟩, ⟨hV10, by omega⟩, ⟨sh, hV11, by omega⟩, ⟨hSo, bSo⟩, ⟨hLm, bLm⟩, ⟨hHh, bHh⟩, ⟨hWd, bWd⟩, ⟨hPr, bPr⟩, ⟨hX, bX⟩, ⟨hY, bY⟩, ⟨am, hV8, by omega, by omega⟩, hGP, (fun i hi => (congrFun (Eq.refl (F 5)) i).trans (hSX i hi)), (fun i hi => (congrFun (Eq.refl (F 6)) i).trans (hSY i hi)), (fun i hi => (congrFun (Eq.refl (F 13)) i).trans (hKc i hi)), (fun i hi => (congrFun (Eq.refl (F 15)) i).trans (hKp i hi)), ((show (va_up (va_up V 0 0) 1 2) 5 = V 5 from rfl)).trans hE, (fun t h1 h2 => (congrFun (Eq.refl (F 17)) t).trans (hRB t h1 h2))⟩) (hP) (hD) hS
  · have c_4 : isW p0 0 23 = true := bI_t hw_3 c_4
    refine lv_iload_n hx hb dX5_sun_12 rfl (lv_at hl 2 rfl) ?_
    refine lv_bipush (v := (-2)) hx hb dX5_sun_13 (by decide) ?_
    refine lv_iconst (v := 2) hx hb dX5_sun_15 (by decide) ?_
    refine cw_Si (As := [.int p1, .int (-2), .int 2]) (rest := []) (c_X5_in l dC dI cI cZ cJ (wM cI cZ cJ h F G (va_up V 0 0)) p1 (-2) 2) fx (va_cwS 3 hts gX5_sun_X5_in rfl rfl rfl (by decide +kernel) ⟨Nat.le_of_ble_eq_true rfl, Nat.le_of_ble_eq_true rfl⟩) hK hP hD hS hA rfl hl.1 rfl (Nat.le_of_ble_eq_true rfl) dX5_sun_16 ⟨Nat.le_of_ble_eq_true rfl, Nat.le_of_ble_eq_true rfl⟩ (fun r_8 u_9 H locs hw_10 hP hD hS => ?_)
    have hP : va_P (dC, dI) vwCl (wM cI cZ cJ h F G (va_up V 0 0)) H := hP
    have hD : va_D A (wM cI cZ cJ h F G (va_up V 0 0)) := hD
    have hw_10 : r_8 = bI (isW p1 (-2) 2) := hw_10
    refine lv_if_eq (tgt := 51) hx hb dX5_sun_19 (by decide) (fun c_11 => ?_) (fun c_11 => ?_)
    · have c_11 : isW p1 (-2) 2 = false := bI_f hw_10 c_11
      refine lv_aload_n hx hb dX5_sun_51 rfl (lv_at hl 0 rfl) ?_
      refine lv_iconst (v := 2) hx hb dX5_sun_52 (by decide) ?_
      refine cw_Vi (As := [.int 2]) (rest := []) (c_X5_denied l dC dI cI cZ cJ h F G (va_up V 0 0) 2) fx (cwV 1 hts gX5_sun_X5_denied rfl rfl rfl (by decide +kernel) ⟨Nat.le_of_ble_eq_true rfl, Nat.le_of_ble_eq_true rfl⟩) hK hP hD hS hA 0 rfl rfl rfl rfl hl.1 rfl (Nat.le_of_ble_eq_true rfl) dX5_sun_53 ⟨Nat.le_of_ble_eq_true rfl, Nat.le_of_ble_eq_true rfl⟩ (fun r_12 u_13 H locs hw_14 hP hD hS => ?_)
      have hP : va_P (dC, dI) vwCl (wM cI cZ cJ h F G (va_up (va_up V 0 0) 1 2)) H := hP
      have hD : va_D A (wM cI cZ cJ h F G (va_up (va_up V 0 0) 1 2)) := hD
      obtain rfl : r_12 = 0 := hw_14
      exact hret 0 (F, G, va_up (va_up V 0 0) 1 2) H locs 56 ls rfl dX5_sun_56 (by
                    have hc_ : okS p0 p1 p2 p3 = false := by simp [okS, c_4, c_11]
                    refine ⟨?_, ?_⟩
                    · (try simp only [hc_, cond_true, cond_false])
                      first | done | exact rfl
                    · (try simp only [hc_, cond_true, cond_false])
                      exact ⟨⟨hV2, by omega⟩, ⟨hV3, by omega⟩, ⟨hV4, by omega⟩, ⟨hV6, by omega⟩, ⟨hV7, by omega⟩, ⟨hV10, by omega⟩, ⟨sh, hV11, by omega⟩, ⟨hSo, bSo⟩, ⟨hLm, bLm⟩, ⟨hHh, bHh⟩, ⟨hWd, bWd⟩, ⟨hPr, bPr⟩, ⟨hX, bX⟩, ⟨hY, bY⟩, ⟨am, hV8, by omega, by omega⟩, hGP, (fun i hi => (congrFun (Eq.refl (F 5)) i).trans (hSX i hi)), (fun i hi => (congrFun (Eq.refl (F 6)) i).trans (hSY i hi)), (fun i hi => (congrFun (Eq.refl (F 13)) i).trans (hKc i hi)), (fun i hi => (congrFun (Eq.refl (F 15)) i).trans (hKp i hi)), ((show (va_up (va_up V 0 0) 1 2) 5 = V 5 from rfl)).trans hE, (fun t h1 h2 => (congrFun (Eq.refl (F 17)) t).trans (hRB t h1 h2))⟩) (hP) (hD) hS
    · have c_11 : isW p1 (-2) 2 = true := bI_t hw_10 c_11
      refine lv_iload_n hx hb dX5_sun_22 rfl (lv_at hl 3 rfl) ?_
      refine lv_bipush (v := (-2)) hx hb dX5_sun_23 (by decide) ?_
      refine lv_iconst (v := 2) hx hb dX5_sun_25 (by decide) ?_
      refine cw_Si (As := [.int p2, .int (-2), .int 2]) (rest := []) (c_X5_in l dC dI cI cZ cJ (wM cI cZ cJ h F G (va_up V 0 0)) p2 (-2) 2) fx (va_cwS 3 hts gX5_sun_X5_in rfl rfl rfl (by decide +kernel) ⟨Nat.le_of_ble_eq_true rfl, Nat.le_of_ble_eq_true rfl⟩) hK hP hD hS hA rfl hl.1 rfl (Nat.le_of_ble_eq_true rfl) dX5_sun_26 ⟨Nat.le_of_ble_eq_true rfl, Nat.le_of_ble_eq_true rfl⟩ (fun r_15 u_16 H locs hw_17 hP hD hS => ?_)
      have hP : va_P (dC, dI) vwCl (wM cI cZ cJ h F G (va_up V 0 0)) H := hP
      have hD : va_D A (wM cI cZ cJ h F G (va_up V 0 0)) := hD
      have hw_17 : r_15 = bI (isW p2 (-2) 2) := hw_17
      refine lv_if_eq (tgt := 51) hx hb dX5_sun_29 (by decide) (fun c_18 => ?_) (fun c_18 => ?_)
      · have c_18 : isW p2 (-2) 2 = false := bI_f hw_17 c_18
        refine lv_aload_n hx hb dX5_sun_51 rfl (lv_at hl 0 rfl) ?_
        refine lv_iconst (v := 2) hx hb dX5_sun_52 (by decide) ?_
        refine cw_Vi (As := [.int 2]) (rest := []) (c_X5_denied l dC dI cI cZ cJ h F G (va_up V 0 0) 2) fx (cwV 1 hts gX5_sun_X5_denied rfl rfl rfl (by decide +kernel) ⟨Nat.le_of_ble_eq_true rfl, Nat.le_of_ble_eq_true rfl⟩) hK hP hD hS hA 0 rfl rfl rfl rfl hl.1 rfl (Nat.le_of_ble_eq_true rfl) dX5_sun_53 ⟨Nat.le_of_ble_eq_true rfl, Nat.le_of_ble_eq_true rfl⟩ (fun r_19 u_20 H locs hw_21 hP hD hS => ?_)
        have hP : va_P (dC, dI) vwCl (wM cI cZ cJ h F G (va_up (va_up V 0 0) 1 2)) H := hP
        have hD : va_D A (wM cI cZ cJ h F G (va_up (va_up V 0 0) 1 2)) := hD
        obtain rfl : r_19 = 0 := hw_21
        exact hret 0 (F, G, va_up (va_up V 0 0) 1 2) H locs 56 ls rfl dX5_sun_56 (by
                      have hc_ : okS p0 p1 p2 p3 = false := by simp [okS, c_4, c_11, c_18]
                      refine ⟨?_, ?_⟩
                      · (try simp only [hc_, cond_true, cond_false])
                        first | done | exact rfl
                      · (try simp only [hc_, cond_true, cond_false])
                        exact ⟨⟨hV2, by omega⟩, ⟨hV3, by omega⟩, ⟨hV4, by omega⟩, ⟨hV6, by omega⟩, ⟨hV7, by omega⟩, ⟨hV10, by omega⟩, ⟨sh, hV11, by omega⟩, ⟨hSo, bSo⟩, ⟨hLm, bLm⟩, ⟨hHh, bHh⟩, ⟨hWd, bWd⟩, ⟨hPr, bPr⟩, ⟨hX, bX⟩, ⟨hY, bY⟩, ⟨am, hV8, by omega, by omega⟩, hGP, (fun i hi => (congrFun (Eq.refl (F 5)) i).trans (hSX i hi)), (fun i hi => (congrFun (Eq.refl (F 6)) i).trans (hSY i hi)), (fun i hi => (congrFun (Eq.refl (F 13)) i).trans (hKc i hi)), (fun i hi => (congrFun (Eq.refl (F 15)) i).trans (hKp i hi)), ((show (va_up (va_up V 0 0) 1 2) 5 = V 5 from rfl)).trans hE, (fun t h1 h2 => (congrFun (Eq.refl (F 17)) t).trans (hRB t h1 h2))⟩) (hP) (hD) hS
      · have c_18 : isW p2 (-2) 2 = true := bI_t hw_17 c_18
        refine lv_iload_n hx hb dX5_sun_32 rfl (lv_at hl 2 rfl) ?_
        refine lv_if_ne (tgt := 40) hx hb dX5_sun_33 (by decide) (fun c_22 => ?_) (fun c_22 => ?_)
        · have c_22 : eqI p1 0 = false := decide_eq_false c_22
          refine lv_iload hx hb dX5_sun_40 (lv_at hl 4 rfl) ?_
          refine lv_iconst (v := 0) hx hb dX5_sun_42 (by decide) ?_
          refine lv_bipush (v := 9) hx hb dX5_sun_43 (by decide) ?_
          refine cw_Si (As := [.int p3, .int 0, .int 9]) (rest := []) (c_X5_in l dC dI cI cZ cJ (wM cI cZ cJ h F G (va_up V 0 0)) p3 0 9) fx (va_cwS 3 hts gX5_sun_X5_in rfl rfl rfl (by decide +kernel) ⟨Nat.le_of_ble_eq_true rfl, Nat.le_of_ble_eq_true rfl⟩) hK hP hD hS hA rfl hl.1 rfl (Nat.le_of_ble_eq_true rfl) dX5_sun_45 ⟨Nat.le_of_ble_eq_true rfl, Nat.le_of_ble_eq_true rfl⟩ (fun r_23 u_24 H locs hw_25 hP hD hS => ?_)
          have hP : va_P (dC, dI) vwCl (wM cI cZ cJ h F G (va_up V 0 0)) H := hP
          have hD : va_D A (wM cI cZ cJ h F G (va_up V 0 0)) := hD
          have hw_25 : r_23 = bI (isW p3 0 9) := hw_25
          refine lv_if_ne (tgt := 57) hx hb dX5_sun_48 (by decide) (fun c_26 => ?_) (fun c_26 => ?_)
          · have c_26 : isW p3 0 9 = true := bI_t hw_25 c_26
            refine lv_aload_n hx hb dX5_sun_57 rfl (lv_at hl 0 rfl) ?_
            refine va_get (D := (dC, dI)) (ci := 5) (v := .ref (h 5)) (C := RX5) (T := TX5) (N := 33) hx hb hts hin_X5 hown hK hP 0 rfl rfl 12 (by decide) hw2 (fun _ h9 => h9) rfl dX5_sun_58 ?_
            refine lv_iload_n hx hb dX5_sun_61 rfl (lv_at hl 1 rfl) ?_
            refine lv_iload_n hx hb dX5_sun_62 rfl (lv_at hl 2 rfl) ?_
            obtain ⟨k0, hk0, rfl⟩ := isW_nat (M := 23) (n := 23) (by decide) c_4
            obtain ⟨k3, hk3, rfl⟩ := isW_nat (M := 9) (n := 9) (by decide) c_26
            refine va_iast hx hb hK hP hD hS 5 0 rfl rfl (vp_in_nI (n := k0) (N := 24) (by omega) (by decide)) dX5_sun_63 (fun H locs hP hD hS => ?_)
            obtain ⟨F_27, eF_27⟩ : ∃ z : Nat → Nat → Int32, z = va_up F 5 (upd (F 5) (nI k0).toNatClampNeg p1) := ⟨_, rfl⟩
            have hP : va_P (dC, dI) vwCl (wM cI cZ cJ h F_27 G (va_up V 0 0)) H := by rw [eF_27]; exact hP
            have hD : va_D A (wM cI cZ cJ h F_27 G (va_up V 0 0)) := by rw [eF_27]; exact hD
            have hN_28 : ∀ i, i < 40 → F_27 3 i = nI (So i) := by rw [eF_27]; exact hSo
            have hN_29 : ∀ i, i < 4 → F_27 4 i = nI (Lm i) := by rw [eF_27]; exact hLm
            have hN_30 : ∀ i, i < 24 → F_27 7 i = nI (Hh i) := by rw [eF_27]; exact hHh
            have hN_31 : ∀ i, i < 24 → F_27 8 i = nI (Wd i) := by rw [eF_27]; exact hWd
            have hN_32 : ∀ i, i < 24 → F_27 9 i = nI (Pr i) := by rw [eF_27]; exact hPr
            have hN_33 : ∀ i, i < n → F_27 1 i = nI (X i) := by rw [eF_27]; exact hX
            have hN_34 : ∀ i, i < n → F_27 2 i = nI (Y i) := by rw [eF_27]; exact hY
            refine lv_aload_n hx hb dX5_sun_64 rfl (lv_at hl 0 rfl) ?_
            refine va_get (D := (dC, dI)) (ci := 5) (v := .ref (h 6)) (C := RX5) (T := TX5) (N := 33) hx hb hts hin_X5 hown hK hP 0 rfl rfl 13 (by decide) hw3 (fun _ h9 => h9) rfl dX5_sun_65 ?_
            refine lv_iload_n hx hb dX5_sun_68 rfl (lv_at hl 1 rfl) ?_
            refine lv_iload_n hx hb dX5_sun_69 rfl (lv_at hl 3 rfl) ?_
            refine va_iast hx hb hK hP hD hS 6 0 rfl rfl (vp_in_nI (n := k0) (N := 24) (by omega) (by decide)) dX5_sun_70 (fun H locs hP hD hS => ?_)
            obtain ⟨F_35, eF_35⟩ : ∃ z : Nat → Nat → Int32, z = va_up F_27 6 (upd (F_27 6) (nI k0).toNatClampNeg p2) := ⟨_, rfl⟩
            have hP : va_P (dC, dI) vwCl (wM cI cZ cJ h F_35 G (va_up V 0 0)) H := by rw [eF_35]; exact hP
            have hD : va_D A (wM cI cZ cJ h F_35 G (va_up V 0 0)) := by rw [eF_35]; exact hD
            have hN_36 : ∀ i, i < 40 → F_35 3 i = nI (So i) := by rw [eF_35]; exact hN_28
            have hN_37 : ∀ i, i < 4 → F_35 4 i = nI (Lm i) := by rw [eF_35]; exact hN_29
            have hN_38 : ∀ i, i < 24 → F_35 7 i = nI (Hh i) := by rw [eF_35]; exact hN_30
            have hN_39 : ∀ i, i < 24 → F_35 8 i = nI (Wd i) := by rw [eF_35]; exact hN_31
            have hN_40 : ∀ i, i < 24 → F_35 9 i = nI (Pr i) := by rw [eF_35]; exact hN_32
            have hN_41 : ∀ i, i < n → F_35 1 i = nI (X i) := by rw [eF_35]; exact hN_33
            have hN_42 : ∀ i, i < n → F_35 2 i = nI (Y i) := by rw [eF_35]; exact hN_34
            refine lv_aload_n hx hb dX5_sun_71 rfl (lv_at hl 0 rfl) ?_
            refine va_get (D := (dC, dI)) (ci := 5) (v := .ref (h 7)) (C := RX5) (T := TX5) (N := 33) hx hb hts hin_X5 hown hK hP 0 rfl rfl 14 (by decide) hw4 (fun _ h9 => h9) rfl dX5_sun_72 ?_
            refine lv_iload_n hx hb dX5_sun_75 rfl (lv_at hl 1 rfl) ?_
            refine lv_iload hx hb dX5_sun_76 (lv_at hl 4 rfl) ?_
            refine va_iast hx hb hK hP hD hS 7 0 rfl rfl (vp_in_nI (n := k0) (N := 24) (by omega) (by decide)) dX5_sun_78 (fun H locs hP hD hS => ?_)
            obtain ⟨F_43, eF_43⟩ : ∃ z : Nat → Nat → Int32, z = va_up F_35 7 (upd (F_35 7) (nI k0).toNatClampNeg (nI k3)) := ⟨_, rfl⟩
            have hP : va_P (dC, dI) vwCl (wM cI cZ cJ h F_43 G (va_up V 0 0)) H := by rw [eF_43]; exact hP
            have hD : va_D A (wM cI cZ cJ h F_43 G (va_up V 0 0)) := by rw [eF_43]; exact hD
            have hN_44 : ∀ i, i < 40 → F_43 3 i = nI (So i) := by rw [eF_43]; exact hN_36
            have hN_45 : ∀ i, i < 4 → F_43 4 i = nI (Lm i) := by rw [eF_43]; exact hN_37
            obtain ⟨S_46, eS_46⟩ : ∃ z : Nat → Nat, z = nup Hh k0 k3 := ⟨_, rfl⟩
            have hN_47 : ∀ i, i < 24 → F_43 7 i = nI (S_46 i) := by rw [eF_43, eS_46]; show ∀ i, i < 24 → upd (F_35 7) (nI k0).toNatClampNeg (nI k3) i = nI _; exact nf_put hN_38 (nI_clamp (n := k0) (by omega))
            have bN_48 : ∀ i, i < 24 → S_46 i ≤ 9 := by rw [eS_46]; exact nb_put bHh (by omega)
            have hN_49 : ∀ i, i < 24 → F_43 8 i = nI (Wd i) := by rw [eF_43]; exact hN_39
            have hN_50 : ∀ i, i < 24 → F_43 9 i = nI (Pr i) := by rw [eF_43]; exact hN_40
            have hN_51 : ∀ i, i < n → F_43 1 i = nI (X i) := by rw [eF_43]; exact hN_41
            have hN_52 : ∀ i, i < n → F_43 2 i = nI (Y i) := by rw [eF_43]; exact hN_42
            refine lv_aload_n hx hb dX5_sun_79 rfl (lv_at hl 0 rfl) ?_
            refine cw_Vi (As := []) (rest := []) (c_X5_granted l dC dI cI cZ cJ h F_43 G (va_up V 0 0)) fx (cwV 0 hts gX5_sun_X5_granted rfl rfl rfl (by decide +kernel) ⟨Nat.le_of_ble_eq_true rfl, Nat.le_of_ble_eq_true rfl⟩) hK hP hD hS hA 0 rfl rfl rfl rfl hl.1 rfl (Nat.le_of_ble_eq_true rfl) dX5_sun_80 ⟨Nat.le_of_ble_eq_true rfl, Nat.le_of_ble_eq_true rfl⟩ (fun r_53 u_54 H locs hw_55 hP hD hS => ?_)
            have hP : va_P (dC, dI) vwCl (wM cI cZ cJ h F_43 G (va_up (va_up V 0 0) 1 0)) H := hP
            have hD : va_D A (wM cI cZ cJ h F_43 G (va_up (va_up V 0 0) 1 0)) := hD
            obtain rfl : r_53 = 1 := hw_55
            exact hret 1 (F_43, G, va_up (va_up V 0 0) 1 0) H locs 83 ls rfl dX5_sun_83 (by
                          subst eS_46
                          have q5_ : F_43 5 = upd (F 5) k0 p1 := by
                            rw [eF_43, eF_35, eF_27]
                            show upd (F 5) (nI k0).toNatClampNeg p1 = _
                            rw [nI_clamp (by omega)]
                          have q6_ : F_43 6 = upd (F 6) k0 p2 := by
                            rw [eF_43, eF_35, eF_27]
                            show upd (F 6) (nI k0).toNatClampNeg p2 = _
                            rw [nI_clamp (by omega)]
                          have hc_ : okS (nI k0) p1 p2 (nI k3) = true := by simp [okS, c_4, c_11, c_18, c_22, c_26]
                          refine ⟨?_, ?_⟩
                          · (try simp only [hc_, cond_true, cond_false, nI_clamp (show k0 < 2 ^ 31 by omega), nI_clamp (show k3 < 2 ^ 31 by omega)])
                            first | done | exact rfl
                          · (try simp only [hc_, cond_true, cond_false, nI_clamp (show k0 < 2 ^ 31 by omega), nI_clamp (show k3 < 2 ^ 31 by omega)])
                            exact ⟨⟨hV2, by omega⟩, ⟨hV3, by omega⟩, ⟨hV4, by omega⟩, ⟨hV6, by omega⟩, ⟨hV7, by omega⟩, ⟨hV10, by omega⟩, ⟨sh, hV11, by omega⟩, ⟨hN_44, bSo⟩, ⟨hN_45, bLm⟩, ⟨hN_47, bN_48⟩, ⟨hN_49, bWd⟩, ⟨hN_50, bPr⟩, ⟨hN_51, bX⟩, ⟨hN_52, bY⟩, ⟨am, hV8, by omega, by omega⟩, hGP, (fun i hi => (congrFun q5_ i).trans (up_cong hSX i hi)), (fun i hi => (congrFun q6_ i).trans (up_cong hSY i hi)), (fun i hi => (congrFun (Eq.trans (va_ne eF_43 (by decide)) (Eq.trans (va_ne eF_35 (by decide)) (va_ne eF_27 (by decide)))) i).trans (hKc i hi)), (fun i hi => (congrFun (Eq.trans (va_ne eF_43 (by decide)) (Eq.trans (va_ne eF_35 (by decide)) (va_ne eF_27 (by decide)))) i).trans (hKp i hi)), ((show (va_up (va_up V 0 0) 1 0) 5 = V 5 from rfl)).trans hE, (fun t h1 h2 => (congrFun (Eq.trans (va_ne eF_43 (by decide)) (Eq.trans (va_ne eF_35 (by decide)) (va_ne eF_27 (by decide)))) t).trans (hRB t h1 h2))⟩) (hP) (hD) hS
          · have c_26 : isW p3 0 9 = false := bI_f hw_25 c_26
            refine lv_aload_n hx hb dX5_sun_51 rfl (lv_at hl 0 rfl) ?_
            refine lv_iconst (v := 2) hx hb dX5_sun_52 (by decide) ?_
            refine cw_Vi (As := [.int 2]) (rest := []) (c_X5_denied l dC dI cI cZ cJ h F G (va_up V 0 0) 2) fx (cwV 1 hts gX5_sun_X5_denied rfl rfl rfl (by decide +kernel) ⟨Nat.le_of_ble_eq_true rfl, Nat.le_of_ble_eq_true rfl⟩) hK hP hD hS hA 0 rfl rfl rfl rfl hl.1 rfl (Nat.le_of_ble_eq_true rfl) dX5_sun_53 ⟨Nat.le_of_ble_eq_true rfl, Nat.le_of_ble_eq_true rfl⟩ (fun r_56 u_57 H locs hw_58 hP hD hS => ?_)
            have hP : va_P (dC, dI) vwCl (wM cI cZ cJ h F G (va_up (va_up V 0 0) 1 2)) H := hP
            have hD : va_D A (wM cI cZ cJ h F G (va_up (va_up V 0 0) 1 2)) := hD
            obtain rfl : r_56 = 0 := hw_58
            exact hret 0 (F, G, va_up (va_up V 0 0) 1 2) H locs 56 ls rfl dX5_sun_56 (by
                          have hc_ : okS p0 p1 p2 p3 = false := by simp [okS, c_4, c_11, c_18, c_22, c_26]
                          refine ⟨?_, ?_⟩
                          · (try simp only [hc_, cond_true, cond_false])
                            first | done | exact rfl
                          · (try simp only [hc_, cond_true, cond_false])
                            exact ⟨⟨hV2, by omega⟩, ⟨hV3, by omega⟩, ⟨hV4, by omega⟩, ⟨hV6, by omega⟩, ⟨hV7, by omega⟩, ⟨hV10, by omega⟩, ⟨sh, hV11, by omega⟩, ⟨hSo, bSo⟩, ⟨hLm, bLm⟩, ⟨hHh, bHh⟩, ⟨hWd, bWd⟩, ⟨hPr, bPr⟩, ⟨hX, bX⟩, ⟨hY, bY⟩, ⟨am, hV8, by omega, by omega⟩, hGP, (fun i hi => (congrFun (Eq.refl (F 5)) i).trans (hSX i hi)), (fun i hi => (congrFun (Eq.refl (F 6)) i).trans (hSY i hi)), (fun i hi => (congrFun (Eq.refl (F 13)) i).trans (hKc i hi)), (fun i hi => (congrFun (Eq.refl (F 15)) i).trans (hKp i hi)), ((show (va_up (va_up V 0 0) 1 2) 5 = V 5 from rfl)).trans hE, (fun t h1 h2 => (congrFun (Eq.refl (F 17)) t).trans (hRB t h1 h2))⟩) (hP) (hD) hS
        · have c_22 : eqI p1 0 = true := decide_eq_true c_22
          refine lv_iload_n hx hb dX5_sun_36 rfl (lv_at hl 3 rfl) ?_
          refine lv_if_eq (tgt := 51) hx hb dX5_sun_37 (by decide) (fun c_59 => ?_) (fun c_59 => ?_)
          · have c_59 : eqI p2 0 = true := decide_eq_true c_59
            refine lv_aload_n hx hb dX5_sun_51 rfl (lv_at hl 0 rfl) ?_
            refine lv_iconst (v := 2) hx hb dX5_sun_52 (by decide) ?_
            refine cw_Vi (As := [.int 2]) (rest := []) (c_X5_denied l dC dI cI cZ cJ h F G (va_up V 0 0) 2) fx (cwV 1 hts gX5_sun_X5_denied rfl rfl rfl (by decide +kernel) ⟨Nat.le_of_ble_eq_true rfl, Nat.le_of_ble_eq_true rfl⟩) hK hP hD hS hA 0 rfl rfl rfl rfl hl.1 rfl (Nat.le_of_ble_eq_true rfl) dX5_sun_53 ⟨Nat.le_of_ble_eq_true rfl, Nat.le_of_ble_eq_true rfl⟩ (fun r_60 u_61 H locs hw_62 hP hD hS => ?_)
            have hP : va_P (dC, dI) vwCl (wM cI cZ cJ h F G (va_up (va_up V 0 0) 1 2)) H := hP
            have hD : va_D A (wM cI cZ cJ h F G (va_up (va_up V 0 0) 1 2)) := hD
            obtain rfl : r_60 = 0 := hw_62
            exact hret 0 (F, G, va_up (va_up V 0 0) 1 2) H locs 56 ls rfl dX5_sun_56 (by
                          have hc_ : okS p0 p1 p2 p3 = false := by simp [okS, c_4, c_11, c_18, c_22, c_59]
                          refine ⟨?_, ?_⟩
                          · (try simp only [hc_, cond_true, cond_false])
                            first | done | exact rfl
                          · (try simp only [hc_, cond_true, cond_false])
                            exact ⟨⟨hV2, by omega⟩, ⟨hV3, by omega⟩, ⟨hV4, by omega⟩, ⟨hV6, by omega⟩, ⟨hV7, by omega⟩, ⟨hV10, by omega⟩, ⟨sh, hV11, by omega⟩, ⟨hSo, bSo⟩, ⟨hLm, bLm⟩, ⟨hHh, bHh⟩, ⟨hWd, bWd⟩, ⟨hPr, bPr⟩, ⟨hX, bX⟩, ⟨hY, bY⟩, ⟨am, hV8, by omega, by omega⟩, hGP, (fun i hi => (congrFun (Eq.refl (F 5)) i).trans (hSX i hi)), (fun i hi => (congrFun (Eq.refl (F 6)) i).trans (hSY i hi)), (fun i hi => (congrFun (Eq.refl (F 13)) i).trans (hKc i hi)), (fun i hi => (congrFun (Eq.refl (F 15)) i).trans (hKp i hi)), ((show (va_up (va_up V 0 0) 1 2) 5 = V 5 from rfl)).trans hE, (fun t h1 h2 => (congrFun (Eq.refl (F 17)) t).trans (hRB t h1 h2))⟩) (hP) (hD) hS
          · have c_59 : eqI p2 0 = false := decide_eq_false c_59
            refine lv_iload hx hb dX5_sun_40 (lv_at hl 4 rfl) ?_
            refine lv_iconst (v := 0) hx hb dX5_sun_42 (by decide) ?_
            refine lv_bipush (v := 9) hx hb dX5_sun_43 (by decide) ?_
            refine cw_Si (As := [.int p3, .int 0, .int 9]) (rest := []) (c_X5_in l dC dI cI cZ cJ (wM cI cZ cJ h F G (va_up V 0 0)) p3 0 9) fx (va_cwS 3 hts gX5_sun_X5_in rfl rfl rfl (by decide +kernel) ⟨Nat.le_of_ble_eq_true rfl, Nat.le_of_ble_eq_true rfl⟩) hK hP hD hS hA rfl hl.1 rfl (Nat.le_of_ble_eq_true rfl) dX5_sun_45 ⟨Nat.le_of_ble_eq_true rfl, Nat.le_of_ble_eq_true rfl⟩ (fun r_63 u_64 H locs hw_65 hP hD hS => ?_)
            have hP : va_P (dC, dI) vwCl (wM cI cZ cJ h F G (va_up V 0 0)) H := hP
            have hD : va_D A (wM cI cZ cJ h F G (va_up V 0 0)) := hD
            have hw_65 : r_63 = bI (isW p3 0 9) := hw_65
            refine lv_if_ne (tgt := 57) hx hb dX5_sun_48 (by decide) (fun c_66 => ?_) (fun c_66 => ?_)
            · have c_66 : isW p3 0 9 = true := bI_t hw_65 c_66
              refine lv_aload_n hx hb dX5_sun_57 rfl (lv_at hl 0 rfl) ?_
              refine va_get (D := (dC, dI)) (ci := 5) (v := .ref (h 5)) (C := RX5) (T := TX5) (N := 33) hx hb hts hin_X5 hown hK hP 0 rfl rfl 12 (by decide) hw2 (fun _ h9 => h9) rfl dX5_sun_58 ?_
              refine lv_iload_n hx hb dX5_sun_61 rfl (lv_at hl 1 rfl) ?_
              refine lv_iload_n hx hb dX5_sun_62 rfl (lv_at hl 2 rfl) ?_
              obtain ⟨k0, hk0, rfl⟩ := isW_nat (M := 23) (n := 23) (by decide) c_4
              obtain ⟨k3, hk3, rfl⟩ := isW_nat (M := 9) (n := 9) (by decide) c_66
              refine va_iast hx hb hK hP hD hS 5 0 rfl rfl (vp_in_nI (n := k0) (N := 24) (by omega) (by decide)) dX5_sun_63 (fun H locs hP hD hS => ?_)
              obtain ⟨F_67, eF_67⟩ : ∃ z : Nat → Nat → Int32, z = va_up F 5 (upd (F 5) (nI k0).toNatClampNeg p1) := ⟨_, rfl⟩
              have hP : va_P (dC, dI) vwCl (wM cI cZ cJ h F_67 G (va_up V 0 0)) H := by rw [eF_67]; exact hP
              have hD : va_D A (wM cI cZ cJ h F_67 G (va_up V 0 0)) := by rw [eF_67]; exact hD
              have hN_68 : ∀ i, i < 40 → F_67 3 i = nI (So i) := by rw [eF_67]; exact hSo
              have hN_69 : ∀ i, i < 4 → F_67 4 i = nI (Lm i) := by rw [eF_67]; exact hLm
              have hN_70 : ∀ i, i < 24 → F_67 7 i = nI (Hh i) := by rw [eF_67]; exact hHh
              have hN_71 : ∀ i, i < 24 → F_67 8 i = nI (Wd i) := by rw [eF_67]; exact hWd
              have hN_72 : ∀ i, i < 24 → F_67 9 i = nI (Pr i) := by rw [eF_67]; exact hPr
              have hN_73 : ∀ i, i < n → F_67 1 i = nI (X i) := by rw [eF_67]; exact hX
              have hN_74 : ∀ i, i < n → F_67 2 i = nI (Y i) := by rw [eF_67]; exact hY
              refine lv_aload_n hx hb dX5_sun_64 rfl (lv_at hl 0 rfl) ?_
              refine va_get (D := (dC, dI)) (ci := 5) (v := .ref (h 6)) (C := RX5) (T := TX5) (N := 33) hx hb hts hin_X5 hown hK hP 0 rfl rfl 13 (by decide) hw3 (fun _ h9 => h9) rfl dX5_sun_65 ?_
              refine lv_iload_n hx hb dX5_sun_68 rfl (lv_at hl 1 rfl) ?_
              refine lv_iload_n hx hb dX5_sun_69 rfl (lv_at hl 3 rfl) ?_
              refine va_iast hx hb hK hP hD hS 6 0 rfl rfl (vp_in_nI (n := k0) (N := 24) (by omega) (by decide)) dX5_sun_70 (fun H locs hP hD hS => ?_)
              obtain ⟨F_75, eF_75⟩ : ∃ z : Nat → Nat → Int32, z = va_up F_67 6 (upd (F_67 6) (nI k0).toNatClampNeg p2) := ⟨_, rfl⟩
              have hP : va_P (dC, dI) vwCl (wM cI cZ cJ h F_75 G (va_up V 0 0)) H := by rw [eF_75]; exact hP
              have hD : va_D A (wM cI cZ cJ h F_75 G (va_up V 0 0)) := by rw [eF_75]; exact hD
              have hN_76 : ∀ i, i < 40 → F_75 3 i = nI (So i) := by rw [eF_75]; exact hN_68
              have hN_77 : ∀ i, i < 4 → F_75 4 i = nI (Lm i) := by rw [eF_75]; exact hN_69
              have hN_78 : ∀ i, i < 24 → F_75 7 i = nI (Hh i) := by rw [eF_75]; exact hN_70
              have hN_79 : ∀ i, i < 24 → F_75 8 i = nI (Wd i) := by rw [eF_75]; exact hN_71
              have hN_80 : ∀ i, i < 24 → F_75 9 i = nI (Pr i) := by rw [eF_75]; exact hN_72
              have hN_81 : ∀ i, i < n → F_75 1 i = nI (X i) := by rw [eF_75]; exact hN_73
              have hN_82 : ∀ i, i < n → F_75 2 i = nI (Y i) := by rw [eF_75]; exact hN_74
              refine lv_aload_n hx hb dX5_sun_71 rfl (lv_at hl 0 rfl) ?_
              refine va_get (D := (dC, dI)) (ci := 5) (v := .ref (h 7)) (C := RX5) (T := TX5) (N := 33) hx hb hts hin_X5 hown hK hP 0 rfl rfl 14 (by decide) hw4 (fun _ h9 => h9) rfl dX5_sun_72 ?_
              refine lv_iload_n hx hb dX5_sun_75 rfl (lv_at hl 1 rfl) ?_
              refine lv_iload hx hb dX5_sun_76 (lv_at hl 4 rfl) ?_
              refine va_iast hx hb hK hP hD hS 7 0 rfl rfl (vp_in_nI (n := k0) (N := 24) (by omega) (by decide)) dX5_sun_78 (fun H locs hP hD hS => ?_)
              obtain ⟨F_83, eF_83⟩ : ∃ z : Nat → Nat → Int32, z = va_up F_75 7 (upd (F_75 7) (nI k0).toNatClampNeg (nI k3)) := ⟨_, rfl⟩
              have hP : va_P (dC, dI) vwCl (wM cI cZ cJ h F_83 G (va_up V 0 0)) H := by rw [eF_83]; exact hP
              have hD : va_D A (wM cI cZ cJ h F_83 G (va_up V 0 0)) := by rw [eF_83]; exact hD
              have hN_84 : ∀ i, i < 40 → F_83 3 i = nI (So i) := by rw [eF_83]; exact hN_76
              have hN_85 : ∀ i, i < 4 → F_83 4 i = nI (Lm i) := by rw [eF_83]; exact hN_77
              obtain ⟨S_86, eS_86⟩ : ∃ z : Nat → Nat, z = nup Hh k0 k3 := ⟨_, rfl⟩
              have hN_87 : ∀ i, i < 24 → F_83 7 i = nI (S_86 i) := by rw [eF_83, eS_86]; show ∀ i, i < 24 → upd (F_75 7) (nI k0).toNatClampNeg (nI k3) i = nI _; exact nf_put hN_78 (nI_clamp (n := k0) (by omega))
              have bN_88 : ∀ i, i < 24 → S_86 i ≤ 9 := by rw [eS_86]; exact nb_put bHh (by omega)
              have hN_89 : ∀ i, i < 24 → F_83 8 i = nI (Wd i) := by rw [eF_83]; exact hN_79
              have hN_90 : ∀ i, i < 24 → F_83 9 i = nI (Pr i) := by rw [eF_83]; exact hN_80
              have hN_91 : ∀ i, i < n → F_83 1 i = nI (X i) := by rw [eF_83]; exact hN_81
              have hN_92 : ∀ i, i < n → F_83 2 i = nI (Y i) := by rw [eF_83]; exact hN_82
              refine lv_aload_n hx hb dX5_sun_79 rfl (lv_at hl 0 rfl) ?_
              refine cw_Vi (As := []) (rest := []) (c_X5_granted l dC dI cI cZ cJ h F_83 G (va_up V 0 0)) fx (cwV 0 hts gX5_sun_X5_granted rfl rfl rfl (by decide +kernel) ⟨Nat.le_of_ble_eq_true rfl, Nat.le_of_ble_eq_true rfl⟩) hK hP hD hS hA 0 rfl rfl rfl rfl hl.1 rfl (Nat.le_of_ble_eq_true rfl) dX5_sun_80 ⟨Nat.le_of_ble_eq_true rfl, Nat.le_of_ble_eq_true rfl⟩ (fun r_93 u_94 H locs hw_95 hP hD hS => ?_)
              have hP : va_P (dC, dI) vwCl (wM cI cZ cJ h F_83 G (va_up (va_up V 0 0) 1 0)) H := hP
              have hD : va_D A (wM cI cZ cJ h F_83 G (va_up (va_up V 0 0) 1 0)) := hD
              obtain rfl : r_93 = 1 := hw_95
              exact hret 1 (F_83, G, va_up (va_up V 0 0) 1 0) H locs 83 ls rfl dX5_sun_83 (by
                            subst eS_86
                            have q5_ : F_83 5 = upd (F 5) k0 p1 := by
                              rw [eF_83, eF_75, eF_67]
                              show upd (F 5) (nI k0).toNatClampNeg p1 = _
                              rw [nI_clamp (by omega)]
                            have q6_ : F_83 6 = upd (F 6) k0 p2 := by
                              rw [eF_83, eF_75, eF_67]
                              show upd (F 6) (nI k0).toNatClampNeg p2 = _
                              rw [nI_clamp (by omega)]
                            have hc_ : okS (nI k0) p1 p2 (nI k3) = true := by simp [okS, c_4, c_11, c_18, c_22, c_59, c_66]
                            refine ⟨?_, ?_⟩
                            · (try simp only [hc_, cond_true, cond_false, nI_clamp (show k0 < 2 ^ 31 by omega), nI_clamp (show k3 < 2 ^ 31 by omega)])
                              first | done | exact rfl
                            · (try simp only [hc_, cond_true, cond_false, nI_clamp (show k0 < 2 ^ 31 by omega), nI_clamp (show k3 < 2 ^ 31 by omega)])
                              exact ⟨⟨hV2, by omega⟩, ⟨hV3, by omega⟩, ⟨hV4, by omega⟩, ⟨hV6, by omega⟩, ⟨hV7, by omega⟩, ⟨hV10, by omega⟩, ⟨sh, hV11, by omega⟩, ⟨hN_84, bSo⟩, ⟨hN_85, bLm⟩, ⟨hN_87, bN_88⟩, ⟨hN_89, bWd⟩, ⟨hN_90, bPr⟩, ⟨hN_91, bX⟩, ⟨hN_92, bY⟩, ⟨am, hV8, by omega, by omega⟩, hGP, (fun i hi => (congrFun q5_ i).trans (up_cong hSX i hi)), (fun i hi => (congrFun q6_ i).trans (up_cong hSY i hi)), (fun i hi => (congrFun (Eq.trans (va_ne eF_83 (by decide)) (Eq.trans (va_ne eF_75 (by decide)) (va_ne eF_67 (by decide)))) i).trans (hKc i hi)), (fun i hi => (congrFun (Eq.trans (va_ne eF_83 (by decide)) (Eq.trans (va_ne eF_75 (by decide)) (va_ne eF_67 (by decide)))) i).trans (hKp i hi)), ((show (va_up (va_up V 0 0) 1 0) 5 = V 5 from rfl)).trans hE, (fun t h1 h2 => (congrFun (Eq.trans (va_ne eF_83 (by decide)) (Eq.trans (va_ne eF_75 (by decide)) (va_ne eF_67 (by decide)))) t).trans (hRB t h1 h2))⟩) (hP) (hD) hS
            · have c_66 : isW p3 0 9 = false := bI_f hw_65 c_66
              refine lv_aload_n hx hb dX5_sun_51 rfl (lv_at hl 0 rfl) ?_
              refine lv_iconst (v := 2) hx hb dX5_sun_52 (by decide) ?_
              refine cw_Vi (As := [.int 2]) (rest := []) (c_X5_denied l dC dI cI cZ cJ h F G (va_up V 0 0) 2) fx (cwV 1 hts gX5_sun_X5_denied rfl rfl rfl (by decide +kernel) ⟨Nat.le_of_ble_eq_true rfl, Nat.le_of_ble_eq_true rfl⟩) hK hP hD hS hA 0 rfl rfl rfl rfl hl.1 rfl (Nat.le_of_ble_eq_true rfl) dX5_sun_53 ⟨Nat.le_of_ble_eq_true rfl, Nat.le_of_ble_eq_true rfl⟩ (fun r_96 u_97 H locs hw_98 hP hD hS => ?_)
              have hP : va_P (dC, dI) vwCl (wM cI cZ cJ h F G (va_up (va_up V 0 0) 1 2)) H := hP
              have hD : va_D A (wM cI cZ cJ h F G (va_up (va_up V 0 0) 1 2)) := hD
              obtain rfl : r_96 = 0 := hw_98
              exact hret 0 (F, G, va_up (va_up V 0 0) 1 2) H locs 56 ls rfl dX5_sun_56 (by
                            have hc_ : okS p0 p1 p2 p3 = false := by simp [okS, c_4, c_11, c_18, c_22, c_59, c_66]
                            refine ⟨?_, ?_⟩
                            · (try simp only [hc_, cond_true, cond_false])
                              first | done | exact rfl
                            · (try simp only [hc_, cond_true, cond_false])
                              exact ⟨⟨hV2, by omega⟩, ⟨hV3, by omega⟩, ⟨hV4, by omega⟩, ⟨hV6, by omega⟩, ⟨hV7, by omega⟩, ⟨hV10, by omega⟩, ⟨sh, hV11, by omega⟩, ⟨hSo, bSo⟩, ⟨hLm, bLm⟩, ⟨hHh, bHh⟩, ⟨hWd, bWd⟩, ⟨hPr, bPr⟩, ⟨hX, bX⟩, ⟨hY, bY⟩, ⟨am, hV8, by omega, by omega⟩, hGP, (fun i hi => (congrFun (Eq.refl (F 5)) i).trans (hSX i hi)), (fun i hi => (congrFun (Eq.refl (F 6)) i).trans (hSY i hi)), (fun i hi => (congrFun (Eq.refl (F 13)) i).trans (hKc i hi)), (fun i hi => (congrFun (Eq.refl (F 15)) i).trans (hKp i hi)), ((show (va_up (va_up V 0 0) 1 2) 5 = V 5 from rfl)).trans hE, (fun t h1 h2 => (congrFun (Eq.refl (F 17)) t).trans (hRB t h1 h2))⟩) (hP) (hD) hS
def rm_X5_limit : Room := { frames := 1, cells := 0, slots := 0, locals := 22 }
set_option maxHeartbeats 4000000 in
set_option maxRecDepth 100000 in
theorem c_X5_limit (l : Launch) (dC : Nat → ClassId) (dI : Nat → Nat → Nat) (cI cZ cJ : ClassId) (h : Nat → Nat) (F : Nat → Nat → Int32) (G : Nat → Int64) (V : Nat → Int32) (n : Nat) (hV2 : V 2 = nI n) (bV2 : n ≤ 40) (nw : Nat) (hV3 : V 3 = nI nw) (bV3 : nw ≤ 23) (un : Nat) (hV4 : V 4 = nI un) (bV4 : un ≤ 200) (d : Nat) (hV6 : V 6 = nI d) (bV6 : d ≤ 20) (wm : Nat) (hV7 : V 7 = nI wm) (bV7 : wm ≤ 1) (pf : Nat) (hV10 : V 10 = nI pf) (bV10 : pf ≤ 24) (sh : Nat) (hV11 : V 11 = nI sh) (bV11 : sh ≤ 12) (So : Nat → Nat) (hSo : ∀ i, i < 40 → F 3 i = nI (So i)) (bSo : ∀ i, i < 40 → So i ≤ 90) (Lm : Nat → Nat) (hLm : ∀ i, i < 4 → F 4 i = nI (Lm i)) (bLm : ∀ i, i < 4 → Lm i ≤ 10000) (Hh : Nat → Nat) (hHh : ∀ i, i < 24 → F 7 i = nI (Hh i)) (bHh : ∀ i, i < 24 → Hh i ≤ 9) (Wd : Nat → Nat) (hWd : ∀ i, i < 24 → F 8 i = nI (Wd i)) (bWd : ∀ i, i < 24 → Wd i ≤ 99) (Pr : Nat → Nat) (hPr : ∀ i, i < 24 → F 9 i = nI (Pr i)) (bPr : ∀ i, i < 24 → Pr i ≤ 999) (X : Nat → Nat) (hX : ∀ i, i < n → F 1 i = nI (X i)) (bX : ∀ i, i < n → X i ≤ 14) (Y : Nat → Nat) (hY : ∀ i, i < n → F 2 i = nI (Y i)) (bY : ∀ i, i < n → Y i ≤ 14) (p0 p1 : Int32)  (ks am : Nat) (hV8 : V 8 = nI am - 1) (bam : am ≤ 41) (hks : am - 1 = ks) (SX SY Kc Kp : Nat → Int32) (er : Int32) (rb : Nat → Bool) (hGP : GP n X Y) (hSX : ∀ i, i < 24 → F 5 i = SX i) (hSY : ∀ i, i < 24 → F 6 i = SY i) (hKc : ∀ i, i < ks → F 13 i = Kc i) (hKp : ∀ i, i < 4 → F 15 i = Kp i) (hE : V 5 = er) (hRB : ∀ t, pf ≤ t → t < 24 → F 17 t = bI (rb t)) : CtI l (dC, dI) vwCl (tys3 cI cZ cJ) yX5_limit wsX5_limit rm_X5_limit [.ref (h 0), .int p0, .int p1] (wM cI cZ cJ h F G V) (S := (Nat → Nat → Int32) × (Nat → Int64) × (Nat → Int32)) (fun r u => (r = bI (isW p0 0 3 && isW p1 0 10000)) ∧ VM n d ks nw un wm pf So Hh Wd (bif (isW p0 0 3 && isW p1 0 10000) then nup Lm p0.toNatClampNeg p1.toNatClampNeg else Lm) Pr X Y SX SY Kc Kp er rb u.1 u.2.2) (fun u => wM cI cZ cJ h u.1 u.2.1 u.2.2) 0 0 := by
  refine ct_I (cc := cX5_limit) (maxL := 3) (ty := .boolean) (own := RX5) (by decide) rfl rfl (Nat.le_of_ble_eq_true rfl) (lv := [(0, .ref (h 0)), (1, .int p0), (2, .int p1)]) rfl ?_
  intro p e s m args below meth c A Q ls fx hK hP hD hA hl hret
  obtain ⟨hx, hb, hml, hown, hts⟩ := id fx
  have hS : va_S A s.heap s.heap [] := va_S.rf
  have hw0 := hts (.fieldLink RX5 1 "MirrorTowerModel" "thrown" "I") (by decide +kernel)
  have hin_X5 : ∀ w ∈ u_ws RX5 TX5 33, w ∈ wsX5_limit := by decide +kernel
  have hw2 := hts (.fieldLink RX5 29 "MirrorTowerModel" "limit" "[I") (by decide +kernel)
  obtain ⟨H, hH⟩ : ∃ H, H = s.heap := ⟨_, rfl⟩
  rw [← hH] at hP ⊢
  have hS : va_S A s.heap H [] := by rw [hH]; exact hS
  generalize ([] : List Loc) = locs at hS ⊢
  refine lv_aload_n hx hb dX5_limit_0 rfl (lv_at hl 0 rfl) ?_
  refine lv_iconst (v := 0) hx hb dX5_limit_1 (by decide) ?_
  refine va_put (D := (dC, dI)) (ci := 5) (v := .int 0) (ty := .int) (C := RX5) (T := TX5) (N := 33) hx hb hts hin_X5 tyX5 tyX5_ok nmX5 hown hK hP hD hS 0 rfl rfl 0 (by decide) hw0 (fun _ h9 => h9) rfl (by decide +kernel) rfl rfl (Nat.le_of_ble_eq_true rfl) dX5_limit_2 (fun H locs hP hD hS => ?_)
  have hP : va_P (dC, dI) vwCl (wM cI cZ cJ h F G (va_up V 0 0)) H := hP
  have hD : va_D A (wM cI cZ cJ h F G (va_up V 0 0)) := hD
  refine lv_iload_n hx hb dX5_limit_5 rfl (lv_at hl 1 rfl) ?_
  refine lv_iconst (v := 0) hx hb dX5_limit_6 (by decide) ?_
  refine lv_iconst (v := 3) hx hb dX5_limit_7 (by decide) ?_
  refine cw_Si (As := [.int p0, .int 0, .int 3]) (rest := []) (c_X5_in l dC dI cI cZ cJ (wM cI cZ cJ h F G (va_up V 0 0)) p0 0 3) fx (va_cwS 3 hts gX5_limit_X5_in rfl rfl rfl (by decide +kernel) ⟨Nat.le_of_ble_eq_true rfl, Nat.le_of_ble_eq_true rfl⟩) hK hP hD hS hA rfl hl.1 rfl (Nat.le_of_ble_eq_true rfl) dX5_limit_8 ⟨Nat.le_of_ble_eq_true rfl, Nat.le_of_ble_eq_true rfl⟩ (fun r_1 u_2 H locs hw_3 hP hD hS => ?_)
  have hP : va_P (dC, dI) vwCl (wM cI cZ cJ h F G (va_up V 0 0)) H := hP
  have hD : va_D A (wM cI cZ cJ h F G (va_up V 0 0)) := hD
  have hw_3 : r_1 = bI (isW p0 0 3) := hw_3
  refine lv_if_ne (tgt := 20) hx hb dX5_limit_11 (by decide) (fun c_4 => ?_) (fun c_4 => ?_)
  · have c_4 : isW p0 0 3 = true := bI_t hw_3 c_4
    refine lv_iload_n hx hb dX5_limit_20 rfl (lv_at hl 2 rfl) ?_
    refine lv_iconst (v := 0) hx hb dX5_limit_21 (by decide) ?_
    refine lv_sipush (v := 10000) hx hb dX5_limit_22 (by decide) ?_
    refine cw_Si (As := [.int p1, .int 0, .int 10000]) (rest := []) (c_X5_in l dC dI cI cZ cJ (wM cI cZ cJ h F G (va_up V 0 0)) p1 0 10000) fx (va_cwS 3 hts gX5_limit_X5_in rfl rfl rfl (by decide +kernel) ⟨Nat.le_of_ble_eq_true rfl, Nat.le_of_ble_eq_true rfl⟩) hK hP hD hS hA rfl hl.1 rfl (Nat.le_of_ble_eq_true rfl) dX5_limit_25 ⟨Nat.le_of_ble_eq_true rfl, Nat.le_of_ble_eq_true rfl⟩ (fun r_5 u_6 H locs hw_7 hP hD hS => ?_)
    have hP : va_P (dC, dI) vwCl (wM cI cZ cJ h F G (va_up V 0 0)) H := hP
    have hD : va_D A (wM cI cZ cJ h F G (va_up V 0 0)) := hD
    have hw_7 : r_5 = bI (isW p1 0 10000) := hw_7
    refine lv_if_ne (tgt := 37) hx hb dX5_limit_28 (by decide) (fun c_8 => ?_) (fun c_8 => ?_)
    · have c_8 : isW p1 0 10000 = true := bI_t hw_7 c_8
      refine lv_aload_n hx hb dX5_limit_37 rfl (lv_at hl 0 rfl) ?_
      refine va_get (D := (dC, dI)) (ci := 5) (v := .ref (h 4)) (C := RX5) (T := TX5) (N := 33) hx hb hts hin_X5 hown hK hP 0 rfl rfl 11 (by decide) hw2 (fun _ h9 => h9) rfl dX5_limit_38 ?_
      refine lv_iload_n hx hb dX5_limit_41 rfl (lv_at hl 1 rfl) ?_
      refine lv_iload_n hx hb dX5_limit_42 rfl (lv_at hl 2 rfl) ?_
      obtain ⟨k0, hk0, rfl⟩ := isW_nat (M := 3) (n := 3) (by decide) c_4
      obtain ⟨k1, hk1, rfl⟩ := isW_nat (M := 10000) (n := 10000) (by decide) c_8
      refine va_iast hx hb hK hP hD hS 4 0 rfl rfl (vp_in_nI (n := k0) (N := 4) (by omega) (by decide)) dX5_limit_43 (fun H locs hP hD hS => ?_)
      obtain ⟨F_9, eF_9⟩ : ∃ z : Nat → Nat → Int32, z = va_up F 4 (upd (F 4) (nI k0).toNatClampNeg (nI k1)) := ⟨_, rfl⟩
      have hP : va_P (dC, dI) vwCl (wM cI cZ cJ h F_9 G (va_up V 0 0)) H := by rw [eF_9]; exact hP
      have hD : va_D A (wM cI cZ cJ h F_9 G (va_up V 0 0)) := by rw [eF_9]; exact hD
      have hN_10 : ∀ i, i < 40 → F_9 3 i = nI (So i) := by rw [eF_9]; exact hSo
      obtain ⟨S_11, eS_11⟩ : ∃ z : Nat → Nat, z = nup Lm k0 k1 := ⟨_, rfl⟩
      have hN_12 : ∀ i, i < 4 → F_9 4 i = nI (S_11 i) := by rw [eF_9, eS_11]; show ∀ i, i < 4 → upd (F 4) (nI k0).toNatClampNeg (nI k1) i = nI _; exact nf_put hLm (nI_clamp (n := k0) (by omega))
      have bN_13 : ∀ i, i < 4 → S_11 i ≤ 10000 := by rw [eS_11]; exact nb_put bLm (by omega)
      have hN_14 : ∀ i, i < 24 → F_9 7 i = nI (Hh i) := by rw [eF_9]; exact hHh
      have hN_15 : ∀ i, i < 24 → F_9 8 i = nI (Wd i) := by rw [eF_9]; exact hWd
      have hN_16 : ∀ i, i < 24 → F_9 9 i = nI (Pr i) := by rw [eF_9]; exact hPr
      have hN_17 : ∀ i, i < n → F_9 1 i = nI (X i) := by rw [eF_9]; exact hX
      have hN_18 : ∀ i, i < n → F_9 2 i = nI (Y i) := by rw [eF_9]; exact hY
      refine lv_aload_n hx hb dX5_limit_44 rfl (lv_at hl 0 rfl) ?_
      refine cw_Vi (As := []) (rest := []) (c_X5_granted l dC dI cI cZ cJ h F_9 G (va_up V 0 0)) fx (cwV 0 hts gX5_limit_X5_granted rfl rfl rfl (by decide +kernel) ⟨Nat.le_of_ble_eq_true rfl, Nat.le_of_ble_eq_true rfl⟩) hK hP hD hS hA 0 rfl rfl rfl rfl hl.1 rfl (Nat.le_of_ble_eq_true rfl) dX5_limit_45 ⟨Nat.le_of_ble_eq_true rfl, Nat.le_of_ble_eq_true rfl⟩ (fun r_19 u_20 H locs hw_21 hP hD hS => ?_)
      have hP : va_P (dC, dI) vwCl (wM cI cZ cJ h F_9 G (va_up (va_up V 0 0) 1 0)) H := hP
      have hD : va_D A (wM cI cZ cJ h F_9 G (va_up (va_up V 0 0) 1 0)) := hD
      obtain rfl : r_19 = 1 := hw_21
      exact hret 1 (F_9, G, va_up (va_up V 0 0) 1 0) H locs 48 ls rfl dX5_limit_48 (by
                    subst eS_11
                    have hc_ : (isW (nI k0) 0 3 && isW (nI k1) 0 10000) = true := by simp [c_4, c_8]
                    refine ⟨?_, ?_⟩
                    · (try simp only [hc_, cond_true, cond_false, nI_clamp (show k0 < 2 ^ 31 by omega), nI_clamp (show k1 < 2 ^ 31 by omega)])
                      first | done | exact rfl
                    · (try simp only [hc_, cond_true, cond_false, nI_clamp (show k0 < 2 ^ 31 by omega), nI_clamp (show k1 < 2 ^ 31 by omega)])
                      exact ⟨⟨hV2, by omega⟩, ⟨hV3, by omega⟩, ⟨hV4, by omega⟩, ⟨hV6, by omega⟩, ⟨hV7, by omega⟩, ⟨hV10, by omega⟩, ⟨sh, hV11, by omega⟩, ⟨hN_10, bSo⟩, ⟨hN_12, bN_13⟩, ⟨hN_14, bHh⟩, ⟨hN_15, bWd⟩, ⟨hN_16, bPr⟩, ⟨hN_17, bX⟩, ⟨hN_18, bY⟩, ⟨am, hV8, by omega, by omega⟩, hGP, (fun i hi => (congrFun (va_ne eF_9 (by decide)) i).trans (hSX i hi)), (fun i hi => (congrFun (va_ne eF_9 (by decide)) i).trans (hSY i hi)), (fun i hi => (congrFun (va_ne eF_9 (by decide)) i).trans (hKc i hi)), (fun i hi => (congrFun (va_ne eF_9 (by decide)) i).trans (hKp i hi)), ((show (va_up (va_up V 0 0) 1 0) 5 = V 5 from rfl)).trans hE, (fun t h1 h2 => (congrFun (va_ne eF_9 (by decide)) t).trans (hRB t h1 h2))⟩) (hP) (hD) hS
    · have c_8 : isW p1 0 10000 = false := bI_f hw_7 c_8
      refine lv_aload_n hx hb dX5_limit_31 rfl (lv_at hl 0 rfl) ?_
      refine lv_iconst (v := 2) hx hb dX5_limit_32 (by decide) ?_
      refine cw_Vi (As := [.int 2]) (rest := []) (c_X5_denied l dC dI cI cZ cJ h F G (va_up V 0 0) 2) fx (cwV 1 hts gX5_limit_X5_denied rfl rfl rfl (by decide +kernel) ⟨Nat.le_of_ble_eq_true rfl, Nat.le_of_ble_eq_true rfl⟩) hK hP hD hS hA 0 rfl rfl rfl rfl hl.1 rfl (Nat.le_of_ble_eq_true rfl) dX5_limit_33 ⟨Nat.le_of_ble_eq_true rfl, Nat.le_of_ble_eq_true rfl⟩ (fun r_22 u_23 H locs hw_24 hP hD hS => ?_)
      have hP : va_P (dC, dI) vwCl (wM cI cZ cJ h F G (va_up (va_up V 0 0) 1 2)) H := hP
      have hD : va_D A (wM cI cZ cJ h F G (va_up (va_up V 0 0) 1 2)) := hD
      obtain rfl : r_22 = 0 := hw_24
      exact hret 0 (F, G, va_up (va_up V 0 0) 1 2) H locs 36 ls rfl dX5_limit_36 (by
                    have hc_ : (isW p0 0 3 && isW p1 0 10000) = false := by simp [c_4, c_8]
                    refine ⟨?_, ?_⟩
                    · (try simp only [hc_, cond_true, cond_false])
                      first | done | exact rfl
                    · (try simp only [hc_, cond_true, cond_false])
                      exact ⟨⟨hV2, by omega⟩, ⟨hV3, by omega⟩, ⟨hV4, by omega⟩, ⟨hV6, by omega⟩, ⟨hV7, by omega⟩, ⟨hV10, by omega⟩, ⟨sh, hV11, by omega⟩, ⟨hSo, bSo⟩, ⟨hLm, bLm⟩, ⟨hHh, bHh⟩, ⟨hWd, bWd⟩, ⟨hPr, bPr⟩, ⟨hX, bX⟩, ⟨hY, bY⟩, ⟨am, hV8, by omega, by omega⟩, hGP, (fun i hi => (congrFun (Eq.refl (F 5)) i).trans (hSX i hi)), (fun i hi => (congrFun (Eq.refl (F 6)) i).trans (hSY i hi)), (fun i hi => (congrFun (Eq.refl (F 13)) i).trans (hKc i hi)), (fun i hi => (congrFun (Eq.refl (F 15)) i).trans (hKp i hi)), ((show (va_up (va_up V 0 0) 1 2) 5 = V 5 from rfl)).trans hE, (fun t h1 h2 => (congrFun (Eq.refl (F 17)) t).trans (hRB t h1 h2))⟩) (hP) (hD) hS
  · have c_4 : isW p0 0 3 = false := bI_f hw_3 c_4
    refine lv_aload_n hx hb dX5_limit_14 rfl (lv_at hl 0 rfl) ?_
    refine lv_iconst (v := 1) hx hb dX5_limit_15 (by decide) ?_
    refine cw_Vi (As := [.int 1]) (rest := []) (c_X5_denied l dC dI cI cZ cJ h F G (va_up V 0 0) 1) fx (cwV 1 hts gX5_limit_X5_denied rfl rfl rfl (by decide +kernel) ⟨Nat.le_of_ble_eq_true rfl, Nat.le_of_ble_eq_true rfl⟩) hK hP hD hS hA 0 rfl rfl rfl rfl hl.1 rfl (Nat.le_of_ble_eq_true rfl) dX5_limit_16 ⟨Nat.le_of_ble_eq_true rfl, Nat.le_of_ble_eq_true rfl⟩ (fun r_25 u_26 H locs hw_27 hP hD hS => ?_)
    have hP : va_P (dC, dI) vwCl (wM cI cZ cJ h F G (va_up (va_up V 0 0) 1 1)) H := hP
    have hD : va_D A (wM cI cZ cJ h F G (va_up (va_up V 0 0) 1 1)) := hD
    obtain rfl : r_25 = 0 := hw_27
    exact hret 0 (F, G, va_up (va_up V 0 0) 1 1) H locs 19 ls rfl dX5_limit_19 (by
                  have hc_ : (isW p0 0 3 && isW p1 0 10000) = false := by simp [c_4]
                  refine ⟨?_, ?_⟩
                  · (try simp only [hc_, cond_true, cond_false])
                    first | done | exact rfl
                  · (try simp only [hc_, cond_true, cond_false])
                    exact ⟨⟨hV2, by omega⟩, ⟨hV3, by omega⟩, ⟨hV4, by omega⟩, ⟨hV6, by omega⟩, ⟨hV7, by omega⟩, ⟨hV10, by omega⟩, ⟨sh, hV11, by omega⟩, ⟨hSo, bSo⟩, ⟨hLm, bLm⟩, ⟨hHh, bHh⟩, ⟨hWd, bWd⟩, ⟨hPr, bPr⟩, ⟨hX, bX⟩, ⟨hY, bY⟩, ⟨am, hV8, by omega, by omega⟩, hGP, (fun i hi => (congrFun (Eq.refl (F 5)) i).trans (hSX i hi)), (fun i hi => (congrFun (Eq.refl (F 6)) i).trans (hSY i hi)), (fun i hi => (congrFun (Eq.refl (F 13)) i).trans (hKc i hi)), (fun i hi => (congrFun (Eq.refl (F 15)) i).trans (hKp i hi)), ((show (va_up (va_up V 0 0) 1 1) 5 = V 5 from rfl)).trans hE, (fun t h1 h2 => (congrFun (Eq.refl (F 17)) t).trans (hRB t h1 h2))⟩) (hP) (hD) hS
def rm_X5_wind : Room := { frames := 1, cells := 0, slots := 0, locals := 22 }
set_option maxHeartbeats 4000000 in
set_option maxRecDepth 100000 in
theorem c_X5_wind (l : Launch) (dC : Nat → ClassId) (dI : Nat → Nat → Nat) (cI cZ cJ : ClassId) (h : Nat → Nat) (F : Nat → Nat → Int32) (G : Nat → Int64) (V : Nat → Int32) (n : Nat) (hV2 : V 2 = nI n) (bV2 : n ≤ 40) (nw : Nat) (hV3 : V 3 = nI nw) (bV3 : nw ≤ 23) (un : Nat) (hV4 : V 4 = nI un) (bV4 : un ≤ 200) (d : Nat) (hV6 : V 6 = nI d) (bV6 : d ≤ 20) (wm : Nat) (hV7 : V 7 = nI wm) (bV7 : wm ≤ 1) (pf : Nat) (hV10 : V 10 = nI pf) (bV10 : pf ≤ 24) (sh : Nat) (hV11 : V 11 = nI sh) (bV11 : sh ≤ 12) (So : Nat → Nat) (hSo : ∀ i, i < 40 → F 3 i = nI (So i)) (bSo : ∀ i, i < 40 → So i ≤ 90) (Lm : Nat → Nat) (hLm : ∀ i, i < 4 → F 4 i = nI (Lm i)) (bLm : ∀ i, i < 4 → Lm i ≤ 10000) (Hh : Nat → Nat) (hHh : ∀ i, i < 24 → F 7 i = nI (Hh i)) (bHh : ∀ i, i < 24 → Hh i ≤ 9) (Wd : Nat → Nat) (hWd : ∀ i, i < 24 → F 8 i = nI (Wd i)) (bWd : ∀ i, i < 24 → Wd i ≤ 99) (Pr : Nat → Nat) (hPr : ∀ i, i < 24 → F 9 i = nI (Pr i)) (bPr : ∀ i, i < 24 → Pr i ≤ 999) (X : Nat → Nat) (hX : ∀ i, i < n → F 1 i = nI (X i)) (bX : ∀ i, i < n → X i ≤ 14) (Y : Nat → Nat) (hY : ∀ i, i < n → F 2 i = nI (Y i)) (bY : ∀ i, i < n → Y i ≤ 14) (p0 p1 : Int32)  (ks am : Nat) (hV8 : V 8 = nI am - 1) (bam : am ≤ 41) (hks : am - 1 = ks) (SX SY Kc Kp : Nat → Int32) (er : Int32) (rb : Nat → Bool) (hGP : GP n X Y) (hSX : ∀ i, i < 24 → F 5 i = SX i) (hSY : ∀ i, i < 24 → F 6 i = SY i) (hKc : ∀ i, i < ks → F 13 i = Kc i) (hKp : ∀ i, i < 4 → F 15 i = Kp i) (hE : V 5 = er) (hRB : ∀ t, pf ≤ t → t < 24 → F 17 t = bI (rb t)) : CtI l (dC, dI) vwCl (tys3 cI cZ cJ) yX5_wind wsX5_wind rm_X5_wind [.ref (h 0), .int p0, .int p1] (wM cI cZ cJ h F G V) (S := (Nat → Nat → Int32) × (Nat → Int64) × (Nat → Int32)) (fun r u => (r = bI (isW p0 0 23 && isW p1 0 99)) ∧ VM n d ks nw un wm pf So Hh (bif (isW p0 0 23 && isW p1 0 99) then nup Wd p0.toNatClampNeg p1.toNatClampNeg else Wd) Lm Pr X Y SX SY Kc Kp er rb u.1 u.2.2) (fun u => wM cI cZ cJ h u.1 u.2.1 u.2.2) 0 0 := by
  refine ct_I (cc := cX5_wind) (maxL := 3) (ty := .boolean) (own := RX5) (by decide) rfl rfl (Nat.le_of_ble_eq_true rfl) (lv := [(0, .ref (h 0)), (1, .int p0), (2, .int p1)]) rfl ?_
  intro p e s m args below meth c A Q ls fx hK hP hD hA hl hret
  obtain ⟨hx, hb, hml, hown, hts⟩ := id fx
  have hS : va_S A s.heap s.heap [] := va_S.rf
  have hw0 := hts (.fieldLink RX5 1 "MirrorTowerModel" "thrown" "I") (by decide +kernel)
  have hin_X5 : ∀ w ∈ u_ws RX5 TX5 33, w ∈ wsX5_wind := by decide +kernel
  have hw2 := hts (.fieldLink RX5 41 "MirrorTowerModel" "wind" "[I") (by decide +kernel)
  obtain ⟨H, hH⟩ : ∃ H, H = s.heap := ⟨_, rfl⟩
  rw [← hH] at hP ⊢
  have hS : va_S A s.heap H [] := by rw [hH]; exact hS
  generalize ([] : List Loc) = locs at hS ⊢
  refine lv_aload_n hx hb dX5_wind_0 rfl (lv_at hl 0 rfl) ?_
  refine lv_iconst (v := 0) hx hb dX5_wind_1 (by decide) ?_
  refine va_put (D := (dC, dI)) (ci := 5) (v := .int 0) (ty := .int) (C := RX5) (T := TX5) (N := 33) hx hb hts hin_X5 tyX5 tyX5_ok nmX5 hown hK hP hD hS 0 rfl rfl 0 (by decide) hw0 (fun _ h9 => h9) rfl (by decide +kernel) rfl rfl (Nat.le_of_ble_eq_true rfl) dX5_wind_2 (fun H locs hP hD hS => ?_)
  have hP : va_P (dC, dI) vwCl (wM cI cZ cJ h F G (va_up V 0 0)) H := hP
  have hD : va_D A (wM cI cZ cJ h F G (va_up V 0 0)) := hD
  refine lv_iload_n hx hb dX5_wind_5 rfl (lv_at hl 1 rfl) ?_
  refine cw_Si (As := [.int p0]) (rest := []) (c_X5_isHour l dC dI cI cZ cJ (wM cI cZ cJ h F G (va_up V 0 0)) p0) fx (va_cwS 1 hts gX5_wind_X5_isHour rfl rfl rfl (by decide +kernel) ⟨Nat.le_of_ble_eq_true rfl, Nat.le_of_ble_eq_true rfl⟩) hK hP hD hS hA rfl hl.1 rfl (Nat.le_of_ble_eq_true rfl) dX5_wind_6 ⟨Nat.le_of_ble_eq_true rfl, Nat.le_of_ble_eq_true rfl⟩ (fun r_1 u_2 H locs hw_3 hP hD hS => ?_)
  have hP : va_P (dC, dI) vwCl (wM cI cZ cJ h F G (va_up V 0 0)) H := hP
  have hD : va_D A (wM cI cZ cJ h F G (va_up V 0 0)) := hD
  have hw_3 : r_1 = bI (isW p0 0 23) := hw_3
  refine lv_if_eq (tgt := 22) hx hb dX5_wind_9 (by decide) (fun c_4 => ?_) (fun c_4 => ?_)
  · have c_4 : isW p0 0 23 = false := bI_f hw_3 c_4
    refine lv_aload_n hx hb dX5_wind_22 rfl (lv_at hl 0 rfl) ?_
    refine lv_iconst (v := 2) hx hb dX5_wind_23 (by decide) ?_
    refine cw_Vi (As := [.int 2]) (rest := []) (c_X5_denied l dC dI cI cZ cJ h F G (va_up V 0 0) 2) fx (cwV 1 hts gX5_wind_X5_denied rfl rfl rfl (by decide +kernel) ⟨Nat.le_of_ble_eq_true rfl, Nat.le_of_ble_eq_true rfl⟩) hK hP hD hS hA 0 rfl rfl rfl rfl hl.1 rfl (Nat.le_of_ble_eq_true rfl) dX5_wind_24 ⟨Nat.le_of_ble_eq_true rfl, Nat.le_of_ble_eq_true rfl⟩ (fun r_5 u_6 H locs hw_7 hP hD hS => ?_)
    have hP : va_P (dC, dI) vwCl (wM cI cZ cJ h F G (va_up (va_up V 0 0) 1 2)) H := hP
    have hD : va_D A (wM cI cZ cJ h F G (va_up (va_up V 0 0) 1 2)) := hD
    obtain rfl : r_5 = 0 := hw_7
    exact hret 0 (F, G, va_up (va_up V 0 0) 1 2) H locs 27 ls rfl dX5_wind_27 (by
                  have hc_ : (isW p0 0 23 && isW p1 0 99) = false := by simp [c_4]
                  refine ⟨?_, ?_⟩
                  · (try simp only [hc_, cond_true, cond_false])
                    first | done | exact rfl
                  · (try simp only [hc_, cond_true, cond_false])
                    exact ⟨⟨hV2, by omega⟩, ⟨hV3, by omega⟩, ⟨hV4, by omega⟩, ⟨hV6, by omega⟩, ⟨hV7, by omega⟩, ⟨hV10, by omega⟩, ⟨sh, hV11, by omega⟩, ⟨hSo, bSo⟩, ⟨hLm, bLm⟩, ⟨hHh, bHh⟩, ⟨hWd, bWd⟩, ⟨hPr, bPr⟩, ⟨hX, bX⟩, ⟨hY, bY⟩, ⟨am, hV8, by omega, by omega⟩, hGP, (fun i hi => (congrFun (Eq.refl (F 5)) i).trans (hSX i hi)), (fun i hi => (congrFun (Eq.refl (F 6)) i).trans (hSY i hi)), (fun i hi => (congrFun (Eq.refl (F 13)) i).trans (hKc i hi)), (fun i hi => (congrFun (Eq.refl (F 15)) i).trans (hKp i hi)), ((show (va_up (va_up V 0 0) 1 2) 5 = V 5 from rfl)).trans hE, (fun t h1 h2 => (congrFun (Eq.refl (F 17)) t).trans (hRB t h1 h2))⟩) (hP) (hD) hS
  · have c_4 : isW p0 0 23 = true := bI_t hw_3 c_4
    refine lv_iload_n hx hb dX5_wind_12 rfl (lv_at hl 2 rfl) ?_
    refine lv_iconst (v := 0) hx hb dX5_wind_13 (by decide) ?_
    refine lv_bipush (v := 99) hx hb dX5_wind_14 (by decide) ?_
    refine cw_Si (As := [.int p1, .int 0, .int 99]) (rest := []) (c_X5_in l dC dI cI cZ cJ (wM cI cZ cJ h F G (va_up V 0 0)) p1 0 99) fx (va_cwS 3 hts gX5_wind_X5_in rfl rfl rfl (by decide +kernel) ⟨Nat.le_of_ble_eq_true rfl, Nat.le_of_ble_eq_true rfl⟩) hK hP hD hS hA rfl hl.1 rfl (Nat.le_of_ble_eq_true rfl) dX5_wind_16 ⟨Nat.le_of_ble_eq_true rfl, Nat.le_of_ble_eq_true rfl⟩ (fun r_8 u_9 H locs hw_10 hP hD hS => ?_)
    have hP : va_P (dC, dI) vwCl (wM cI cZ cJ h F G (va_up V 0 0)) H := hP
    have hD : va_D A (wM cI cZ cJ h F G (va_up V 0 0)) := hD
    have hw_10 : r_8 = bI (isW p1 0 99) := hw_10
    refine lv_if_ne (tgt := 28) hx hb dX5_wind_19 (by decide) (fun c_11 => ?_) (fun c_11 => ?_)
    · have c_11 : isW p1 0 99 = true := bI_t hw_10 c_11
      refine lv_aload_n hx hb dX5_wind_28 rfl (lv_at hl 0 rfl) ?_
      refine va_get (D := (dC, dI)) (ci := 5) (v := .ref (h 8)) (C := RX5) (T := TX5) (N := 33) hx hb hts hin_X5 hown hK hP 0 rfl rfl 15 (by decide) hw2 (fun _ h9 => h9) rfl dX5_wind_29 ?_
      refine lv_iload_n hx hb dX5_wind_32 rfl (lv_at hl 1 rfl) ?_
      refine lv_iload_n hx hb dX5_wind_33 rfl (lv_at hl 2 rfl) ?_
      obtain ⟨k0, hk0, rfl⟩ := isW_nat (M := 23) (n := 23) (by decide) c_4
      obtain ⟨k1, hk1, rfl⟩ := isW_nat (M := 99) (n := 99) (by decide) c_11
      refine va_iast hx hb hK hP hD hS 8 0 rfl rfl (vp_in_nI (n := k0) (N := 24) (by omega) (by decide)) dX5_wind_34 (fun H locs hP hD hS => ?_)
      obtain ⟨F_12, eF_12⟩ : ∃ z : Nat → Nat → Int32, z = va_up F 8 (upd (F 8) (nI k0).toNatClampNeg (nI k1)) := ⟨_, rfl⟩
      have hP : va_P (dC, dI) vwCl (wM cI cZ cJ h F_12 G (va_up V 0 0)) H := by rw [eF_12]; exact hP
      have hD : va_D A (wM cI cZ cJ h F_12 G (va_up V 0 0)) := by rw [eF_12]; exact hD
      have hN_13 : ∀ i, i < 40 → F_12 3 i = nI (So i) := by rw [eF_12]; exact hSo
      have hN_14 : ∀ i, i < 4 → F_12 4 i = nI (Lm i) := by rw [eF_12]; exact hLm
      have hN_15 : ∀ i, i < 24 → F_12 7 i = nI (Hh i) := by rw [eF_12]; exact hHh
      obtain ⟨S_16, eS_16⟩ : ∃ z : Nat → Nat, z = nup Wd k0 k1 := ⟨_, rfl⟩
      have hN_17 : ∀ i, i < 24 → F_12 8 i = nI (S_16 i) := by rw [eF_12, eS_16]; show ∀ i, i < 24 → upd (F 8) (nI k0).toNatClampNeg (nI k1) i = nI _; exact nf_put hWd (nI_clamp (n := k0) (by omega))
      have bN_18 : ∀ i, i < 24 → S_16 i ≤ 99 := by rw [eS_16]; exact nb_put bWd (by omega)
      have hN_19 : ∀ i, i < 24 → F_12 9 i = nI (Pr i) := by rw [eF_12]; exact hPr
      have hN_20 : ∀ i, i < n → F_12 1 i = nI (X i) := by rw [eF_12]; exact hX
      have hN_21 : ∀ i, i < n → F_12 2 i = nI (Y i) := by rw [eF_12]; exact hY
      refine lv_aload_n hx hb dX5_wind_35 rfl (lv_at hl 0 rfl) ?_
      refine cw_Vi (As := []) (rest := []) (c_X5_granted l dC dI cI cZ cJ h F_12 G (va_up V 0 0)) fx (cwV 0 hts gX5_wind_X5_granted rfl rfl rfl (by decide +kernel) ⟨Nat.le_of_ble_eq_true rfl, Nat.le_of_ble_eq_true rfl⟩) hK hP hD hS hA 0 rfl rfl rfl rfl hl.1 rfl (Nat.le_of_ble_eq_true rfl) dX5_wind_36 ⟨Nat.le_of_ble_eq_true rfl, Nat.le_of_ble_eq_true rfl⟩ (fun r_22 u_23 H locs hw_24 hP hD hS => ?_)
      have hP : va_P (dC, dI) vwCl (wM cI cZ cJ h F_12 G (va_up (va_up V 0 0) 1 0)) H := hP
      have hD : va_D A (wM cI cZ cJ h F_12 G (va_up (va_up V 0 0) 1 0)) := hD
      obtain rfl : r_22 = 1 := hw_24
      exact hret 1 (F_12, G, va_up (va_up V 0 0) 1 0) H locs 39 ls rfl dX5_wind_39 (by
                    subst eS_16
                    have hc_ : (isW (nI k0) 0 23 && isW (nI k1) 0 99) = true := by simp [c_4, c_11]
                    refine ⟨?_, ?_⟩
                    · (try simp only [hc_, cond_true, cond_false, nI_clamp (show k0 < 2 ^ 31 by omega), nI_clamp (show k1 < 2 ^ 31 by omega)])
                      first | done | exact rfl
                    · (try simp only [hc_, cond_true, cond_false, nI_clamp (show k0 < 2 ^ 31 by omega), nI_clamp (show k1 < 2 ^ 31 by omega)])
                      exact ⟨⟨hV2, by omega⟩, ⟨hV3, by omega⟩, ⟨hV4, by omega⟩, ⟨hV6, by omega⟩, ⟨hV7, by omega⟩, ⟨hV10, by omega⟩, ⟨sh, hV11, by omega⟩, ⟨hN_13, bSo⟩, ⟨hN_14, bLm⟩, ⟨hN_15, bHh⟩, ⟨hN_17, bN_18⟩, ⟨hN_19, bPr⟩, ⟨hN_20, bX⟩, ⟨hN_21, bY⟩, ⟨am, hV8, by omega, by omega⟩, hGP, (fun i hi => (congrFun (va_ne eF_12 (by decide)) i).trans (hSX i hi)), (fun i hi => (congrFun (va_ne eF_12 (by decide)) i).trans (hSY i hi)), (fun i hi => (congrFun (va_ne eF_12 (by decide)) i).trans (hKc i hi)), (fun i hi => (congrFun (va_ne eF_12 (by decide)) i).trans (hKp i hi)), ((show (va_up (va_up V 0 0) 1 0) 5 = V 5 from rfl)).trans hE, (fun t h1 h2 => (congrFun (va_ne eF_12 (by decide)) t).trans (hRB t h1 h2))⟩) (hP) (hD) hS
    · have c_11 : isW p1 0 99 = false := bI_f hw_10 c_11
      refine lv_aload_n hx hb dX5_wind_22 rfl (lv_at hl 0 rfl) ?_
      refine lv_iconst (v := 2) hx hb dX5_wind_23 (by decide) ?_
      refine cw_Vi (As := [.int 2]) (rest := []) (c_X5_denied l dC dI cI cZ cJ h F G (va_up V 0 0) 2) fx (cwV 1 hts gX5_wind_X5_denied rfl rfl rfl (by decide +kernel) ⟨Nat.le_of_ble_eq_true rfl, Nat.le_of_ble_eq_true rfl⟩) hK hP hD hS hA 0 rfl rfl rfl rfl hl.1 rfl (Nat.le_of_ble_eq_true rfl) dX5_wind_24 ⟨Nat.le_of_ble_eq_true rfl, Nat.le_of_ble_eq_true rfl⟩ (fun r_25 u_26 H locs hw_27 hP hD hS => ?_)
      have hP : va_P (dC, dI) vwCl (wM cI cZ cJ h F G (va_up (va_up V 0 0) 1 2)) H := hP
      have hD : va_D A (wM cI cZ cJ h F G (va_up (va_up V 0 0) 1 2)) := hD
      obtain rfl : r_25 = 0 := hw_27
      exact hret 0 (F, G, va_up (va_up V 0 0) 1 2) H locs 27 ls rfl dX5_wind_27 (by
                    have hc_ : (isW p0 0 23 && isW p1 0 99) = false := by simp [c_4, c_11]
                    refine ⟨?_, ?_⟩
                    · (try simp only [hc_, cond_true, cond_false])
                      first | done | exact rfl
                    · (try simp only [hc_, cond_true, cond_false])
                      exact ⟨⟨hV2, by omega⟩, ⟨hV3, by omega⟩, ⟨hV4, by omega⟩, ⟨hV6, by omega⟩, ⟨hV7, by omega⟩, ⟨hV10, by omega⟩, ⟨sh, hV11, by omega⟩, ⟨hSo, bSo⟩, ⟨hLm, bLm⟩, ⟨hHh, bHh⟩, ⟨hWd, bWd⟩, ⟨hPr, bPr⟩, ⟨hX, bX⟩, ⟨hY, bY⟩, ⟨am, hV8, by omega, by omega⟩, hGP, (fun i hi => (congrFun (Eq.refl (F 5)) i).trans (hSX i hi)), (fun i hi => (congrFun (Eq.refl (F 6)) i).trans (hSY i hi)), (fun i hi => (congrFun (Eq.refl (F 13)) i).trans (hKc i hi)), (fun i hi => (congrFun (Eq.refl (F 15)) i).trans (hKp i hi)), ((show (va_up (va_up V 0 0) 1 2) 5 = V 5 from rfl)).trans hE, (fun t h1 h2 => (congrFun (Eq.refl (F 17)) t).trans (hRB t h1 h2))⟩) (hP) (hD) hS
def rm_X5_price : Room := { frames := 1, cells := 0, slots := 0, locals := 22 }
set_option maxHeartbeats 4000000 in
set_option maxRecDepth 100000 in
theorem c_X5_price (l : Launch) (dC : Nat → ClassId) (dI : Nat → Nat → Nat) (cI cZ cJ : ClassId) (h : Nat → Nat) (F : Nat → Nat → Int32) (G : Nat → Int64) (V : Nat → Int32) (n : Nat) (hV2 : V 2 = nI n) (bV2 : n ≤ 40) (nw : Nat) (hV3 : V 3 = nI nw) (bV3 : nw ≤ 23) (un : Nat) (hV4 : V 4 = nI un) (bV4 : un ≤ 200) (d : Nat) (hV6 : V 6 = nI d) (bV6 : d ≤ 20) (wm : Nat) (hV7 : V 7 = nI wm) (bV7 : wm ≤ 1) (pf : Nat) (hV10 : V 10 = nI pf) (bV10 : pf ≤ 24) (sh : Nat) (hV11 : V 11 = nI sh) (bV11 : sh ≤ 12) (So : Nat → Nat) (hSo : ∀ i, i < 40 → F 3 i = nI (So i)) (bSo : ∀ i, i < 40 → So i ≤ 90) (Lm : Nat → Nat) (hLm : ∀ i, i < 4 → F 4 i = nI (Lm i)) (bLm : ∀ i, i < 4 → Lm i ≤ 10000) (Hh : Nat → Nat) (hHh : ∀ i, i < 24 → F 7 i = nI (Hh i)) (bHh : ∀ i, i < 24 → Hh i ≤ 9) (Wd : Nat → Nat) (hWd : ∀ i, i < 24 → F 8 i = nI (Wd i)) (bWd : ∀ i, i < 24 → Wd i ≤ 99) (Pr : Nat → Nat) (hPr : ∀ i, i < 24 → F 9 i = nI (Pr i)) (bPr : ∀ i, i < 24 → Pr i ≤ 999) (X : Nat → Nat) (hX : ∀ i, i < n → F 1 i = nI (X i)) (bX : ∀ i, i < n → X i ≤ 14) (Y : Nat → Nat) (hY : ∀ i, i < n → F 2 i = nI (Y i)) (bY : ∀ i, i < n → Y i ≤ 14) (p0 p1 : Int32)  (ks am : Nat) (hV8 : V 8 = nI am - 1) (bam : am ≤ 41) (hks : am - 1 = ks) (SX SY Kc Kp : Nat → Int32) (er : Int32) (rb : Nat → Bool) (hGP : GP n X Y) (hSX : ∀ i, i < 24 → F 5 i = SX i) (hSY : ∀ i, i < 24 → F 6 i = SY i) (hKc : ∀ i, i < ks → F 13 i = Kc i) (hKp : ∀ i, i < 4 → F 15 i = Kp i) (hE : V 5 = er) (hRB : ∀ t, pf ≤ t → t < 24 → F 17 t = bI (rb t)) : CtI l (dC, dI) vwCl (tys3 cI cZ cJ) yX5_price wsX5_price rm_X5_price [.ref (h 0), .int p0, .int p1] (wM cI cZ cJ h F G V) (S := (Nat → Nat → Int32) × (Nat → Int64) × (Nat → Int32)) (fun r u => (r = bI (isW p0 0 23 && isW p1 0 999)) ∧ VM n d ks nw un wm pf So Hh Wd Lm (bif (isW p0 0 23 && isW p1 0 999) then nup Pr p0.toNatClampNeg p1.toNatClampNeg else Pr) X Y SX SY Kc Kp er rb u.1 u.2.2) (fun u => wM cI cZ cJ h u.1 u.2.1 u.2.2) 0 0 := by
  refine ct_I (cc := cX5_price) (maxL := 3) (ty := .boolean) (own := RX5) (by decide) rfl rfl (Nat.le_of_ble_eq_true rfl) (lv := [(0, .ref (h 0)), (1, .int p0), (2, .int p1)]) rfl ?_
  intro p e s m args below meth c A Q ls fx hK hP hD hA hl hret
  obtain ⟨hx, hb, hml, hown, hts⟩ := id fx
  have hS : va_S A s.heap s.heap [] := va_S.rf
  have hw0 := hts (.fieldLink RX5 1 "MirrorTowerModel" "thrown" "I") (by decide +kernel)
  have hin_X5 : ∀ w ∈ u_ws RX5 TX5 33, w ∈ wsX5_price := by decide +kernel
  have hw2 := hts (.fieldLink RX5 44 "MirrorTowerModel" "price" "[I") (by decide +kernel)
  obtain ⟨H, hH⟩ : ∃ H, H = s.heap := ⟨_, rfl⟩
  rw [← hH] at hP ⊢
  have hS : va_S A s.heap H [] := by rw [hH]; exact hS
  generalize ([] : List Loc) = locs at hS ⊢
  refine lv_aload_n hx hb dX5_price_0 rfl (lv_at hl 0 rfl) ?_
  refine lv_iconst (v := 0) hx hb dX5_price_1 (by decide) ?_
  refine va_put (D := (dC, dI)) (ci := 5) (v := .int 0) (ty := .int) (C := RX5) (T := TX5) (N := 33) hx hb hts hin_X5 tyX5 tyX5_ok nmX5 hown hK hP hD hS 0 rfl rfl 0 (by decide) hw0 (fun _ h9 => h9) rfl (by decide +kernel) rfl rfl (Nat.le_of_ble_eq_true rfl) dX5_price_2 (fun H locs hP hD hS => ?_)
  have hP : va_P (dC, dI) vwCl (wM cI cZ cJ h F G (va_up V 0 0)) H := hP
  have hD : va_D A (wM cI cZ cJ h F G (va_up V 0 0)) := hD
  refine lv_iload_n hx hb dX5_price_5 rfl (lv_at hl 1 rfl) ?_
  refine cw_Si (As := [.int p0]) (rest := []) (c_X5_isHour l dC dI cI cZ cJ (wM cI cZ cJ h F G (va_up V 0 0)) p0) fx (va_cwS 1 hts gX5_price_X5_isHour rfl rfl rfl (by decide +kernel) ⟨Nat.le_of_ble_eq_true rfl, Nat.le_of_ble_eq_true rfl⟩) hK hP hD hS hA rfl hl.1 rfl (Nat.le_of_ble_eq_true rfl) dX5_price_6 ⟨Nat.le_of_ble_eq_true rfl, Nat.le_of_ble_eq_true rfl⟩ (fun r_1 u_2 H locs hw_3 hP hD hS => ?_)
  have hP : va_P (dC, dI) vwCl (wM cI cZ cJ h F G (va_up V 0 0)) H := hP
  have hD : va_D A (wM cI cZ cJ h F G (va_up V 0 0)) := hD
  have hw_3 : r_1 = bI (isW p0 0 23) := hw_3
  refine lv_if_eq (tgt := 23) hx hb dX5_price_9 (by decide) (fun c_4 => ?_) (fun c_4 => ?_)
  · have c_4 : isW p0 0 23 = false := bI_f hw_3 c_4
    refine lv_aload_n hx hb dX5_price_23 rfl (lv_at hl 0 rfl) ?_
    refine lv_iconst (v := 2) hx hb dX5_price_24 (by decide) ?_
    refine cw_Vi (As := [.int 2]) (rest := []) (c_X5_denied l dC dI cI cZ cJ h F G (va_up V 0 0) 2) fx (cwV 1 hts gX5_price_X5_denied rfl rfl rfl (by decide +kernel) ⟨Nat.le_of_ble_eq_true rfl, Nat.le_of_ble_eq_true rfl⟩) hK hP hD hS hA 0 rfl rfl rfl rfl hl.1 rfl (Nat.le_of_ble_eq_true rfl) dX5_price_25 ⟨Nat.le_of_ble_eq_true rfl, Nat.le_of_ble_eq_true rfl⟩ (fun r_5 u_6 H locs hw_7 hP hD hS => ?_)
    have hP : va_P (dC, dI) vwCl (wM cI cZ cJ h F G (va_up (va_up V 0 0) 1 2)) H := hP
    have hD : va_D A (wM cI cZ cJ h F G (va_up (va_up V 0 0) 1 2)) := hD
    obtain rfl : r_5 = 0 := hw_7
    exact hret 0 (F, G, va_up (va_up V 0 0) 1 2) H locs 28 ls rfl dX5_price_28 (by
                  have hc_ : (isW p0 0 23 && isW p1 0 999) = false := by simp [c_4]
                  refine ⟨?_, ?_⟩
                  · (try simp only [hc_, cond_true, cond_false])
                    first | done | exact rfl
                  · (try simp only [hc_, cond_true, cond_false])
                    exact ⟨⟨hV2, by omega⟩, ⟨hV3, by omega⟩, ⟨hV4, by omega⟩, ⟨hV6, by omega⟩, ⟨hV7, by omega⟩, ⟨hV10, by omega⟩, ⟨sh, hV11, by omega⟩, ⟨hSo, bSo⟩, ⟨hLm, bLm⟩, ⟨hHh, bHh⟩, ⟨hWd, bWd⟩, ⟨hPr, bPr⟩, ⟨hX, bX⟩, ⟨hY, bY⟩, ⟨am, hV8, by omega, by omega⟩, hGP, (fun i hi => (congrFun (Eq.refl (F 5)) i).trans (hSX i hi)), (fun i hi => (congrFun (Eq.refl (F 6)) i).trans (hSY i hi)), (fun i hi => (congrFun (Eq.refl (F 13)) i).trans (hKc i hi)), (fun i hi => (congrFun (Eq.refl (F 15)) i).trans (hKp i hi)), ((show (va_up (va_up V 0 0) 1 2) 5 = V 5 from rfl)).trans hE, (fun t h1 h2 => (congrFun (Eq.refl (F 17)) t).trans (hRB t h1 h2))⟩) (hP) (hD) hS
  · have c_4 : isW p0 0 23 = true := bI_t hw_3 c_4
    refine lv_iload_n hx hb dX5_price_12 rfl (lv_at hl 2 rfl) ?_
    refine lv_iconst (v := 0) hx hb dX5_price_13 (by decide) ?_
    refine lv_sipush (v := 999) hx hb dX5_price_14 (by decide) ?_
    refine cw_Si (As := [.int p1, .int 0, .int 999]) (rest := []) (c_X5_in l dC dI cI cZ cJ (wM cI cZ cJ h F G (va_up V 0 0)) p1 0 999) fx (va_cwS 3 hts gX5_price_X5_in rfl rfl rfl (by decide +kernel) ⟨Nat.le_of_ble_eq_true rfl, Nat.le_of_ble_eq_true rfl⟩) hK hP hD hS hA rfl hl.1 rfl (Nat.le_of_ble_eq_true rfl) dX5_price_17 ⟨Nat.le_of_ble_eq_true rfl, Nat.le_of_ble_eq_true rfl⟩ (fun r_8 u_9 H locs hw_10 hP hD hS => ?_)
    have hP : va_P (dC, dI) vwCl (wM cI cZ cJ h F G (va_up V 0 0)) H := hP
    have hD : va_D A (wM cI cZ cJ h F G (va_up V 0 0)) := hD
    have hw_10 : r_8 = bI (isW p1 0 999) := hw_10
    refine lv_if_ne (tgt := 29) hx hb dX5_price_20 (by decide) (fun c_11 => ?_) (fun c_11 => ?_)
    · have c_11 : isW p1 0 999 = true := bI_t hw_10 c_11
      refine lv_aload_n hx hb dX5_price_29 rfl (lv_at hl 0 rfl) ?_
      refine va_get (D := (dC, dI)) (ci := 5) (v := .ref (h 9)) (C := RX5) (T := TX5) (N := 33) hx hb hts hin_X5 hown hK hP 0 rfl rfl 16 (by decide) hw2 (fun _ h9 => h9) rfl dX5_price_30 ?_
      refine lv_iload_n hx hb dX5_price_33 rfl (lv_at hl 1 rfl) ?_
      refine lv_iload_n hx hb dX5_price_34 rfl (lv_at hl 2 rfl) ?_
      obtain ⟨k0, hk0, rfl⟩ := isW_nat (M := 23) (n := 23) (by decide) c_4
      obtain ⟨k1, hk1, rfl⟩ := isW_nat (M := 999) (n := 999) (by decide) c_11
      refine va_iast hx hb hK hP hD hS 9 0 rfl rfl (vp_in_nI (n := k0) (N := 24) (by omega) (by decide)) dX5_price_35 (fun H locs hP hD hS => ?_)
      obtain ⟨F_12, eF_12⟩ : ∃ z : Nat → Nat → Int32, z = va_up F 9 (upd (F 9) (nI k0).toNatClampNeg (nI k1)) := ⟨_, rfl⟩
      have hP : va_P (dC, dI) vwCl (wM cI cZ cJ h F_12 G (va_up V 0 0)) H := by rw [eF_12]; exact hP
      have hD : va_D A (wM cI cZ cJ h F_12 G (va_up V 0 0)) := by rw [eF_12]; exact hD
      have hN_13 : ∀ i, i < 40 → F_12 3 i = nI (So i) := by rw [eF_12]; exact hSo
      have hN_14 : ∀ i, i < 4 → F_12 4 i = nI (Lm i) := by rw [eF_12]; exact hLm
      have hN_15 : ∀ i, i < 24 → F_12 7 i = nI (Hh i) := by rw [eF_12]; exact hHh
      have hN_16 : ∀ i, i < 24 → F_12 8 i = nI (Wd i) := by rw [eF_12]; exact hWd
      obtain ⟨S_17, eS_17⟩ : ∃ z : Nat → Nat, z = nup Pr k0 k1 := ⟨_, rfl⟩
      have hN_18 : ∀ i, i < 24 → F_12 9 i = nI (S_17 i) := by rw [eF_12, eS_17]; show ∀ i, i < 24 → upd (F 9) (nI k0).toNatClampNeg (nI k1) i = nI _; exact nf_put hPr (nI_clamp (n := k0) (by omega))
      have bN_19 : ∀ i, i < 24 → S_17 i ≤ 999 := by rw [eS_17]; exact nb_put bPr (by omega)
      have hN_20 : ∀ i, i < n → F_12 1 i = nI (X i) := by rw [eF_12]; exact hX
      have hN_21 : ∀ i, i < n → F_12 2 i = nI (Y i) := by rw [eF_12]; exact hY
      refine lv_aload_n hx hb dX5_price_36 rfl (lv_at hl 0 rfl) ?_
      refine cw_Vi (As := []) (rest := []) (c_X5_granted l dC dI cI cZ cJ h F_12 G (va_up V 0 0)) fx (cwV 0 hts gX5_price_X5_granted rfl rfl rfl (by decide +kernel) ⟨Nat.le_of_ble_eq_true rfl, Nat.le_of_ble_eq_true rfl⟩) hK hP hD hS hA 0 rfl rfl rfl rfl hl.1 rfl (Nat.le_of_ble_eq_true rfl) dX5_price_37 ⟨Nat.le_of_ble_eq_true rfl, Nat.le_of_ble_eq_true rfl⟩ (fun r_22 u_23 H locs hw_24 hP hD hS => ?_)
      have hP : va_P (dC, dI) vwCl (wM cI cZ cJ h F_12 G (va_up (va_up V 0 0) 1 0)) H := hP
      have hD : va_D A (wM cI cZ cJ h F_12 G (va_up (va_up V 0 0) 1 0)) := hD
      obtain rfl : r_22 = 1 := hw_24
      exact hret 1 (F_12, G, va_up (va_up V 0 0) 1 0) H locs 40 ls rfl dX5_price_40 (by
                    subst eS_17
                    have hc_ : (isW (nI k0) 0 23 && isW (nI k1) 0 999) = true := by simp [c_4, c_11]
                    refine ⟨?_, ?_⟩
                    · (try simp only [hc_, cond_true, cond_false, nI_clamp (show k0 < 2 ^ 31 by omega), nI_clamp (show k1 < 2 ^ 31 by omega)])
                      first | done | exact rfl
                    · (try simp only [hc_, cond_true, cond_false, nI_clamp (show k0 < 2 ^ 31 by omega), nI_clamp (show k1 < 2 ^ 31 by omega)])
                      exact ⟨⟨hV2, by omega⟩, ⟨hV3, by omega⟩, ⟨hV4, by omega⟩, ⟨hV6, by omega⟩, ⟨hV7, by omega⟩, ⟨hV10, by omega⟩, ⟨sh, hV11, by omega⟩, ⟨hN_13, bSo⟩, ⟨hN_14, bLm⟩, ⟨hN_15, bHh⟩, ⟨hN_16, bWd⟩, ⟨hN_18, bN_19⟩, ⟨hN_20, bX⟩, ⟨hN_21, bY⟩, ⟨am, hV8, by omega, by omega⟩, hGP, (fun i hi => (congrFun (va_ne eF_12 (by decide)) i).trans (hSX i hi)), (fun i hi => (congrFun (va_ne eF_12 (by decide)) i).trans (hSY i hi)), (fun i hi => (congrFun (va_ne eF_12 (by decide)) i).trans (hKc i hi)), (fun i hi => (congrFun (va_ne eF_12 (by decide)) i).trans (hKp i hi)), ((show (va_up (va_up V 0 0) 1 0) 5 = V 5 from rfl)).trans hE, (fun t h1 h2 => (congrFun (va_ne eF_12 (by decide)) t).trans (hRB t h1 h2))⟩) (hP) (hD) hS
    · have c_11 : isW p1 0 999 = false := bI_f hw_10 c_11
      refine lv_aload_n hx hb dX5_price_23 rfl (lv_at hl 0 rfl) ?_
      refine lv_iconst (v := 2) hx hb dX5_price_24 (by decide) ?_
      refine cw_Vi (As := [.int 2]) (rest := []) (c_X5_denied l dC dI cI cZ cJ h F G (va_up V 0 0) 2) fx (cwV 1 hts gX5_price_X5_denied rfl rfl rfl (by decide +kernel) ⟨Nat.le_of_ble_eq_true rfl, Nat.le_of_ble_eq_true rfl⟩) hK hP hD hS hA 0 rfl rfl rfl rfl hl.1 rfl (Nat.le_of_ble_eq_true rfl) dX5_price_25 ⟨Nat.le_of_ble_eq_true rfl, Nat.le_of_ble_eq_true rfl⟩ (fun r_25 u_26 H locs hw_27 hP hD hS => ?_)
      have hP : va_P (dC, dI) vwCl (wM cI cZ cJ h F G (va_up (va_up V 0 0) 1 2)) H := hP
      have hD : va_D A (wM cI cZ cJ h F G (va_up (va_up V 0 0) 1 2)) := hD
      obtain rfl : r_25 = 0 := hw_27
      exact hret 0 (F, G, va_up (va_up V 0 0) 1 2) H locs 28 ls rfl dX5_price_28 (by
                    have hc_ : (isW p0 0 23 && isW p1 0 999) = false := by simp [c_4, c_11]
                    refine ⟨?_, ?_⟩
                    · (try simp only [hc_, cond_true, cond_false])
                      first | done | exact rfl
                    · (try simp only [hc_, cond_true, cond_false])
                      exact ⟨⟨hV2, by omega⟩, ⟨hV3, by omega⟩, ⟨hV4, by omega⟩, ⟨hV6, by omega⟩, ⟨hV7, by omega⟩, ⟨hV10, by omega⟩, ⟨sh, hV11, by omega⟩, ⟨hSo, bSo⟩, ⟨hLm, bLm⟩, ⟨hHh, bHh⟩, ⟨hWd, bWd⟩, ⟨hPr, bPr⟩, ⟨hX, bX⟩, ⟨hY, bY⟩, ⟨am, hV8, by omega, by omega⟩, hGP, (fun i hi => (congrFun (Eq.refl (F 5)) i).trans (hSX i hi)), (fun i hi => (congrFun (Eq.refl (F 6)) i).trans (hSY i hi)), (fun i hi => (congrFun (Eq.refl (F 13)) i).trans (hKc i hi)), (fun i hi => (congrFun (Eq.refl (F 15)) i).trans (hKp i hi)), ((show (va_up (va_up V 0 0) 1 2) 5 = V 5 from rfl)).trans hE, (fun t h1 h2 => (congrFun (Eq.refl (F 17)) t).trans (hRB t h1 h2))⟩) (hP) (hD) hS
def rm_X5_dust : Room := { frames := 1, cells := 0, slots := 0, locals := 22 }
set_option maxHeartbeats 4000000 in
set_option maxRecDepth 100000 in
theorem c_X5_dust (l : Launch) (dC : Nat → ClassId) (dI : Nat → Nat → Nat) (cI cZ cJ : ClassId) (h : Nat → Nat) (F : Nat → Nat → Int32) (G : Nat → Int64) (V : Nat → Int32) (n : Nat) (hV2 : V 2 = nI n) (bV2 : n ≤ 40) (nw : Nat) (hV3 : V 3 = nI nw) (bV3 : nw ≤ 23) (un : Nat) (hV4 : V 4 = nI un) (bV4 : un ≤ 200) (d : Nat) (hV6 : V 6 = nI d) (bV6 : d ≤ 20) (wm : Nat) (hV7 : V 7 = nI wm) (bV7 : wm ≤ 1) (pf : Nat) (hV10 : V 10 = nI pf) (bV10 : pf ≤ 24) (sh : Nat) (hV11 : V 11 = nI sh) (bV11 : sh ≤ 12) (So : Nat → Nat) (hSo : ∀ i, i < 40 → F 3 i = nI (So i)) (bSo : ∀ i, i < 40 → So i ≤ 90) (Lm : Nat → Nat) (hLm : ∀ i, i < 4 → F 4 i = nI (Lm i)) (bLm : ∀ i, i < 4 → Lm i ≤ 10000) (Hh : Nat → Nat) (hHh : ∀ i, i < 24 → F 7 i = nI (Hh i)) (bHh : ∀ i, i < 24 → Hh i ≤ 9) (Wd : Nat → Nat) (hWd : ∀ i, i < 24 → F 8 i = nI (Wd i)) (bWd : ∀ i, i < 24 → Wd i ≤ 99) (Pr : Nat → Nat) (hPr : ∀ i, i < 24 → F 9 i = nI (Pr i)) (bPr : ∀ i, i < 24 → Pr i ≤ 999) (X : Nat → Nat) (hX : ∀ i, i < n → F 1 i = nI (X i)) (bX : ∀ i, i < n → X i ≤ 14) (Y : Nat → Nat) (hY : ∀ i, i < n → F 2 i = nI (Y i)) (bY : ∀ i, i < n → Y i ≤ 14) (p0 : Int32)  (ks am : Nat) (hV8 : V 8 = nI am - 1) (bam : am ≤ 41) (hks : am - 1 = ks) (SX SY Kc Kp : Nat → Int32) (er : Int32) (rb : Nat → Bool) (hGP : GP n X Y) (hSX : ∀ i, i < 24 → F 5 i = SX i) (hSY : ∀ i, i < 24 → F 6 i = SY i) (hKc : ∀ i, i < ks → F 13 i = Kc i) (hKp : ∀ i, i < 4 → F 15 i = Kp i) (hE : V 5 = er) (hRB : ∀ t, pf ≤ t → t < 24 → F 17 t = bI (rb t)) : CtI l (dC, dI) vwCl (tys3 cI cZ cJ) yX5_dust wsX5_dust rm_X5_dust [.ref (h 0), .int p0] (wM cI cZ cJ h F G V) (S := (Nat → Nat → Int32) × (Nat → Int64) × (Nat → Int32)) (fun r u => (r = bI (isW p0 0 20)) ∧ VM n (bif isW p0 0 20 then p0.toNatClampNeg else d) ks nw un wm pf So Hh Wd Lm Pr X Y SX SY Kc Kp er rb u.1 u.2.2) (fun u => wM cI cZ cJ h u.1 u.2.1 u.2.2) 0 0 := by
  refine ct_I (cc := cX5_dust) (maxL := 2) (ty := .boolean) (own := RX5) (by decide) rfl rfl (Nat.le_of_ble_eq_true rfl) (lv := [(0, .ref (h 0)), (1, .int p0)]) rfl ?_
  intro p e s m args below meth c A Q ls fx hK hP hD hA hl hret
  obtain ⟨hx, hb, hml, hown, hts⟩ := id fx
  have hS : va_S A s.heap s.heap [] := va_S.rf
  have hw0 := hts (.fieldLink RX5 1 "MirrorTowerModel" "thrown" "I") (by decide +kernel)
  have hin_X5 : ∀ w ∈ u_ws RX5 TX5 33, w ∈ wsX5_dust := by decide +kernel
  have hw2 := hts (.fieldLink RX5 16 "MirrorTowerModel" "dust" "I") (by decide +kernel)
  obtain ⟨H, hH⟩ : ∃ H, H = s.heap := ⟨_, rfl⟩
  rw [← hH] at hP ⊢
  have hS : va_S A s.heap H [] := by rw [hH]; exact hS
  generalize ([] : List Loc) = locs at hS ⊢
  refine lv_aload_n hx hb dX5_dust_0 rfl (lv_at hl 0 rfl) ?_
  refine lv_iconst (v := 0) hx hb dX5_dust_1 (by decide) ?_
  refine va_put (D := (dC, dI)) (ci := 5) (v := .int 0) (ty := .int) (C := RX5) (T := TX5) (N := 33) hx hb hts hin_X5 tyX5 tyX5_ok nmX5 hown hK hP hD hS 0 rfl rfl 0 (by decide) hw0 (fun _ h9 => h9) rfl (by decide +kernel) rfl rfl (Nat.le_of_ble_eq_true rfl) dX5_dust_2 (fun H locs hP hD hS => ?_)
  have hP : va_P (dC, dI) vwCl (wM cI cZ cJ h F G (va_up V 0 0)) H := hP
  have hD : va_D A (wM cI cZ cJ h F G (va_up V 0 0)) := hD
  refine lv_iload_n hx hb dX5_dust_5 rfl (lv_at hl 1 rfl) ?_
  refine lv_iconst (v := 0) hx hb dX5_dust_6 (by decide) ?_
  refine lv_bipush (v := 20) hx hb dX5_dust_7 (by decide) ?_
  refine cw_Si (As := [.int p0, .int 0, .int 20]) (rest := []) (c_X5_in l dC dI cI cZ cJ (wM cI cZ cJ h F G (va_up V 0 0)) p0 0 20) fx (va_cwS 3 hts gX5_dust_X5_in rfl rfl rfl (by decide +kernel) ⟨Nat.le_of_ble_eq_true rfl, Nat.le_of_ble_eq_true rfl⟩) hK hP hD hS hA rfl hl.1 rfl (Nat.le_of_ble_eq_true rfl) dX5_dust_9 ⟨Nat.le_of_ble_eq_true rfl, Nat.le_of_ble_eq_true rfl⟩ (fun r_1 u_2 H locs hw_3 hP hD hS => ?_)
  have hP : va_P (dC, dI) vwCl (wM cI cZ cJ h F G (va_up V 0 0)) H := hP
  have hD : va_D A (wM cI cZ cJ h F G (va_up V 0 0)) := hD
  have hw_3 : r_1 = bI (isW p0 0 20) := hw_3
  refine lv_if_ne (tgt := 21) hx hb dX5_dust_12 (by decide) (fun c_4 => ?_) (fun c_4 => ?_)
  · have c_4 : isW p0 0 20 = true := bI_t hw_3 c_4
    refine lv_aload_n hx hb dX5_dust_21 rfl (lv_at hl 0 rfl) ?_
    refine lv_iload_n hx hb dX5_dust_22 rfl (lv_at hl 1 rfl) ?_
    obtain ⟨k0, hk0, rfl⟩ := isW_nat (M := 20) (n := 20) (by decide) c_4
    refine va_put (D := (dC, dI)) (ci := 5) (v := .int (nI k0)) (ty := .int) (C := RX5) (T := TX5) (N := 33) hx hb hts hin_X5 tyX5 tyX5_ok nmX5 hown hK hP hD hS 0 rfl rfl 6 (by decide) hw2 (fun _ h9 => h9) rfl (by decide +kernel) rfl rfl (Nat.le_of_ble_eq_true rfl) dX5_dust_23 (fun H locs hP hD hS => ?_)
    have hP : va_P (dC, dI) vwCl (wM cI cZ cJ h F G (va_up (va_up V 0 0) 6 (nI k0))) H := hP
    have hD : va_D A (wM cI cZ cJ h F G (va_up (va_up V 0 0) 6 (nI k0))) := hD
    refine lv_aload_n hx hb dX5_dust_26 rfl (lv_at hl 0 rfl) ?_
    refine cw_Vi (As := []) (rest := []) (c_X5_granted l dC dI cI cZ cJ h F G (va_up (va_up V 0 0) 6 (nI k0))) fx (cwV 0 hts gX5_dust_X5_granted rfl rfl rfl (by decide +kernel) ⟨Nat.le_of_ble_eq_true rfl, Nat.le_of_ble_eq_true rfl⟩) hK hP hD hS hA 0 rfl rfl rfl rfl hl.1 rfl (Nat.le_of_ble_eq_true rfl) dX5_dust_27 ⟨Nat.le_of_ble_eq_true rfl, Nat.le_of_ble_eq_true rfl⟩ (fun r_5 u_6 H locs hw_7 hP hD hS => ?_)
    have hP : va_P (dC, dI) vwCl (wM cI cZ cJ h F G (va_up (va_up (va_up V 0 0) 6 (nI k0)) 1 0)) H := hP
    have hD : va_D A (wM cI cZ cJ h F G (va_up (va_up (va_up V 0 0) 6 (nI k0)) 1 0)) := hD
    obtain rfl : r_5 = 1 := hw_7
    exact hret 1 (F, G, va_up (va_up (va_up V 0 0) 6 (nI k0)) 1 0) H locs 30 ls rfl dX5_dust_30 (by
                  have hc_ : isW (nI k0) 0 20 = true := by simp [c_4]
                  refine ⟨?_, ?_⟩
                  · (try simp only [hc_, cond_true, cond_false, nI_clamp (show k0 < 2 ^ 31 by omega)])
                    first | done | exact rfl
                  · (try simp only [hc_, cond_true, cond_false, nI_clamp (show k0 < 2 ^ 31 by omega)])
                    exact ⟨⟨hV2, by omega⟩, ⟨hV3, by omega⟩, ⟨hV4, by omega⟩, ⟨rfl, by omega⟩, ⟨hV7, by omega⟩, ⟨hV10, by omega⟩, ⟨sh, hV11, by omega⟩, ⟨hSo, bSo⟩, ⟨hLm, bLm⟩, ⟨hHh, bHh⟩, ⟨hWd, bWd⟩, ⟨hPr, bPr⟩, ⟨hX, bX⟩, ⟨hY, bY⟩, ⟨am, hV8, by omega, by omega⟩, hGP, (fun i hi => (congrFun (Eq.refl (F 5)) i).trans (hSX i hi)), (fun i hi => (congrFun (Eq.refl (F 6)) i).trans (hSY i hi)), (fun i hi => (congrFun (Eq.refl (F 13)) i).trans (hKc i hi)), (fun i hi => (congrFun (Eq.refl (F 15)) i).trans (hKp i hi)), ((show (va_up (va_up (va_up V 0 0) 6 (nI k0)) 1 0) 5 = V 5 from rfl)).trans hE, (fun t h1 h2 => (congrFun (Eq.refl (F 17)) t).trans (hRB t h1 h2))⟩) (hP) (hD) hS
  · have c_4 : isW p0 0 20 = false := bI_f hw_3 c_4
    refine lv_aload_n hx hb dX5_dust_15 rfl (lv_at hl 0 rfl) ?_
    refine lv_iconst (v := 2) hx hb dX5_dust_16 (by decide) ?_
    refine cw_Vi (As := [.int 2]) (rest := []) (c_X5_denied l dC dI cI cZ cJ h F G (va_up V 0 0) 2) fx (cwV 1 hts gX5_dust_X5_denied rfl rfl rfl (by decide +kernel) ⟨Nat.le_of_ble_eq_true rfl, Nat.le_of_ble_eq_true rfl⟩) hK hP hD hS hA 0 rfl rfl rfl rfl hl.1 rfl (Nat.le_of_ble_eq_true rfl) dX5_dust_17 ⟨Nat.le_of_ble_eq_true rfl, Nat.le_of_ble_eq_true rfl⟩ (fun r_8 u_9 H locs hw_10 hP hD hS => ?_)
    have hP : va_P (dC, dI) vwCl (wM cI cZ cJ h F G (va_up (va_up V 0 0) 1 2)) H := hP
    have hD : va_D A (wM cI cZ cJ h F G (va_up (va_up V 0 0) 1 2)) := hD
    obtain rfl : r_8 = 0 := hw_10
    exact hret 0 (F, G, va_up (va_up V 0 0) 1 2) H locs 20 ls rfl dX5_dust_20 (by
                  have hc_ : isW p0 0 20 = false := by simp [c_4]
                  refine ⟨?_, ?_⟩
                  · (try simp only [hc_, cond_true, cond_false])
                    first | done | exact rfl
                  · (try simp only [hc_, cond_true, cond_false])
                    exact ⟨⟨hV2, by omega⟩, ⟨hV3, by omega⟩, ⟨hV4, by omega⟩, ⟨hV6, by omega⟩, ⟨hV7, by omega⟩, ⟨hV10, by omega⟩, ⟨sh, hV11, by omega⟩, ⟨hSo, bSo⟩, ⟨hLm, bLm⟩, ⟨hHh, bHh⟩, ⟨hWd, bWd⟩, ⟨hPr, bPr⟩, ⟨hX, bX⟩, ⟨hY, bY⟩, ⟨am, hV8, by omega, by omega⟩, hGP, (fun i hi => (congrFun (Eq.refl (F 5)) i).trans (hSX i hi)), (fun i hi => (congrFun (Eq.refl (F 6)) i).trans (hSY i hi)), (fun i hi => (congrFun (Eq.refl (F 13)) i).trans (hKc i hi)), (fun i hi => (congrFun (Eq.refl (F 15)) i).trans (hKp i hi)), ((show (va_up (va_up V 0 0) 1 2) 5 = V 5 from rfl)).trans hE, (fun t h1 h2 => (congrFun (Eq.refl (F 17)) t).trans (hRB t h1 h2))⟩) (hP) (hD) hS
def rm_X5_stowed : Room := { frames := 1, cells := 0, slots := 0, locals := 21 }
set_option maxHeartbeats 4000000 in
set_option maxRecDepth 100000 in
theorem c_X5_stowed (l : Launch) (dC : Nat → ClassId) (dI : Nat → Nat → Nat) (cI cZ cJ : ClassId) (h : Nat → Nat) (F : Nat → Nat → Int32) (G : Nat → Int64) (V : Nat → Int32) (n : Nat) (hV2 : V 2 = nI n) (bV2 : n ≤ 40) (nw : Nat) (hV3 : V 3 = nI nw) (bV3 : nw ≤ 23) (un : Nat) (hV4 : V 4 = nI un) (bV4 : un ≤ 200) (d : Nat) (hV6 : V 6 = nI d) (bV6 : d ≤ 20) (wm : Nat) (hV7 : V 7 = nI wm) (bV7 : wm ≤ 1) (pf : Nat) (hV10 : V 10 = nI pf) (bV10 : pf ≤ 24) (sh : Nat) (hV11 : V 11 = nI sh) (bV11 : sh ≤ 12) (So : Nat → Nat) (hSo : ∀ i, i < 40 → F 3 i = nI (So i)) (bSo : ∀ i, i < 40 → So i ≤ 90) (Lm : Nat → Nat) (hLm : ∀ i, i < 4 → F 4 i = nI (Lm i)) (bLm : ∀ i, i < 4 → Lm i ≤ 10000) (Hh : Nat → Nat) (hHh : ∀ i, i < 24 → F 7 i = nI (Hh i)) (bHh : ∀ i, i < 24 → Hh i ≤ 9) (Wd : Nat → Nat) (hWd : ∀ i, i < 24 → F 8 i = nI (Wd i)) (bWd : ∀ i, i < 24 → Wd i ≤ 99) (Pr : Nat → Nat) (hPr : ∀ i, i < 24 → F 9 i = nI (Pr i)) (bPr : ∀ i, i < 24 → Pr i ≤ 999) (X : Nat → Nat) (hX : ∀ i, i < n → F 1 i = nI (X i)) (bX : ∀ i, i < n → X i ≤ 14) (Y : Nat → Nat) (hY : ∀ i, i < n → F 2 i = nI (Y i)) (bY : ∀ i, i < n → Y i ≤ 14) (p0 : Int32)  (ks am : Nat) (hV8 : V 8 = nI am - 1) (bam : am ≤ 41) (hks : am - 1 = ks) (SX SY Kc Kp : Nat → Int32) (er : Int32) (rb : Nat → Bool) (hGP : GP n X Y) (hSX : ∀ i, i < 24 → F 5 i = SX i) (hSY : ∀ i, i < 24 → F 6 i = SY i) (hKc : ∀ i, i < ks → F 13 i = Kc i) (hKp : ∀ i, i < 4 → F 15 i = Kp i) (hE : V 5 = er) (hRB : ∀ t, pf ≤ t → t < 24 → F 17 t = bI (rb t)) : CtI l (dC, dI) vwCl (tys3 cI cZ cJ) yX5_stowed wsX5_stowed rm_X5_stowed [.ref (h 0), .int p0] (wM cI cZ cJ h F G V) (S := (Nat → Nat → Int32) × (Nat → Int64) × (Nat → Int32)) (fun r u => (r = (bif isW p0 0 23 then bI (stow Wd p0.toNatClampNeg) else (-1))) ∧ VM n d ks nw un wm pf So Hh Wd Lm Pr X Y SX SY Kc Kp er rb u.1 u.2.2) (fun u => wM cI cZ cJ h u.1 u.2.1 u.2.2) 0 0 := by
  refine ct_I (cc := cX5_stowed) (maxL := 2) (ty := .int) (own := RX5) (by decide) rfl rfl (Nat.le_of_ble_eq_true rfl) (lv := [(0, .ref (h 0)), (1, .int p0)]) rfl ?_
  intro p e s m args below meth c A Q ls fx hK hP hD hA hl hret
  obtain ⟨hx, hb, hml, hown, hts⟩ := id fx
  have hS : va_S A s.heap s.heap [] := va_S.rf
  have hw0 := hts (.fieldLink RX5 1 "MirrorTowerModel" "thrown" "I") (by decide +kernel)
  have hin_X5 : ∀ w ∈ u_ws RX5 TX5 33, w ∈ wsX5_stowed := by decide +kernel
  obtain ⟨H, hH⟩ : ∃ H, H = s.heap := ⟨_, rfl⟩
  rw [← hH] at hP ⊢
  have hS : va_S A s.heap H [] := by rw [hH]; exact hS
  generalize ([] : List Loc) = locs at hS ⊢
  refine lv_aload_n hx hb dX5_stowed_0 rfl (lv_at hl 0 rfl) ?_
  refine lv_iconst (v := 0) hx hb dX5_stowed_1 (by decide) ?_
  refine va_put (D := (dC, dI)) (ci := 5) (v := .int 0) (ty := .int) (C := RX5) (T := TX5) (N := 33) hx hb hts hin_X5 tyX5 tyX5_ok nmX5 hown hK hP hD hS 0 rfl rfl 0 (by decide) hw0 (fun _ h9 => h9) rfl (by decide +kernel) rfl rfl (Nat.le_of_ble_eq_true rfl) dX5_stowed_2 (fun H locs hP hD hS => ?_)
  have hP : va_P (dC, dI) vwCl (wM cI cZ cJ h F G (va_up V 0 0)) H := hP
  have hD : va_D A (wM cI cZ cJ h F G (va_up V 0 0)) := hD
  refine lv_iload_n hx hb dX5_stowed_5 rfl (lv_at hl 1 rfl) ?_
  refine cw_Si (As := [.int p0]) (rest := []) (c_X5_isHour l dC dI cI cZ cJ (wM cI cZ cJ h F G (va_up V 0 0)) p0) fx (va_cwS 1 hts gX5_stowed_X5_isHour rfl rfl rfl (by decide +kernel) ⟨Nat.le_of_ble_eq_true rfl, Nat.le_of_ble_eq_true rfl⟩) hK hP hD hS hA rfl hl.1 rfl (Nat.le_of_ble_eq_true rfl) dX5_stowed_6 ⟨Nat.le_of_ble_eq_true rfl, Nat.le_of_ble_eq_true rfl⟩ (fun r_1 u_2 H locs hw_3 hP hD hS => ?_)
  have hP : va_P (dC, dI) vwCl (wM cI cZ cJ h F G (va_up V 0 0)) H := hP
  have hD : va_D A (wM cI cZ cJ h F G (va_up V 0 0)) := hD
  have hw_3 : r_1 = bI (isW p0 0 23) := hw_3
  refine lv_if_eq (tgt := 28) hx hb dX5_stowed_9 (by decide) (fun c_4 => ?_) (fun c_4 => ?_)
  · have c_4 : isW p0 0 23 = false := bI_f hw_3 c_4
    refine lv_iconst (v := (-1)) hx hb dX5_stowed_28 (by decide) ?_
    exact hret (-1) (F, G, va_up V 0 0) H locs 29 ls rfl dX5_stowed_29 (by
                  have hc_ : isW p0 0 23 = false := by simp [c_4]
                  refine ⟨?_, ?_⟩
                  · (try simp only [hc_, cond_true, cond_false])
                    first | done | exact rfl
                  · (try simp only [hc_, cond_true, cond_false])
                    exact ⟨⟨hV2, by omega⟩, ⟨hV3, by omega⟩, ⟨hV4, by omega⟩, ⟨hV6, by omega⟩, ⟨hV7, by omega⟩, ⟨hV10, by omega⟩, ⟨sh, hV11, by omega⟩, ⟨hSo, bSo⟩, ⟨hLm, bLm⟩, ⟨hHh, bHh⟩, ⟨hWd, bWd⟩, ⟨hPr, bPr⟩, ⟨hX, bX⟩, ⟨hY, bY⟩, ⟨am, hV8, by omega, by omega⟩, hGP, (fun i hi => (congrFun (Eq.refl (F 5)) i).trans (hSX i hi)), (fun i hi => (congrFun (Eq.refl (F 6)) i).trans (hSY i hi)), (fun i hi => (congrFun (Eq.refl (F 13)) i).trans (hKc i hi)), (fun i hi => (congrFun (Eq.refl (F 15)) i).trans (hKp i hi)), ((show (va_up V 0 0) 5 = V 5 from rfl)).trans hE, (fun t h1 h2 => (congrFun (Eq.refl (F 17)) t).trans (hRB t h1 h2))⟩) (hP) (hD) hS
  · have c_4 : isW p0 0 23 = true := bI_t hw_3 c_4
    refine lv_aload_n hx hb dX5_stowed_12 rfl (lv_at hl 0 rfl) ?_
    refine lv_iload_n hx hb dX5_stowed_13 rfl (lv_at hl 1 rfl) ?_
    obtain ⟨k0, hk0, rfl⟩ := isW_nat (M := 23) (n := 23) (by decide) c_4
    refine cw_Vi (As := [.int (nI k0)]) (rest := []) (c_X5_isStowed l dC dI cI cZ cJ h F G (va_up V 0 0) Wd hWd bWd k0 (by omega)) fx (cwV 1 hts gX5_stowed_X5_isStowed rfl rfl rfl (by decide +kernel) ⟨Nat.le_of_ble_eq_true rfl, Nat.le_of_ble_eq_true rfl⟩) hK hP hD hS hA 0 rfl rfl rfl rfl hl.1 rfl (Nat.le_of_ble_eq_true rfl) dX5_stowed_14 ⟨Nat.le_of_ble_eq_true rfl, Nat.le_of_ble_eq_true rfl⟩ (fun r_5 u_6 H locs hw_7 hP hD hS => ?_)
    have hP : va_P (dC, dI) vwCl (wM cI cZ cJ h F G (va_up V 0 0)) H := hP
    have hD : va_D A (wM cI cZ cJ h F G (va_up V 0 0)) := hD
    have hw_7 : r_5 = bI (stow Wd k0) := hw_7
    refine lv_if_eq (tgt := 24) hx hb dX5_stowed_17 (by decide) (fun c_8 => ?_) (fun c_8 => ?_)
    · have c_8 : stow Wd k0 = false := bI_f hw_7 c_8
      refine lv_iconst (v := 0) hx hb dX5_stowed_24 (by decide) ?_
      refine lv_goto (tgt := 29) hx hb dX5_stowed_25 (by decide) ?_
      exact hret 0 (F, G, va_up V 0 0) H locs 29 ls rfl dX5_stowed_29 (by
                    have hc_ : isW (nI k0) 0 23 = true := by simp [c_4, c_8]
                    refine ⟨?_, ?_⟩
                    · (try simp only [hc_, cond_true, cond_false, nI_clamp (show k0 < 2 ^ 31 by omega)])
                      first | done | exact by rw [c_8]; rfl
                    · (try simp only [hc_, cond_true, cond_false, nI_clamp (show k0 < 2 ^ 31 by omega)])
                      exact ⟨⟨hV2, by omega⟩, ⟨hV3, by omega⟩, ⟨hV4, by omega⟩, ⟨hV6, by omega⟩, ⟨hV7, by omega⟩, ⟨hV10, by omega⟩, ⟨sh, hV11, by omega⟩, ⟨hSo, bSo⟩, ⟨hLm, bLm⟩, ⟨hHh, bHh⟩, ⟨hWd, bWd⟩, ⟨hPr, bPr⟩, ⟨hX, bX⟩, ⟨hY, bY⟩, ⟨am, hV8, by omega, by omega⟩, hGP, (fun i hi => (congrFun (Eq.refl (F 5)) i).trans (hSX i hi)), (fun i hi => (congrFun (Eq.refl (F 6)) i).trans (hSY i hi)), (fun i hi => (congrFun (Eq.refl (F 13)) i).trans (hKc i hi)), (fun i hi => (congrFun (Eq.refl (F 15)) i).trans (hKp i hi)), ((show (va_up V 0 0) 5 = V 5 from rfl)).trans hE, (fun t h1 h2 => (congrFun (Eq.refl (F 17)) t).trans (hRB t h1 h2))⟩) (hP) (hD) hS
    · have c_8 : stow Wd k0 = true := bI_t hw_7 c_8
      refine lv_iconst (v := 1) hx hb dX5_stowed_20 (by decide) ?_
      refine lv_goto (tgt := 29) hx hb dX5_stowed_21 (by decide) ?_
      exact hret 1 (F, G, va_up V 0 0) H locs 29 ls rfl dX5_stowed_29 (by
                    have hc_ : isW (nI k0) 0 23 = true := by simp [c_4, c_8]
                    refine ⟨?_, ?_⟩
                    · (try simp only [hc_, cond_true, cond_false, nI_clamp (show k0 < 2 ^ 31 by omega)])
                      first | done | exact by rw [c_8]; rfl
                    · (try simp only [hc_, cond_true, cond_false, nI_clamp (show k0 < 2 ^ 31 by omega)])
                      exact ⟨⟨hV2, by omega⟩, ⟨hV3, by omega⟩, ⟨hV4, by omega⟩, ⟨hV6, by omega⟩, ⟨hV7, by omega⟩, ⟨hV10, by omega⟩, ⟨sh, hV11, by omega⟩, ⟨hSo, bSo⟩, ⟨hLm, bLm⟩, ⟨hHh, bHh⟩, ⟨hWd, bWd⟩, ⟨hPr, bPr⟩, ⟨hX, bX⟩, ⟨hY, bY⟩, ⟨am, hV8, by omega, by omega⟩, hGP, (fun i hi => (congrFun (Eq.refl (F 5)) i).trans (hSX i hi)), (fun i hi => (congrFun (Eq.refl (F 6)) i).trans (hSY i hi)), (fun i hi => (congrFun (Eq.refl (F 13)) i).trans (hKc i hi)), (fun i hi => (congrFun (Eq.refl (F 15)) i).trans (hKp i hi)), ((show (va_up V 0 0) 5 = V 5 from rfl)).trans hE, (fun t h1 h2 => (congrFun (Eq.refl (F 17)) t).trans (hRB t h1 h2))⟩) (hP) (hD) hS
def rm_X5_earned : Room := { frames := 0, cells := 0, slots := 0, locals := 0 }
set_option maxHeartbeats 4000000 in
set_option maxRecDepth 100000 in
theorem c_X5_earned (l : Launch) (dC : Nat → ClassId) (dI : Nat → Nat → Nat) (cI cZ cJ : ClassId) (h : Nat → Nat) (F : Nat → Nat → Int32) (G : Nat → Int64) (V : Nat → Int32) (n : Nat) (hV2 : V 2 = nI n) (bV2 : n ≤ 40) (nw : Nat) (hV3 : V 3 = nI nw) (bV3 : nw ≤ 23) (un : Nat) (hV4 : V 4 = nI un) (bV4 : un ≤ 200) (d : Nat) (hV6 : V 6 = nI d) (bV6 : d ≤ 20) (wm : Nat) (hV7 : V 7 = nI wm) (bV7 : wm ≤ 1) (pf : Nat) (hV10 : V 10 = nI pf) (bV10 : pf ≤ 24) (sh : Nat) (hV11 : V 11 = nI sh) (bV11 : sh ≤ 12) (So : Nat → Nat) (hSo : ∀ i, i < 40 → F 3 i = nI (So i)) (bSo : ∀ i, i < 40 → So i ≤ 90) (Lm : Nat → Nat) (hLm : ∀ i, i < 4 → F 4 i = nI (Lm i)) (bLm : ∀ i, i < 4 → Lm i ≤ 10000) (Hh : Nat → Nat) (hHh : ∀ i, i < 24 → F 7 i = nI (Hh i)) (bHh : ∀ i, i < 24 → Hh i ≤ 9) (Wd : Nat → Nat) (hWd : ∀ i, i < 24 → F 8 i = nI (Wd i)) (bWd : ∀ i, i < 24 → Wd i ≤ 99) (Pr : Nat → Nat) (hPr : ∀ i, i < 24 → F 9 i = nI (Pr i)) (bPr : ∀ i, i < 24 → Pr i ≤ 999) (X : Nat → Nat) (hX : ∀ i, i < n → F 1 i = nI (X i)) (bX : ∀ i, i < n → X i ≤ 14) (Y : Nat → Nat) (hY : ∀ i, i < n → F 2 i = nI (Y i)) (bY : ∀ i, i < n → Y i ≤ 14)   (ks am : Nat) (hV8 : V 8 = nI am - 1) (bam : am ≤ 41) (hks : am - 1 = ks) (SX SY Kc Kp : Nat → Int32) (er : Int32) (rb : Nat → Bool) (hGP : GP n X Y) (hSX : ∀ i, i < 24 → F 5 i = SX i) (hSY : ∀ i, i < 24 → F 6 i = SY i) (hKc : ∀ i, i < ks → F 13 i = Kc i) (hKp : ∀ i, i < 4 → F 15 i = Kp i) (hE : V 5 = er) (hRB : ∀ t, pf ≤ t → t < 24 → F 17 t = bI (rb t)) : CtI l (dC, dI) vwCl (tys3 cI cZ cJ) yX5_earned wsX5_earned rm_X5_earned [.ref (h 0)] (wM cI cZ cJ h F G V) (S := (Nat → Nat → Int32) × (Nat → Int64) × (Nat → Int32)) (fun r u => (r = er) ∧ VM n d ks nw un wm pf So Hh Wd Lm Pr X Y SX SY Kc Kp er rb u.1 u.2.2) (fun u => wM cI cZ cJ h u.1 u.2.1 u.2.2) 0 0 := by
  refine ct_I (cc := cX5_earned) (maxL := 1) (ty := .int) (own := RX5) (by decide) rfl rfl (Nat.le_of_ble_eq_true rfl) (lv := [(0, .ref (h 0))]) rfl ?_
  intro p e s m args below meth c A Q ls fx hK hP hD hA hl hret
  obtain ⟨hx, hb, hml, hown, hts⟩ := id fx
  have hS : va_S A s.heap s.heap [] := va_S.rf
  have hw0 := hts (.fieldLink RX5 1 "MirrorTowerModel" "thrown" "I") (by decide +kernel)
  have hin_X5 : ∀ w ∈ u_ws RX5 TX5 33, w ∈ wsX5_earned := by decide +kernel
  have hw2 := hts (.fieldLink RX5 175 "MirrorTowerModel" "earned" "I") (by decide +kernel)
  obtain ⟨H, hH⟩ : ∃ H, H = s.heap := ⟨_, rfl⟩
  rw [← hH] at hP ⊢
  have hS : va_S A s.heap H [] := by rw [hH]; exact hS
  generalize ([] : List Loc) = locs at hS ⊢
  refine lv_aload_n hx hb dX5_earned_0 rfl (lv_at hl 0 rfl) ?_
  refine lv_iconst (v := 0) hx hb dX5_earned_1 (by decide) ?_
  refine va_put (D := (dC, dI)) (ci := 5) (v := .int 0) (ty := .int) (C := RX5) (T := TX5) (N := 33) hx hb hts hin_X5 tyX5 tyX5_ok nmX5 hown hK hP hD hS 0 rfl rfl 0 (by decide) hw0 (fun _ h9 => h9) rfl (by decide +kernel) rfl rfl (Nat.le_of_ble_eq_true rfl) dX5_earned_2 (fun H locs hP hD hS => ?_)
  have hP : va_P (dC, dI) vwCl (wM cI cZ cJ h F G (va_up V 0 0)) H := hP
  have hD : va_D A (wM cI cZ cJ h F G (va_up V 0 0)) := hD
  refine lv_aload_n hx hb dX5_earned_5 rfl (lv_at hl 0 rfl) ?_
  refine va_get (D := (dC, dI)) (ci := 5) (v := .int (V 5)) (C := RX5) (T := TX5) (N := 33) hx hb hts hin_X5 hown hK hP 0 rfl rfl 5 (by decide) hw2 (fun _ h9 => h9) rfl dX5_earned_6 ?_
  exact hret (V 5) (F, G, va_up V 0 0) H locs 9 ls rfl dX5_earned_9 (by
                refine ⟨?_, ?_⟩
                · (try dsimp only)
                  first | done | exact hE
                · (try dsimp only)
                  exact ⟨⟨hV2, by omega⟩, ⟨hV3, by omega⟩, ⟨hV4, by omega⟩, ⟨hV6, by omega⟩, ⟨hV7, by omega⟩, ⟨hV10, by omega⟩, ⟨sh, hV11, by omega⟩, ⟨hSo, bSo⟩, ⟨hLm, bLm⟩, ⟨hHh, bHh⟩, ⟨hWd, bWd⟩, ⟨hPr, bPr⟩, ⟨hX, bX⟩, ⟨hY, bY⟩, ⟨am, hV8, by omega, by omega⟩, hGP, (fun i hi => (congrFun (Eq.refl (F 5)) i).trans (hSX i hi)), (fun i hi => (congrFun (Eq.refl (F 6)) i).trans (hSY i hi)), (fun i hi => (congrFun (Eq.refl (F 13)) i).trans (hKc i hi)), (fun i hi => (congrFun (Eq.refl (F 15)) i).trans (hKp i hi)), ((show (va_up V 0 0) 5 = V 5 from rfl)).trans hE, (fun t h1 h2 => (congrFun (Eq.refl (F 17)) t).trans (hRB t h1 h2))⟩) (hP) (hD) hS
def rm_X5_trouble : Room := { frames := 0, cells := 0, slots := 0, locals := 0 }
set_option maxHeartbeats 4000000 in
set_option maxRecDepth 100000 in
theorem c_X5_trouble (l : Launch) (dC : Nat → ClassId) (dI : Nat → Nat → Nat) (cI cZ cJ : ClassId) (h : Nat → Nat) (F : Nat → Nat → Int32) (G : Nat → Int64) (V : Nat → Int32) (n : Nat) (hV2 : V 2 = nI n) (bV2 : n ≤ 40) (nw : Nat) (hV3 : V 3 = nI nw) (bV3 : nw ≤ 23) (un : Nat) (hV4 : V 4 = nI un) (bV4 : un ≤ 200) (d : Nat) (hV6 : V 6 = nI d) (bV6 : d ≤ 20) (wm : Nat) (hV7 : V 7 = nI wm) (bV7 : wm ≤ 1) (pf : Nat) (hV10 : V 10 = nI pf) (bV10 : pf ≤ 24) (sh : Nat) (hV11 : V 11 = nI sh) (bV11 : sh ≤ 12) (So : Nat → Nat) (hSo : ∀ i, i < 40 → F 3 i = nI (So i)) (bSo : ∀ i, i < 40 → So i ≤ 90) (Lm : Nat → Nat) (hLm : ∀ i, i < 4 → F 4 i = nI (Lm i)) (bLm : ∀ i, i < 4 → Lm i ≤ 10000) (Hh : Nat → Nat) (hHh : ∀ i, i < 24 → F 7 i = nI (Hh i)) (bHh : ∀ i, i < 24 → Hh i ≤ 9) (Wd : Nat → Nat) (hWd : ∀ i, i < 24 → F 8 i = nI (Wd i)) (bWd : ∀ i, i < 24 → Wd i ≤ 99) (Pr : Nat → Nat) (hPr : ∀ i, i < 24 → F 9 i = nI (Pr i)) (bPr : ∀ i, i < 24 → Pr i ≤ 999) (X : Nat → Nat) (hX : ∀ i, i < n → F 1 i = nI (X i)) (bX : ∀ i, i < n → X i ≤ 14) (Y : Nat → Nat) (hY : ∀ i, i < n → F 2 i = nI (Y i)) (bY : ∀ i, i < n → Y i ≤ 14)   (ks am : Nat) (hV8 : V 8 = nI am - 1) (bam : am ≤ 41) (hks : am - 1 = ks) (SX SY Kc Kp : Nat → Int32) (er : Int32) (rb : Nat → Bool) (hGP : GP n X Y) (hSX : ∀ i, i < 24 → F 5 i = SX i) (hSY : ∀ i, i < 24 → F 6 i = SY i) (hKc : ∀ i, i < ks → F 13 i = Kc i) (hKp : ∀ i, i < 4 → F 15 i = Kp i) (hE : V 5 = er) (hRB : ∀ t, pf ≤ t → t < 24 → F 17 t = bI (rb t)) : CtI l (dC, dI) vwCl (tys3 cI cZ cJ) yX5_trouble wsX5_trouble rm_X5_trouble [.ref (h 0)] (wM cI cZ cJ h F G V) (S := (Nat → Nat → Int32) × (Nat → Int64) × (Nat → Int32)) (fun r u => (True) ∧ VM n d ks nw un wm pf So Hh Wd Lm Pr X Y SX SY Kc Kp er rb u.1 u.2.2) (fun u => wM cI cZ cJ h u.1 u.2.1 u.2.2) 0 0 := by
  refine ct_I (cc := cX5_trouble) (maxL := 1) (ty := .int) (own := RX5) (by decide) rfl rfl (Nat.le_of_ble_eq_true rfl) (lv := [(0, .ref (h 0))]) rfl ?_
  intro p e s m args below meth c A Q ls fx hK hP hD hA hl hret
  obtain ⟨hx, hb, hml, hown, hts⟩ := id fx
  have hS : va_S A s.heap s.heap [] := va_S.rf
  have hw0 := hts (.fieldLink RX5 1 "MirrorTowerModel" "thrown" "I") (by decide +kernel)
  have hin_X5 : ∀ w ∈ u_ws RX5 TX5 33, w ∈ wsX5_trouble := by decide +kernel
  have hw2 := hts (.fieldLink RX5 7 "MirrorTowerModel" "trouble" "I") (by decide +kernel)
  obtain ⟨H, hH⟩ : ∃ H, H = s.heap := ⟨_, rfl⟩
  rw [← hH] at hP ⊢
  have hS : va_S A s.heap H [] := by rw [hH]; exact hS
  generalize ([] : List Loc) = locs at hS ⊢
  refine lv_aload_n hx hb dX5_trouble_0 rfl (lv_at hl 0 rfl) ?_
  refine lv_iconst (v := 0) hx hb dX5_trouble_1 (by decide) ?_
  refine va_put (D := (dC, dI)) (ci := 5) (v := .int 0) (ty := .int) (C := RX5) (T := TX5) (N := 33) hx hb hts hin_X5 tyX5 tyX5_ok nmX5 hown hK hP hD hS 0 rfl rfl 0 (by decide) hw0 (fun _ h9 => h9) rfl (by decide +kernel) rfl rfl (Nat.le_of_ble_eq_true rfl) dX5_trouble_2 (fun H locs hP hD hS => ?_)
  have hP : va_P (dC, dI) vwCl (wM cI cZ cJ h F G (va_up V 0 0)) H := hP
  have hD : va_D A (wM cI cZ cJ h F G (va_up V 0 0)) := hD
  refine lv_aload_n hx hb dX5_trouble_5 rfl (lv_at hl 0 rfl) ?_
  refine va_get (D := (dC, dI)) (ci := 5) (v := .int (V 1)) (C := RX5) (T := TX5) (N := 33) hx hb hts hin_X5 hown hK hP 0 rfl rfl 1 (by decide) hw2 (fun _ h9 => h9) rfl dX5_trouble_6 ?_
  exact hret (V 1) (F, G, va_up V 0 0) H locs 9 ls rfl dX5_trouble_9 (by
                refine ⟨?_, ?_⟩
                · (try dsimp only)
                  first | done | exact trivial
                · (try dsimp only)
                  exact ⟨⟨hV2, by omega⟩, ⟨hV3, by omega⟩, ⟨hV4, by omega⟩, ⟨hV6, by omega⟩, ⟨hV7, by omega⟩, ⟨hV10, by omega⟩, ⟨sh, hV11, by omega⟩, ⟨hSo, bSo⟩, ⟨hLm, bLm⟩, ⟨hHh, bHh⟩, ⟨hWd, bWd⟩, ⟨hPr, bPr⟩, ⟨hX, bX⟩, ⟨hY, bY⟩, ⟨am, hV8, by omega, by omega⟩, hGP, (fun i hi => (congrFun (Eq.refl (F 5)) i).trans (hSX i hi)), (fun i hi => (congrFun (Eq.refl (F 6)) i).trans (hSY i hi)), (fun i hi => (congrFun (Eq.refl (F 13)) i).trans (hKc i hi)), (fun i hi => (congrFun (Eq.refl (F 15)) i).trans (hKp i hi)), ((show (va_up V 0 0) 5 = V 5 from rfl)).trans hE, (fun t h1 h2 => (congrFun (Eq.refl (F 17)) t).trans (hRB t h1 h2))⟩) (hP) (hD) hS
def rm_X5_forget : Room := { frames := 0, cells := 0, slots := 0, locals := 0 }
set_option maxHeartbeats 4000000 in
set_option maxRecDepth 100000 in
theorem c_X5_forget (l : Launch) (dC : Nat → ClassId) (dI : Nat → Nat → Nat) (cI cZ cJ : ClassId) (h : Nat → Nat) (F : Nat → Nat → Int32) (G : Nat → Int64) (V : Nat → Int32) (n : Nat) (hV2 : V 2 = nI n) (bV2 : n ≤ 40) (nw : Nat) (hV3 : V 3 = nI nw) (bV3 : nw ≤ 23) (un : Nat) (hV4 : V 4 = nI un) (bV4 : un ≤ 200) (d : Nat) (hV6 : V 6 = nI d) (bV6 : d ≤ 20) (wm : Nat) (hV7 : V 7 = nI wm) (bV7 : wm ≤ 1) (pf : Nat) (hV10 : V 10 = nI pf) (bV10 : pf ≤ 24) (sh : Nat) (hV11 : V 11 = nI sh) (bV11 : sh ≤ 12) (So : Nat → Nat) (hSo : ∀ i, i < 40 → F 3 i = nI (So i)) (bSo : ∀ i, i < 40 → So i ≤ 90) (Lm : Nat → Nat) (hLm : ∀ i, i < 4 → F 4 i = nI (Lm i)) (bLm : ∀ i, i < 4 → Lm i ≤ 10000) (Hh : Nat → Nat) (hHh : ∀ i, i < 24 → F 7 i = nI (Hh i)) (bHh : ∀ i, i < 24 → Hh i ≤ 9) (Wd : Nat → Nat) (hWd : ∀ i, i < 24 → F 8 i = nI (Wd i)) (bWd : ∀ i, i < 24 → Wd i ≤ 99) (Pr : Nat → Nat) (hPr : ∀ i, i < 24 → F 9 i = nI (Pr i)) (bPr : ∀ i, i < 24 → Pr i ≤ 999) (X : Nat → Nat) (hX : ∀ i, i < n → F 1 i = nI (X i)) (bX : ∀ i, i < n → X i ≤ 14) (Y : Nat → Nat) (hY : ∀ i, i < n → F 2 i = nI (Y i)) (bY : ∀ i, i < n → Y i ≤ 14)   (ks am : Nat) (hV8 : V 8 = nI am - 1) (bam : am ≤ 41) (hks : am - 1 = ks) (SX SY Kc Kp : Nat → Int32) (er : Int32) (rb : Nat → Bool) (hGP : GP n X Y) (hSX : ∀ i, i < 24 → F 5 i = SX i) (hSY : ∀ i, i < 24 → F 6 i = SY i) (hKc : ∀ i, i < ks → F 13 i = Kc i) (hKp : ∀ i, i < 4 → F 15 i = Kp i) (hE : V 5 = er) (hRB : ∀ t, pf ≤ t → t < 24 → F 17 t = bI (rb t)) : CtI l (dC, dI) vwCl (tys3 cI cZ cJ) yX5_forget wsX5_forget rm_X5_forget [.ref (h 0)] (wM cI cZ cJ h F G V) (S := (Nat → Nat → Int32) × (Nat → Int64) × (Nat → Int32)) (fun r u => (True) ∧ VM n d ks nw un wm pf So Hh Wd Lm Pr X Y SX SY Kc Kp er rb u.1 u.2.2) (fun u => wM cI cZ cJ h u.1 u.2.1 u.2.2) 0 0 := by
  refine ct_I (cc := cX5_forget) (maxL := 2) (ty := .int) (own := RX5) (by decide) rfl rfl (Nat.le_of_ble_eq_true rfl) (lv := [(0, .ref (h 0))]) rfl ?_
  intro p e s m args below meth c A Q ls fx hK hP hD hA hl hret
  obtain ⟨hx, hb, hml, hown, hts⟩ := id fx
  have hS : va_S A s.heap s.heap [] := va_S.rf
  have hw0 := hts (.fieldLink RX5 1 "MirrorTowerModel" "thrown" "I") (by decide +kernel)
  have hin_X5 : ∀ w ∈ u_ws RX5 TX5 33, w ∈ wsX5_forget := by decide +kernel
  have hw2 := hts (.fieldLink RX5 186 "MirrorTowerModel" "shots" "I") (by decide +kernel)
  obtain ⟨H, hH⟩ : ∃ H, H = s.heap := ⟨_, rfl⟩
  rw [← hH] at hP ⊢
  have hS : va_S A s.heap H [] := by rw [hH]; exact hS
  generalize ([] : List Loc) = locs at hS ⊢
  refine lv_aload_n hx hb dX5_forget_0 rfl (lv_at hl 0 rfl) ?_
  refine lv_iconst (v := 0) hx hb dX5_forget_1 (by decide) ?_
  refine va_put (D := (dC, dI)) (ci := 5) (v := .int 0) (ty := .int) (C := RX5) (T := TX5) (N := 33) hx hb hts hin_X5 tyX5 tyX5_ok nmX5 hown hK hP hD hS 0 rfl rfl 0 (by decide) hw0 (fun _ h9 => h9) rfl (by decide +kernel) rfl rfl (Nat.le_of_ble_eq_true rfl) dX5_forget_2 (fun H locs hP hD hS => ?_)
  have hP : va_P (dC, dI) vwCl (wM cI cZ cJ h F G (va_up V 0 0)) H := hP
  have hD : va_D A (wM cI cZ cJ h F G (va_up V 0 0)) := hD
  refine lv_aload_n hx hb dX5_forget_5 rfl (lv_at hl 0 rfl) ?_
  refine va_get (D := (dC, dI)) (ci := 5) (v := .int (V 11)) (C := RX5) (T := TX5) (N := 33) hx hb hts hin_X5 hown hK hP 0 rfl rfl 31 (by decide) hw2 (fun _ h9 => h9) rfl dX5_forget_6 ?_
  refine lv_topi (fun x_1 ex_1 => ?_)
  obtain rfl : x_1 = nI sh := ex_1.trans (hV11)
  refine lv_istore_n (lv' := [(1, .int (nI sh)), (0, .ref (h 0))]) hx hb dX5_forget_9 rfl hl (by decide) rfl (fun ls hl => ?_)
  refine lv_aload_n hx hb dX5_forget_10 rfl (lv_at hl 1 rfl) ?_
  refine lv_iconst (v := 0) hx hb dX5_forget_11 (by decide) ?_
  refine va_put (D := (dC, dI)) (ci := 5) (v := .int 0) (ty := .int) (C := RX5) (T := TX5) (N := 33) hx hb hts hin_X5 tyX5 tyX5_ok nmX5 hown hK hP hD hS 0 rfl rfl 31 (by decide) hw2 (fun _ h9 => h9) rfl (by decide +kernel) rfl rfl (Nat.le_of_ble_eq_true rfl) dX5_forget_12 (fun H locs hP hD hS => ?_)
  have hP : va_P (dC, dI) vwCl (wM cI cZ cJ h F G (va_up (va_up V 0 0) 11 0)) H := hP
  have hD : va_D A (wM cI cZ cJ h F G (va_up (va_up V 0 0) 11 0)) := hD
  refine lv_iload_n hx hb dX5_forget_15 rfl (lv_at hl 0 rfl) ?_
  exact hret (nI sh) (F, G, va_up (va_up V 0 0) 11 0) H locs 16 ls rfl dX5_forget_16 (by
                refine ⟨?_, ?_⟩
                · (try dsimp only)
                  first | done | exact trivial
                · (try dsimp only)
                  exact ⟨⟨hV2, by omega⟩, ⟨hV3, by omega⟩, ⟨hV4, by omega⟩, ⟨hV6, by omega⟩, ⟨hV7, by omega⟩, ⟨hV10, by omega⟩, ⟨0, rfl, by omega⟩, ⟨hSo, bSo⟩, ⟨hLm, bLm⟩, ⟨hHh, bHh⟩, ⟨hWd, bWd⟩, ⟨hPr, bPr⟩, ⟨hX, bX⟩, ⟨hY, bY⟩, ⟨am, hV8, by omega, by omega⟩, hGP, (fun i hi => (congrFun (Eq.refl (F 5)) i).trans (hSX i hi)), (fun i hi => (congrFun (Eq.refl (F 6)) i).trans (hSY i hi)), (fun i hi => (congrFun (Eq.refl (F 13)) i).trans (hKc i hi)), (fun i hi => (congrFun (Eq.refl (F 15)) i).trans (hKp i hi)), ((show (va_up (va_up V 0 0) 11 0) 5 = V 5 from rfl)).trans hE, (fun t h1 h2 => (congrFun (Eq.refl (F 17)) t).trans (hRB t h1 h2))⟩) (hP) (hD) hS
def rm_X5_agree : Room := { frames := 3, cells := 0, slots := 0, locals := 71 }
set_option maxHeartbeats 4000000 in
set_option maxRecDepth 100000 in
theorem c_X5_agree (l : Launch) (dC : Nat → ClassId) (dI : Nat → Nat → Nat) (cI cZ cJ : ClassId) (h : Nat → Nat) (F : Nat → Nat → Int32) (G : Nat → Int64) (V : Nat → Int32) (n : Nat) (hV2 : V 2 = nI n) (bV2 : n ≤ 40) (nw : Nat) (hV3 : V 3 = nI nw) (bV3 : nw ≤ 23) (un : Nat) (hV4 : V 4 = nI un) (bV4 : un ≤ 200) (d : Nat) (hV6 : V 6 = nI d) (bV6 : d ≤ 20) (wm : Nat) (hV7 : V 7 = nI wm) (bV7 : wm ≤ 1) (pf : Nat) (hV10 : V 10 = nI pf) (bV10 : pf ≤ 24) (sh : Nat) (hV11 : V 11 = nI sh) (bV11 : sh ≤ 12) (So : Nat → Nat) (hSo : ∀ i, i < 40 → F 3 i = nI (So i)) (bSo : ∀ i, i < 40 → So i ≤ 90) (Lm : Nat → Nat) (hLm : ∀ i, i < 4 → F 4 i = nI (Lm i)) (bLm : ∀ i, i < 4 → Lm i ≤ 10000) (Hh : Nat → Nat) (hHh : ∀ i, i < 24 → F 7 i = nI (Hh i)) (bHh : ∀ i, i < 24 → Hh i ≤ 9) (Wd : Nat → Nat) (hWd : ∀ i, i < 24 → F 8 i = nI (Wd i)) (bWd : ∀ i, i < 24 → Wd i ≤ 99) (Pr : Nat → Nat) (hPr : ∀ i, i < 24 → F 9 i = nI (Pr i)) (bPr : ∀ i, i < 24 → Pr i ≤ 999) (X : Nat → Nat) (hX : ∀ i, i < n → F 1 i = nI (X i)) (bX : ∀ i, i < n → X i ≤ 14) (Y : Nat → Nat) (hY : ∀ i, i < n → F 2 i = nI (Y i)) (bY : ∀ i, i < n → Y i ≤ 14)   (ks am : Nat) (hV8 : V 8 = nI am - 1) (bam : am ≤ 41) (hks : am - 1 = ks) (SX SY Kc Kp : Nat → Int32) (er : Int32) (rb : Nat → Bool) (hGP : GP n X Y) (hSX : ∀ i, i < 24 → F 5 i = SX i) (hSY : ∀ i, i < 24 → F 6 i = SY i) (hKc : ∀ i, i < ks → F 13 i = Kc i) (hKp : ∀ i, i < 4 → F 15 i = Kp i) (hE : V 5 = er) (hRB : ∀ t, pf ≤ t → t < 24 → F 17 t = bI (rb t)) : CtI l (dC, dI) vwCl (tys3 cI cZ cJ) yX5_agree wsX5_agree rm_X5_agree [.ref (h 0)] (wM cI cZ cJ h F G V) (S := (Nat → Nat → Int32) × (Nat → Int64) × (Nat → Int32)) (fun r u => (True) ∧ VM n d ks nw un wm pf So Hh Wd Lm Pr X Y SX SY Kc Kp er rb u.1 u.2.2) (fun u => wM cI cZ cJ h u.1 u.2.1 u.2.2) 0 0 := by
  refine ct_I (cc := cX5_agree) (maxL := 1) (ty := .int) (own := RX5) (by decide) rfl rfl (Nat.le_of_ble_eq_true rfl) (lv := [(0, .ref (h 0))]) rfl ?_
  intro p e s m args below meth c A Q ls fx hK hP hD hA hl hret
  obtain ⟨hx, hb, hml, hown, hts⟩ := id fx
  have hS : va_S A s.heap s.heap [] := va_S.rf
  have hw0 := hts (.fieldLink RX5 1 "MirrorTowerModel" "thrown" "I") (by decide +kernel)
  have hin_X5 : ∀ w ∈ u_ws RX5 TX5 33, w ∈ wsX5_agree := by decide +kernel
  obtain ⟨H, hH⟩ : ∃ H, H = s.heap := ⟨_, rfl⟩
  rw [← hH] at hP ⊢
  have hS : va_S A s.heap H [] := by rw [hH]; exact hS
  generalize ([] : List Loc) = locs at hS ⊢
  refine lv_aload_n hx hb dX5_agree_0 rfl (lv_at hl 0 rfl) ?_
  refine lv_iconst (v := 0) hx hb dX5_agree_1 (by decide) ?_
  refine va_put (D := (dC, dI)) (ci := 5) (v := .int 0) (ty := .int) (C := RX5) (T := TX5) (N := 33) hx hb hts hin_X5 tyX5 tyX5_ok nmX5 hown hK hP hD hS 0 rfl rfl 0 (by decide) hw0 (fun _ h9 => h9) rfl (by decide +kernel) rfl rfl (Nat.le_of_ble_eq_true rfl) dX5_agree_2 (fun H locs hP hD hS => ?_)
  have hP : va_P (dC, dI) vwCl (wM cI cZ cJ h F G (va_up V 0 0)) H := hP
  have hD : va_D A (wM cI cZ cJ h F G (va_up V 0 0)) := hD
  refine lv_aload_n hx hb dX5_agree_5 rfl (lv_at hl 0 rfl) ?_
  refine cw_Vi (As := []) (rest := []) (c_X5_agreeing l dC dI cI cZ cJ h F G (va_up V 0 0) n hV2 (by omega) sh hV11 (by omega)) fx (cwV 0 hts gX5_agree_X5_agreeing rfl rfl rfl (by decide +kernel) ⟨Nat.le_of_ble_eq_true rfl, Nat.le_of_ble_eq_true rfl⟩) hK hP hD hS hA 0 rfl rfl rfl rfl hl.1 rfl (Nat.le_of_ble_eq_true rfl) dX5_agree_6 ⟨Nat.le_of_ble_eq_true rfl, Nat.le_of_ble_eq_true rfl⟩ (fun r_1 u_2 H locs hw_3 hP hD hS => ?_)
  obtain ⟨F_4, rfl⟩ : ∃ z, z = u_2 := ⟨_, rfl⟩
  have hf_5 : ∀ j, j ∉ ([21] : List Nat) → F_4 j = F j := hw_3.2.1
  have hP : va_P (dC, dI) vwCl (wM cI cZ cJ h F_4 G (va_up V 0 0)) H := hP
  have hD : va_D A (wM cI cZ cJ h F_4 G (va_up V 0 0)) := hD
  have hN_6 : ∀ i, i < 40 → F_4 3 i = nI (So i) := by rw [hf_5 3 (by decide)]; exact hSo
  have hN_7 : ∀ i, i < 4 → F_4 4 i = nI (Lm i) := by rw [hf_5 4 (by decide)]; exact hLm
  have hN_8 : ∀ i, i < 24 → F_4 7 i = nI (Hh i) := by rw [hf_5 7 (by decide)]; exact hHh
  have hN_9 : ∀ i, i < 24 → F_4 8 i = nI (Wd i) := by rw [hf_5 8 (by decide)]; exact hWd
  have hN_10 : ∀ i, i < 24 → F_4 9 i = nI (Pr i) := by rw [hf_5 9 (by decide)]; exact hPr
  have hN_11 : ∀ i, i < n → F_4 1 i = nI (X i) := by rw [hf_5 1 (by decide)]; exact hX
  have hN_12 : ∀ i, i < n → F_4 2 i = nI (Y i) := by rw [hf_5 2 (by decide)]; exact hY
  exact hret r_1 (F_4, G, va_up V 0 0) H locs 9 ls rfl dX5_agree_9 (by
                refine ⟨?_, ?_⟩
                · (try dsimp only)
                  first | done | exact trivial
                · (try dsimp only)
                  exact ⟨⟨hV2, by omega⟩, ⟨hV3, by omega⟩, ⟨hV4, by omega⟩, ⟨hV6, by omega⟩, ⟨hV7, by omega⟩, ⟨hV10, by omega⟩, ⟨sh, hV11, by omega⟩, ⟨hN_6, bSo⟩, ⟨hN_7, bLm⟩, ⟨hN_8, bHh⟩, ⟨hN_9, bWd⟩, ⟨hN_10, bPr⟩, ⟨hN_11, bX⟩, ⟨hN_12, bY⟩, ⟨am, hV8, by omega, by omega⟩, hGP, (fun i hi => (congrFun (hf_5 5 (by decide)) i).trans (hSX i hi)), (fun i hi => (congrFun (hf_5 6 (by decide)) i).trans (hSY i hi)), (fun i hi => (congrFun (hf_5 13 (by decide)) i).trans (hKc i hi)), (fun i hi => (congrFun (hf_5 15 (by decide)) i).trans (hKp i hi)), ((show (va_up V 0 0) 5 = V 5 from rfl)).trans hE, (fun t h1 h2 => (congrFun (hf_5 17 (by decide)) t).trans (hRB t h1 h2))⟩) (hP) (hD) hS
