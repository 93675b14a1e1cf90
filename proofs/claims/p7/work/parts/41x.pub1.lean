def rm_X4_sun : Room := { frames := 2, cells := 0, slots := 0, locals := 42 }
set_option maxHeartbeats 4000000 in
set_option maxRecDepth 100000 in
theorem c_X4_sun (l : Launch) (dC : Nat → ClassId) (dI : Nat → Nat → Nat) (cI cZ cJ : ClassId) (h : Nat → Nat) (F : Nat → Nat → Int32) (V : Nat → Int32) (n : Nat) (hV1 : V 1 = nI n) (bV1 : n ≤ 40) (d : Nat) (hV2 : V 2 = nI d) (bV2 : d ≤ 20) (ks : Nat) (hV3 : V 3 = nI ks) (bV3 : ks ≤ 40) (nw : Nat) (hV4 : V 4 = nI nw) (bV4 : nw ≤ 23) (un : Nat) (hV5 : V 5 = nI un) (bV5 : un ≤ 200) (wm : Nat) (hV6 : V 6 = nI wm) (bV6 : wm ≤ 1) (pf : Nat) (hV9 : V 9 = nI pf) (bV9 : pf ≤ 24) (sh : Nat) (hV11 : V 11 = nI sh) (bV11 : sh ≤ 12) (So : Nat → Nat) (hSo : ∀ i, i < 40 → F 9 i = nI (So i)) (bSo : ∀ i, i < 40 → So i ≤ 90) (Hh : Nat → Nat) (hHh : ∀ i, i < 24 → F 12 i = nI (Hh i)) (bHh : ∀ i, i < 24 → Hh i ≤ 9) (Wd : Nat → Nat) (hWd : ∀ i, i < 24 → F 13 i = nI (Wd i)) (bWd : ∀ i, i < 24 → Wd i ≤ 99) (Lm : Nat → Nat) (hLm : ∀ i, i < 4 → F 14 i = nI (Lm i)) (bLm : ∀ i, i < 4 → Lm i ≤ 10000) (Pr : Nat → Nat) (hPr : ∀ i, i < 24 → F 23 i = nI (Pr i)) (bPr : ∀ i, i < 24 → Pr i ≤ 999) (p0 p1 p2 p3 : Int32)  (X Y : Nat → Nat) (SX SY Kc Kp : Nat → Int32) (er : Int32) (rb : Nat → Bool) (hkn : ks ≤ n) (hGP : GP n X Y) (hSU : SUN SX SY) (hGC : GC n X Y F) (hF10 : ∀ i, i < 24 → F 10 i = SX i) (hF11 : ∀ i, i < 24 → F 11 i = SY i) (hKC : KC ks Kc Kp F) (hE : V 7 = er) (hPL : PLC pf rb V) : CtI l (dC, dI) vwCl (tys3 cI cZ cJ) yX4_sun wsX4_sun rm_X4_sun [.ref (h 0), .int p0, .int p1, .int p2, .int p3] (wC cI cZ h F V) (S := (Nat → Nat) × (Nat → Nat → Int32) × (Nat → Int32)) (fun r u => (r = bI (okS p0 p1 p2 p3)) ∧ u.1 0 = h 0 ∧ VC n d ks nw un wm pf So (bif okS p0 p1 p2 p3 then nup Hh p0.toNatClampNeg p3.toNatClampNeg else Hh) Wd Lm Pr X Y (bif okS p0 p1 p2 p3 then upd SX p0.toNatClampNeg p1 else SX) (bif okS p0 p1 p2 p3 then upd SY p0.toNatClampNeg p2 else SY) Kc Kp er rb u.2.1 u.2.2) (fun u => wC cI cZ u.1 u.2.1 u.2.2) 0 0 := by
  refine ct_I (cc := cX4_sun) (maxL := 6) (ty := .boolean) (own := RX4) (by decide) rfl rfl (Nat.le_of_ble_eq_true rfl) (lv := [(0, .ref (h 0)), (1, .int p0), (2, .int p1), (3, .int p2), (4, .int p3)]) rfl ?_
  intro p e s m args below meth c A Q ls fx hK hP hD hA hl hret
  obtain ⟨hx, hb, hml, hown, hts⟩ := id fx
  have hS : va_S A s.heap s.heap [] := va_S.rf
  have hw0 := hts (.fieldLink RX4 10 "MirrorTower" "field" "LMirrorTower$Field;") (by decide +kernel)
  have hin_X4 : ∀ w ∈ u_ws RX4 TX4 5, w ∈ wsX4_sun := by decide +kernel
  obtain ⟨H, hH⟩ : ∃ H, H = s.heap := ⟨_, rfl⟩
  rw [← hH] at hP ⊢
  have hS : va_S A s.heap H [] := by rw [hH]; exact hS
  generalize ([] : List Loc) = locs at hS ⊢
  refine lv_iload_n hx hb dX4_sun_0 rfl (lv_at hl 2 rfl) ?_
  refine lv_bipush (v := (-2)) hx hb dX4_sun_1 (by decide) ?_
  refine lv_iconst (v := 2) hx hb dX4_sun_3 (by decide) ?_
  refine cw_Si (As := [.int p1, .int (-2), .int 2]) (rest := []) (c_X4_isWithin l dC dI cI cZ cJ (wC cI cZ h F V) p1 (-2) 2) fx (va_cwS 3 hts gX4_sun_X4_isWithin rfl rfl rfl (by decide +kernel) ⟨Nat.le_of_ble_eq_true rfl, Nat.le_of_ble_eq_true rfl⟩) hK hP hD hS hA rfl hl.1 rfl (Nat.le_of_ble_eq_true rfl) dX4_sun_4 ⟨Nat.le_of_ble_eq_true rfl, Nat.le_of_ble_eq_true rfl⟩ (fun r_1 u_2 H locs hw_3 hP hD hS => ?_)
  have hP : va_P (dC, dI) vwCl (wC cI cZ h F V) H := hP
  have hD : va_D A (wC cI cZ h F V) := hD
  have hw_3 : r_1 = bI (isW p1 (-2) 2) := hw_3
  refine lv_if_eq (tgt := 32) hx hb dX4_sun_7 (by decide) (fun c_4 => ?_) (fun c_4 => ?_)
  · have c_4 : isW p1 (-2) 2 = false := bI_f hw_3 c_4
    refine lv_iconst (v := 0) hx hb dX4_sun_32 (by decide) ?_
    refine lv_istore (lv' := [(5, .int 0), (0, .ref (h 0)), (1, .int p0), (2, .int p1), (3, .int p2), (4, .int p3)]) hx hb dX4_sun_33 hl (by decide) rfl (fun ls hl => ?_)
    refine lv_iload_n hx hb dX4_sun_35 rfl (lv_at hl 2 rfl) ?_
    refine cw_Si (As := [.int p0]) (rest := []) (c_X4_isHour l dC dI cI cZ cJ (wC cI cZ h F V) p0) fx (va_cwS 1 hts gX4_sun_X4_isHour rfl rfl rfl (by decide +kernel) ⟨Nat.le_of_ble_eq_true rfl, Nat.le_of_ble_eq_true rfl⟩) hK hP hD hS hA rfl hl.1 rfl (Nat.le_of_ble_eq_true rfl) dX4_sun_36 ⟨Nat.le_of_ble_eq_true rfl, Nat.le_of_ble_eq_true rfl⟩ (fun r_5 u_6 H locs hw_7 hP hD hS => ?_)
    have hP : va_P (dC, dI) vwCl (wC cI cZ h F V) H := hP
    have hD : va_D A (wC cI cZ h F V) := hD
    have hw_7 : r_5 = bI (isW p0 0 23) := hw_7
    refine lv_if_eq (tgt := 58) hx hb dX4_sun_39 (by decide) (fun c_8 => ?_) (fun c_8 => ?_)
    · have c_8 : isW p0 0 23 = false := bI_f hw_7 c_8
      refine lv_aload_n hx hb dX4_sun_58 rfl (lv_at hl 1 rfl) ?_
      refine lv_iconst (v := 2) hx hb dX4_sun_59 (by decide) ?_
      refine cw_Vi (As := [.int 2]) (rest := []) (c_X4_denied l dC dI cI cZ cJ h F V 2) fx (cwV 1 hts gX4_sun_X4_denied rfl rfl rfl (by decide +kernel) ⟨Nat.le_of_ble_eq_true rfl, Nat.le_of_ble_eq_true rfl⟩) hK hP hD hS hA 0 rfl rfl rfl rfl hl.1 rfl (Nat.le_of_ble_eq_true rfl) dX4_sun_60 ⟨Nat.le_of_ble_eq_true rfl, Nat.le_of_ble_eq_true rfl⟩ (fun r_9 u_10 H locs hw_11 hP hD hS => ?_)
      have hP : va_P (dC, dI) vwCl (wC cI cZ h F (va_up V 0 2)) H := hP
      have hD : va_D A (wC cI cZ h F (va_up V 0 2)) := hD
      obtain rfl : r_9 = 0 := hw_11
      exact hret 0 (h, F, va_up V 0 2) H locs 63 ls rfl dX4_sun_63 (by
                    have hc_ : okS p0 p1 p2 p3 = false := by simp [okS, c_4, c_8]
                    refine ⟨?_, rfl, ?_⟩
                    · (try simp only [hc_, cond_true, cond_false])
                      first | done | exact rfl
                    · (try simp only [hc_, cond_true, cond_false])
                      exact ⟨⟨hV1, by omega⟩, ⟨hV2, by omega⟩, ⟨hV3, by omega⟩, ⟨hV4, by omega⟩, ⟨hV5, by omega⟩, ⟨hV6, by omega⟩, ⟨hV9, by omega⟩, ⟨sh, hV11, by omega⟩, ⟨hSo, bSo⟩, ⟨hHh, bHh⟩, ⟨hWd, bWd⟩, ⟨hLm, bLm⟩, ⟨hPr, bPr⟩, by omega, hGP, hSU, GC_cong hGC (Eq.refl (F 5)) (Eq.refl (F 6)) (Eq.refl (F 7)) (Eq.refl (F 8)), (fun i hi => (congrFun (Eq.refl (F 10)) i).trans (hF10 i hi)), (fun i hi => (congrFun (Eq.refl (F 11)) i).trans (hF11 i hi)), KC_cong hKC (Eq.refl (F 19)) (Eq.refl (F 20)), ((show (va_up V 0 2) 7 = V 7 from rfl)).trans hE, PLC_cong hPL (show (va_up V 0 2) 8 = V 8 from rfl)⟩) (hP) (hD) hS
    · have c_8 : isW p0 0 23 = true := bI_t hw_7 c_8
      refine lv_iload hx hb dX4_sun_42 (lv_at hl 0 rfl) ?_
      refine lv_if_eq (tgt := 58) hx hb dX4_sun_44 (by decide) (fun c_12 => ?_) (fun c_12 => ?_)
      · refine lv_aload_n hx hb dX4_sun_58 rfl (lv_at hl 1 rfl) ?_
        refine lv_iconst (v := 2) hx hb dX4_sun_59 (by decide) ?_
        refine cw_Vi (As := [.int 2]) (rest := []) (c_X4_denied l dC dI cI cZ cJ h F V 2) fx (cwV 1 hts gX4_sun_X4_denied rfl rfl rfl (by decide +kernel) ⟨Nat.le_of_ble_eq_true rfl, Nat.le_of_ble_eq_true rfl⟩) hK hP hD hS hA 0 rfl rfl rfl rfl hl.1 rfl (Nat.le_of_ble_eq_true rfl) dX4_sun_60 ⟨Nat.le_of_ble_eq_true rfl, Nat.le_of_ble_eq_true rfl⟩ (fun r_13 u_14 H locs hw_15 hP hD hS => ?_)
        have hP : va_P (dC, dI) vwCl (wC cI cZ h F (va_up V 0 2)) H := hP
        have hD : va_D A (wC cI cZ h F (va_up V 0 2)) := hD
        obtain rfl : r_13 = 0 := hw_15
        exact hret 0 (h, F, va_up V 0 2) H locs 63 ls rfl dX4_sun_63 (by
                      have hc_ : okS p0 p1 p2 p3 = false := by simp [okS, c_4, c_8]
                      refine ⟨?_, rfl, ?_⟩
                      · (try simp only [hc_, cond_true, cond_false])
                        first | done | exact rfl
                      · (try simp only [hc_, cond_true, cond_false])
                        exact ⟨⟨hV1, by omega⟩, ⟨hV2, by omega⟩, ⟨hV3, by omega⟩, ⟨hV4, by omega⟩, ⟨hV5, by omega⟩, ⟨hV6, by omega⟩, ⟨hV9, by omega⟩, ⟨sh, hV11, by omega⟩, ⟨hSo, bSo⟩, ⟨hHh, bHh⟩, ⟨hWd, bWd⟩, ⟨hLm, bLm⟩, ⟨hPr, bPr⟩, by omega, hGP, hSU, GC_cong hGC (Eq.refl (F 5)) (Eq.refl (F 6)) (Eq.refl (F 7)) (Eq.refl (F 8)), (fun i hi => (congrFun (Eq.refl (F 10)) i).trans (hF10 i hi)), (fun i hi => (congrFun (Eq.refl (F 11)) i).trans (hF11 i hi)), KC_cong hKC (Eq.refl (F 19)) (Eq.refl (F 20)), ((show (va_up V 0 2) 7 = V 7 from rfl)).trans hE, PLC_cong hPL (show (va_up V 0 2) 8 = V 8 from rfl)⟩) (hP) (hD) hS
      · exact absurd c_12 (by decide)
  · have c_4 : isW p1 (-2) 2 = true := bI_t hw_3 c_4
    refine lv_iload_n hx hb dX4_sun_10 rfl (lv_at hl 3 rfl) ?_
    refine lv_bipush (v := (-2)) hx hb dX4_sun_11 (by decide) ?_
    refine lv_iconst (v := 2) hx hb dX4_sun_13 (by decide) ?_
    refine cw_Si (As := [.int p2, .int (-2), .int 2]) (rest := []) (c_X4_isWithin l dC dI cI cZ cJ (wC cI cZ h F V) p2 (-2) 2) fx (va_cwS 3 hts gX4_sun_X4_isWithin rfl rfl rfl (by decide +kernel) ⟨Nat.le_of_ble_eq_true rfl, Nat.le_of_ble_eq_true rfl⟩) hK hP hD hS hA rfl hl.1 rfl (Nat.le_of_ble_eq_true rfl) dX4_sun_14 ⟨Nat.le_of_ble_eq_true rfl, Nat.le_of_ble_eq_true rfl⟩ (fun r_16 u_17 H locs hw_18 hP hD hS => ?_)
    have hP : va_P (dC, dI) vwCl (wC cI cZ h F V) H := hP
    have hD : va_D A (wC cI cZ h F V) := hD
    have hw_18 : r_16 = bI (isW p2 (-2) 2) := hw_18
    refine lv_if_eq (tgt := 32) hx hb dX4_sun_17 (by decide) (fun c_19 => ?_) (fun c_19 => ?_)
    · have c_19 : isW p2 (-2) 2 = false := bI_f hw_18 c_19
      refine lv_iconst (v := 0) hx hb dX4_sun_32 (by decide) ?_
      refine lv_istore (lv' := [(5, .int 0), (0, .ref (h 0)), (1, .int p0), (2, .int p1), (3, .int p2), (4, .int p3)]) hx hb dX4_sun_33 hl (by decide) rfl (fun ls hl => ?_)
      refine lv_iload_n hx hb dX4_sun_35 rfl (lv_at hl 2 rfl) ?_
      refine cw_Si (As := [.int p0]) (rest := []) (c_X4_isHour l dC dI cI cZ cJ (wC cI cZ h F V) p0) fx (va_cwS 1 hts gX4_sun_X4_isHour rfl rfl rfl (by decide +kernel) ⟨Nat.le_of_ble_eq_true rfl, Nat.le_of_ble_eq_true rfl⟩) hK hP hD hS hA rfl hl.1 rfl (Nat.le_of_ble_eq_true rfl) dX4_sun_36 ⟨Nat.le_of_ble_eq_true rfl, Nat.le_of_ble_eq_true rfl⟩ (fun r_20 u_21 H locs hw_22 hP hD hS => ?_)
      have hP : va_P (dC, dI) vwCl (wC cI cZ h F V) H := hP
      have hD : va_D A (wC cI cZ h F V) := hD
      have hw_22 : r_20 = bI (isW p0 0 23) := hw_22
      refine lv_if_eq (tgt := 58) hx hb dX4_sun_39 (by decide) (fun c_23 => ?_) (fun c_23 => ?_)
      · have c_23 : isW p0 0 23 = false := bI_f hw_22 c_23
        refine lv_aload_n hx hb dX4_sun_58 rfl (lv_at hl 1 rfl) ?_
        refine lv_iconst (v := 2) hx hb dX4_sun_59 (by decide) ?_
        refine cw_Vi (As := [.int 2]) (rest := []) (c_X4_denied l dC dI cI cZ cJ h F V 2) fx (cwV 1 hts gX4_sun_X4_denied rfl rfl rfl (by decide +kernel) ⟨Nat.le_of_ble_eq_true rfl, Nat.le_of_ble_eq_true rfl⟩) hK hP hD hS hA 0 rfl rfl rfl rfl hl.1 rfl (Nat.le_of_ble_eq_true rfl) dX4_sun_60 ⟨Nat.le_of_ble_eq_true rfl, Nat.le_of_ble_eq_true rfl⟩ (fun r_24 u_25 H locs hw_26 hP hD hS => ?_)
        have hP : va_P (dC, dI) vwCl (wC cI cZ h F (va_up V 0 2)) H := hP
        have hD : va_D A (wC cI cZ h F (va_up V 0 2)) := hD
        obtain rfl : r_24 = 0 := hw_26
        exact hret 0 (h, F, va_up V 0 2) H locs 63 ls rfl dX4_sun_63 (by
                      have hc_ : okS p0 p1 p2 p3 = false := by simp [okS, c_4, c_19, c_23]
                      refine ⟨?_, rfl, ?_⟩
                      · (try simp only [hc_, cond_true, cond_false])
                        first | done | exact rfl
                      · (try simp only [hc_, cond_true, cond_false])
                        exact ⟨⟨hV1, by omega⟩, ⟨hV2, by omega⟩, ⟨hV3, by omega⟩, ⟨hV4, by omega⟩, ⟨hV5, by omega⟩, ⟨hV6, by omega⟩, ⟨hV9, by omega⟩, ⟨sh, hV11, by omega⟩, ⟨hSo, bSo⟩, ⟨hHh, bHh⟩, ⟨hWd, bWd⟩, ⟨hLm, bLm⟩, ⟨hPr, bPr⟩, by omega, hGP, hSU, GC_cong hGC (Eq.refl (F 5)) (Eq.refl (F 6)) (Eq.refl (F 7)) (Eq.refl (F 8)), (fun i hi => (congrFun (Eq.refl (F 10)) i).trans (hF10 i hi)), (fun i hi => (congrFun (Eq.refl (F 11)) i).trans (hF11 i hi)), KC_cong hKC (Eq.refl (F 19)) (Eq.refl (F 20)), ((show (va_up V 0 2) 7 = V 7 from rfl)).trans hE, PLC_cong hPL (show (va_up V 0 2) 8 = V 8 from rfl)⟩) (hP) (hD) hS
      · have c_23 : isW p0 0 23 = true := bI_t hw_22 c_23
        refine lv_iload hx hb dX4_sun_42 (lv_at hl 0 rfl) ?_
        refine lv_if_eq (tgt := 58) hx hb dX4_sun_44 (by decide) (fun c_27 => ?_) (fun c_27 => ?_)
        · refine lv_aload_n hx hb dX4_sun_58 rfl (lv_at hl 1 rfl) ?_
          refine lv_iconst (v := 2) hx hb dX4_sun_59 (by decide) ?_
          refine cw_Vi (As := [.int 2]) (rest := []) (c_X4_denied l dC dI cI cZ cJ h F V 2) fx (cwV 1 hts gX4_sun_X4_denied rfl rfl rfl (by decide +kernel) ⟨Nat.le_of_ble_eq_true rfl, Nat.le_of_ble_eq_true rfl⟩) hK hP hD hS hA 0 rfl rfl rfl rfl hl.1 rfl (Nat.le_of_ble_eq_true rfl) dX4_sun_60 ⟨Nat.le_of_ble_eq_true rfl, Nat.le_of_ble_eq_true rfl⟩ (fun r_28 u_29 H locs hw_30 hP hD hS => ?_)
          have hP : va_P (dC, dI) vwCl (wC cI cZ h F (va_up V 0 2)) H := hP
          have hD : va_D A (wC cI cZ h F (va_up V 0 2)) := hD
          obtain rfl : r_28 = 0 := hw_30
          exact hret 0 (h, F, va_up V 0 2) H locs 63 ls rfl dX4_sun_63 (by
                        have hc_ : okS p0 p1 p2 p3 = false := by simp [okS, c_4, c_19, c_23]
                        refine ⟨?_, rfl, ?_⟩
                        · (try simp only [hc_, cond_true, cond_false])
                          first | done | exact rfl
                        · (try simp only [hc_, cond_true, cond_false])
                          exact ⟨⟨hV1, by omega⟩, ⟨hV2, by omega⟩, ⟨hV3, by omega⟩, ⟨hV4, by omega⟩, ⟨hV5, by omega⟩, ⟨hV6, by omega⟩, ⟨hV9, by omega⟩, ⟨sh, hV11, by omega⟩, ⟨hSo, bSo⟩, ⟨hHh, bHh⟩, ⟨hWd, bWd⟩, ⟨hLm, bLm⟩, ⟨hPr, bPr⟩, by omega, hGP, hSU, GC_cong hGC (Eq.refl (F 5)) (Eq.refl (F 6)) (Eq.refl (F 7)) (Eq.refl (F 8)), (fun i hi => (congrFun (Eq.refl (F 10)) i).trans (hF10 i hi)), (fun i hi => (congrFun (Eq.refl (F 11)) i).trans (hF11 i hi)), KC_cong hKC (Eq.refl (F 19)) (Eq.refl (F 20)), ((show (va_up V 0 2) 7 = V 7 from rfl)).trans hE, PLC_cong hPL (show (va_up V 0 2) 8 = V 8 from rfl)⟩) (hP) (hD) hS
        · exact absurd c_27 (by decide)
    · have c_19 : isW p2 (-2) 2 = true := bI_t hw_18 c_19
      refine lv_iload_n hx hb dX4_sun_20 rfl (lv_at hl 2 rfl) ?_
      refine lv_if_ne (tgt := 28) hx hb dX4_sun_21 (by decide) (fun c_31 => ?_) (fun c_31 => ?_)
      · have c_31 : eqI p1 0 = false := decide_eq_false c_31
        refine lv_iconst (v := 1) hx hb dX4_sun_28 (by decide) ?_
        refine lv_goto (tgt := 33) hx hb dX4_sun_29 (by decide) ?_
        refine lv_istore (lv' := [(5, .int 1), (0, .ref (h 0)), (1, .int p0), (2, .int p1), (3, .int p2), (4, .int p3)]) hx hb dX4_sun_33 hl (by decide) rfl (fun ls hl => ?_)
        refine lv_iload_n hx hb dX4_sun_35 rfl (lv_at hl 2 rfl) ?_
        refine cw_Si (As := [.int p0]) (rest := []) (c_X4_isHour l dC dI cI cZ cJ (wC cI cZ h F V) p0) fx (va_cwS 1 hts gX4_sun_X4_isHour rfl rfl rfl (by decide +kernel) ⟨Nat.le_of_ble_eq_true rfl, Nat.le_of_ble_eq_true rfl⟩) hK hP hD hS hA rfl hl.1 rfl (Nat.le_of_ble_eq_true rfl) dX4_sun_36 ⟨Nat.le_of_ble_eq_true rfl, Nat.le_of_ble_eq_true rfl⟩ (fun r_32 u_33 H locs hw_34 hP hD hS => ?_)
        have hP : va_P (dC, dI) vwCl (wC cI cZ h F V) H := hP
        have hD : va_D A (wC cI cZ h F V) := hD
        have hw_34 : r_32 = bI (isW p0 0 23) := hw_34
        refine lv_if_eq (tgt := 58) hx hb dX4_sun_39 (by decide) (fun c_35 => ?_) (fun c_35 => ?_)
        · have c_35 : isW p0 0 23 = false := bI_f hw_34 c_35
          refine lv_aload_n hx hb dX4_sun_58 rfl (lv_at hl 1 rfl) ?_
          refine lv_iconst (v := 2) hx hb dX4_sun_59 (by decide) ?_
          refine cw_Vi (As := [.int 2]) (rest := []) (c_X4_denied l dC dI cI cZ cJ h F V 2) fx (cwV 1 hts gX4_sun_X4_denied rfl rfl rfl (by decide +kernel) ⟨Nat.le_of_ble_eq_true rfl, Nat.le_of_ble_eq_true rfl⟩) hK hP hD hS hA 0 rfl rfl rfl rfl hl.1 rfl (Nat.le_of_ble_eq_true rfl) dX4_sun_60 ⟨Nat.le_of_ble_eq_true rfl, Nat.le_of_ble_eq_true rfl⟩ (fun r_36 u_37 H locs hw_38 hP hD hS => ?_)
          have hP : va_P (dC, dI) vwCl (wC cI cZ h F (va_up V 0 2)) H := hP
          have hD : va_D A (wC cI cZ h F (va_up V 0 2)) := hD
          obtain rfl : r_36 = 0 := hw_38
          exact hret 0 (h, F, va_up V 0 2) H locs 63 ls rfl dX4_sun_63 (by
                        have hc_ : okS p0 p1 p2 p3 = false := by simp [okS, c_4, c_19, c_31, c_35]
                        refine ⟨?_, rfl, ?_⟩
                        · (try simp only [hc_, cond_true, cond_false])
                          first | done | exact rfl
                        · (try simp only [hc_, cond_true, cond_false])
                          exact ⟨⟨hV1, by omega⟩, ⟨hV2, by omega⟩, ⟨hV3, by omega⟩, ⟨hV4, by omega⟩, ⟨hV5, by omega⟩, ⟨hV6, by omega⟩, ⟨hV9, by omega⟩, ⟨sh, hV11, by omega⟩, ⟨hSo, bSo⟩, ⟨hHh, bHh⟩, ⟨hWd, bWd⟩, ⟨hLm, bLm⟩, ⟨hPr, bPr⟩, by omega, hGP, hSU, GC_cong hGC (Eq.refl (F 5)) (Eq.refl (F 6)) (Eq.refl (F 7)) (Eq.refl (F 8)), (fun i hi => (congrFun (Eq.refl (F 10)) i).trans (hF10 i hi)), (fun i hi => (congrFun (Eq.refl (F 11)) i).trans (hF11 i hi)), KC_cong hKC (Eq.refl (F 19)) (Eq.refl (F 20)), ((show (va_up V 0 2) 7 = V 7 from rfl)).trans hE, PLC_cong hPL (show (va_up V 0 2) 8 = V 8 from rfl)⟩) (hP) (hD) hS
        · have c_35 : isW p0 0 23 = true := bI_t hw_34 c_35
          refine lv_iload hx hb dX4_sun_42 (lv_at hl 0 rfl) ?_
          refine lv_if_eq (tgt := 58) hx hb dX4_sun_44 (by decide) (fun c_39 => ?_) (fun c_39 => ?_)
          · exact absurd c_39 (by decide)
          · refine lv_iload hx hb dX4_sun_47 (lv_at hl 5 rfl) ?_
            refine lv_iconst (v := 0) hx hb dX4_sun_49 (by decide) ?_
            refine lv_bipush (v := 9) hx hb dX4_sun_50 (by decide) ?_
            refine cw_Si (As := [.int p3, .int 0, .int 9]) (rest := []) (c_X4_isWithin l dC dI cI cZ cJ (wC cI cZ h F V) p3 0 9) fx (va_cwS 3 hts gX4_sun_X4_isWithin rfl rfl rfl (by decide +kernel) ⟨Nat.le_of_ble_eq_true rfl, Nat.le_of_ble_eq_true rfl⟩) hK hP hD hS hA rfl hl.1 rfl (Nat.le_of_ble_eq_true rfl) dX4_sun_52 ⟨Nat.le_of_ble_eq_true rfl, Nat.le_of_ble_eq_true rfl⟩ (fun r_40 u_41 H locs hw_42 hP hD hS => ?_)
            have hP : va_P (dC, dI) vwCl (wC cI cZ h F V) H := hP
            have hD : va_D A (wC cI cZ h F V) := hD
            have hw_42 : r_40 = bI (isW p3 0 9) := hw_42
            refine lv_if_ne (tgt := 64) hx hb dX4_sun_55 (by decide) (fun c_43 => ?_) (fun c_43 => ?_)
            · have c_43 : isW p3 0 9 = true := bI_t hw_42 c_43
              refine lv_aload_n hx hb dX4_sun_64 rfl (lv_at hl 1 rfl) ?_
              refine va_get (D := (dC, dI)) (ci := 4) (v := .ref (h 1)) (C := RX4) (T := TX4) (N := 5) hx hb hts hin_X4 hown hK hP 0 rfl rfl 0 (by decide) hw0 (fun _ h9 => h9) rfl dX4_sun_65 ?_
              refine lv_iload_n hx hb dX4_sun_68 rfl (lv_at hl 2 rfl) ?_
              refine lv_iload_n hx hb dX4_sun_69 rfl (lv_at hl 3 rfl) ?_
              refine lv_iload_n hx hb dX4_sun_70 rfl (lv_at hl 4 rfl) ?_
              refine lv_iload hx hb dX4_sun_71 (lv_at hl 5 rfl) ?_
              obtain ⟨k0, hk0, rfl⟩ := isW_nat (M := 23) (n := 23) (by decide) c_35
              obtain ⟨k3, hk3, rfl⟩ := isW_nat (M := 9) (n := 9) (by decide) c_43
              refine cw_Vv (As := [.int (nI k0), .int p1, .int p2, .int (nI k3)]) (rest := []) (c_X1_setSun l dC dI cI cZ cJ h F V k0 p1 p2 (nI k3) (by omega)) fx (cwV 4 hts gX4_sun_X1_setSun rfl rfl rfl (by decide +kernel) ⟨Nat.le_of_ble_eq_true rfl, Nat.le_of_ble_eq_true rfl⟩) hK hP hD hS hA 1 rfl rfl rfl rfl hl.1 rfl (Nat.le_of_ble_eq_true rfl) dX4_sun_73 ⟨Nat.le_of_ble_eq_true rfl, Nat.le_of_ble_eq_true rfl⟩ (fun u_45 H locs hw_46 hP hD hS => ?_)
              have hN_47 : ∀ i, i < 24 → upd (F 12) k0 (nI k3) i = nI ((nup Hh k0 k3) i) := nf_put hHh rfl
              have bN_48 : ∀ i, i < 24 → (nup Hh k0 k3) i ≤ 9 := nb_put bHh (by omega)
              have hP : va_P (dC, dI) vwCl (wC cI cZ h (va_up (va_up (va_up F 10 (upd (F 10) k0 p1)) 11 (upd (F 11) k0 p2)) 12 (upd (F 12) k0 (nI k3))) V) H := hP
              have hD : va_D A (wC cI cZ h (va_up (va_up (va_up F 10 (upd (F 10) k0 p1)) 11 (upd (F 11) k0 p2)) 12 (upd (F 12) k0 (nI k3))) V) := hD
              refine lv_aload_n hx hb dX4_sun_76 rfl (lv_at hl 1 rfl) ?_
              refine cw_Vi (As := []) (rest := []) (c_X4_allowed l dC dI cI cZ cJ h (va_up (va_up (va_up F 10 (upd (F 10) k0 p1)) 11 (upd (F 11) k0 p2)) 12 (upd (F 12) k0 (nI k3))) V) fx (cwV 0 hts gX4_sun_X4_allowed rfl rfl rfl (by decide +kernel) ⟨Nat.le_of_ble_eq_true rfl, Nat.le_of_ble_eq_true rfl⟩) hK hP hD hS hA 0 rfl rfl rfl rfl hl.1 rfl (Nat.le_of_ble_eq_true rfl) dX4_sun_77 ⟨Nat.le_of_ble_eq_true rfl, Nat.le_of_ble_eq_true rfl⟩ (fun r_49 u_50 H locs hw_51 hP hD hS => ?_)
              have hP : va_P (dC, dI) vwCl (wC cI cZ h (va_up (va_up (va_up F 10 (upd (F 10) k0 p1)) 11 (upd (F 11) k0 p2)) 12 (upd (F 12) k0 (nI k3))) (va_up V 0 0)) H := hP
              have hD : va_D A (wC cI cZ h (va_up (va_up (va_up F 10 (upd (F 10) k0 p1)) 11 (upd (F 11) k0 p2)) 12 (upd (F 12) k0 (nI k3))) (va_up V 0 0)) := hD
              obtain rfl : r_49 = 1 := hw_51
              exact hret 1 (h, va_up (va_up (va_up F 10 (upd (F 10) k0 p1)) 11 (upd (F 11) k0 p2)) 12 (upd (F 12) k0 (nI k3)), va_up V 0 0) H locs 80 ls rfl dX4_sun_80 (by
                            have hc_ : okS (nI k0) p1 p2 (nI k3) = true := by simp [okS, c_4, c_19, c_31, c_35, c_43]
                            refine ⟨?_, rfl, ?_⟩
                            · (try simp only [hc_, cond_true, cond_false, nI_clamp (show k0 < 2 ^ 31 by omega), nI_clamp (show k3 < 2 ^ 31 by omega)])
                              first | done | exact rfl
                            · (try simp only [hc_, cond_true, cond_false, nI_clamp (show k0 < 2 ^ 31 by omega), nI_clamp (show k3 < 2 ^ 31 by omega)])
                              exact ⟨⟨hV1, by omega⟩, ⟨hV2, by omega⟩, ⟨hV3, by omega⟩, ⟨hV4, by omega⟩, ⟨hV5, by omega⟩, ⟨hV6, by omega⟩, ⟨hV9, by omega⟩, ⟨sh, hV11, by omega⟩, ⟨hSo, bSo⟩, ⟨hN_47, bN_48⟩, ⟨hWd, bWd⟩, ⟨hLm, bLm⟩, ⟨hPr, bPr⟩, by omega, hGP, SUN_up hSU c_4 c_19, GC_cong hGC (show (va_up (va_up (va_up F 10 (upd (F 10) k0 p1)) 11 (upd (F 11) k0 p2)) 12 (upd (F 12) k0 (nI k3))) 5 = F 5 from rfl) (show (va_up (va_up (va_up F 10 (upd (F 10) k0 p1)) 11 (upd (F 11) k0 p2)) 12 (upd (F 12) k0 (nI k3))) 6 = F 6 from rfl) (show (va_up (va_up (va_up F 10 (upd (F 10) k0 p1)) 11 (upd (F 11) k0 p2)) 12 (upd (F 12) k0 (nI k3))) 7 = F 7 from rfl) (show (va_up (va_up (va_up F 10 (upd (F 10) k0 p1)) 11 (upd (F 11) k0 p2)) 12 (upd (F 12) k0 (nI k3))) 8 = F 8 from rfl), up_cong hF10, up_cong hF11, KC_cong hKC (show (va_up (va_up (va_up F 10 (upd (F 10) k0 p1)) 11 (upd (F 11) k0 p2)) 12 (upd (F 12) k0 (nI k3))) 19 = F 19 from rfl) (show (va_up (va_up (va_up F 10 (upd (F 10) k0 p1)) 11 (upd (F 11) k0 p2)) 12 (upd (F 12) k0 (nI k3))) 20 = F 20 from rfl), ((show (va_up V 0 0) 7 = V 7 from rfl)).trans hE, PLC_cong hPL (show (va_up V 0 0) 8 = V 8 from rfl)⟩) (hP) (hD) hS
            · have c_43 : isW p3 0 9 = false := bI_f hw_42 c_43
              refine lv_aload_n hx hb dX4_sun_58 rfl (lv_at hl 1 rfl) ?_
              refine lv_iconst (v := 2) hx hb dX4_sun_59 (by decide) ?_
              refine cw_Vi (As := [.int 2]) (rest := []) (c_X4_denied l dC dI cI cZ cJ h F V 2) fx (cwV 1 hts gX4_sun_X4_denied rfl rfl rfl (by decide +kernel) ⟨Nat.le_of_ble_eq_true rfl, Nat.le_of_ble_eq_true rfl⟩) hK hP hD hS hA 0 rfl rfl rfl rfl hl.1 rfl (Nat.le_of_ble_eq_true rfl) dX4_sun_60 ⟨Nat.le_of_ble_eq_true rfl, Nat.le_of_ble_eq_true rfl⟩ (fun r_52 u_53 H locs hw_54 hP hD hS => ?_)
              have hP : va_P (dC, dI) vwCl (wC cI cZ h F (va_up V 0 2)) H := hP
              have hD : va_D A (wC cI cZ h F (va_up V 0 2)) := hD
              obtain rfl : r_52 = 0 := hw_54
              exact hret 0 (h, F, va_up V 0 2) H locs 63 ls rfl dX4_sun_63 (by
                            have hc_ : okS p0 p1 p2 p3 = false := by simp [okS, c_4, c_19, c_31, c_35, c_43]
                            refine ⟨?_, rfl, ?_⟩
                            · (try simp only [hc_, cond_true, cond_false])
                              first | done | exact rfl
                            · (try simp only [hc_, cond_true, cond_false])
                              exact ⟨⟨hV1, by omega⟩, ⟨hV2, by omega⟩, ⟨hV3, by omega⟩, ⟨hV4, by omega⟩, ⟨hV5, by omega⟩, ⟨hV6, by omega⟩, ⟨hV9, by omega⟩, ⟨sh, hV11, by omega⟩, ⟨hSo, bSo⟩, ⟨hHh, bHh⟩, ⟨hWd, bWd⟩, ⟨hLm, bLm⟩, ⟨hPr, bPr⟩, by omega, hGP, hSU, GC_cong hGC (Eq.refl (F 5)) (Eq.refl (F 6)) (Eq.refl (F 7)) (Eq.refl (F 8)), (fun i hi => (congrFun (Eq.refl (F 10)) i).trans (hF10 i hi)), (fun i hi => (congrFun (Eq.refl (F 11)) i).trans (hF11 i hi)), KC_cong hKC (Eq.refl (F 19)) (Eq.refl (F 20)), ((show (va_up V 0 2) 7 = V 7 from rfl)).trans hE, PLC_cong hPL (show (va_up V 0 2) 8 = V 8 from rfl)⟩) (hP) (hD) hS
      · have c_31 : eqI p1 0 = true := decide_eq_true c_31
        refine lv_iload_n hx hb dX4_sun_24 rfl (lv_at hl 3 rfl) ?_
        refine lv_if_eq (tgt := 32) hx hb dX4_sun_25 (by decide) (fun c_55 => ?_) (fun c_55 => ?_)
        · have c_55 : eqI p2 0 = true := decide_eq_true c_55
          refine lv_iconst (v := 0) hx hb dX4_sun_32 (by decide) ?_
          refine lv_istore (lv' := [(5, .int 0), (0, .ref (h 0)), (1, .int p0), (2, .int p1), (3, .int p2), (4, .int p3)]) hx hb dX4_sun_33 hl (by decide) rfl (fun ls hl => ?_)
          refine lv_iload_n hx hb dX4_sun_35 rfl (lv_at hl 2 rfl) ?_
          refine cw_Si (As := [.int p0]) (rest := []) (c_X4_isHour l dC dI cI cZ cJ (wC cI cZ h F V) p0) fx (va_cwS 1 hts gX4_sun_X4_isHour rfl rfl rfl (by decide +kernel) ⟨Nat.le_of_ble_eq_true rfl, Nat.le_of_ble_eq_true rfl⟩) hK hP hD hS hA rfl hl.1 rfl (Nat.le_of_ble_eq_true rfl) dX4_sun_36 ⟨Nat.le_of_ble_eq_true rfl, Nat.le_of_ble_eq_true rfl⟩ (fun r_56 u_57 H locs hw_58 hP hD hS => ?_)
          have hP : va_P (dC, dI) vwCl (wC cI cZ h F V) H := hP
          have hD : va_D A (wC cI cZ h F V) := hD
          have hw_58 : r_56 = bI (isW p0 0 23) := hw_58
          refine lv_if_eq (tgt := 58) hx hb dX4_sun_39 (by decide) (fun c_59 => ?_) (fun c_59 => ?_)
          · have c_59 : isW p0 0 23 = false := bI_f hw_58 c_59
            refine lv_aload_n hx hb dX4_sun_58 rfl (lv_at hl 1 rfl) ?_
            refine lv_iconst (v := 2) hx hb dX4_sun_59 (by decide) ?_
            refine cw_Vi (As := [.int 2]) (rest := []) (c_X4_denied l dC dI cI cZ cJ h F V 2) fx (cwV 1 hts gX4_sun_X4_denied rfl rfl rfl (by decide +kernel) ⟨Nat.le_of_ble_eq_true rfl, Nat.le_of_ble_eq_true rfl⟩) hK hP hD hS hA 0 rfl rfl rfl rfl hl.1 rfl (Nat.le_of_ble_eq_true rfl) dX4_sun_60 ⟨Nat.le_of_ble_eq_true rfl, Nat.le_of_ble_eq_true rfl⟩ (fun r_60 u_61 H locs hw_62 hP hD hS => ?_)
            have hP : va_P (dC, dI) vwCl (wC cI cZ h F (va_up V 0 2)) H := hP
            have hD : va_D A (wC cI cZ h F (va_up V 0 2)) := hD
            obtain rfl : r_60 = 0 := hw_62
            exact hret 0 (h, F, va_up V 0 2) H locs 63 ls rfl dX4_sun_63 (by
                          have hc_ : okS p0 p1 p2 p3 = false := by simp [okS, c_4, c_19, c_31, c_55, c_59]
                          refine ⟨?_, rfl, ?_⟩
                          · (try simp only [hc_, cond_true, cond_false])
                            first | done | exact rfl
                          · (try simp only [hc_, cond_true, cond_false])
                            exact ⟨⟨hV1, by omega⟩, ⟨hV2, by omega⟩, ⟨hV3, by omega⟩, ⟨hV4, by omega⟩, ⟨hV5, by omega⟩, ⟨hV6, by omega⟩, ⟨hV9, by omega⟩, ⟨sh, hV11, by omega⟩, ⟨hSo, bSo⟩, ⟨hHh, bHh⟩, ⟨hWd, bWd⟩, ⟨hLm, bLm⟩, ⟨hPr, bPr⟩, by omega, hGP, hSU, GC_cong hGC (Eq.refl (F 5)) (Eq.refl (F 6)) (Eq.refl (F 7)) (Eq.refl (F 8)), (fun i hi => (congrFun (Eq.refl (F 10)) i).trans (hF10 i hi)), (fun i hi => (congrFun (Eq.refl (F 11)) i).trans (hF11 i hi)), KC_cong hKC (Eq.refl (F 19)) (Eq.refl (F 20)), ((show (va_up V 0 2) 7 = V 7 from rfl)).trans hE, PLC_cong hPL (show (va_up V 0 2) 8 = V 8 from rfl)⟩) (hP) (hD) hS
          · have c_59 : isW p0 0 23 = true := bI_t hw_58 c_59
            refine lv_iload hx hb dX4_sun_42 (lv_at hl 0 rfl) ?_
            refine lv_if_eq (tgt := 58) hx hb dX4_sun_44 (by decide) (fun c_63 => ?_) (fun c_63 => ?_)
            · refine lv_aload_n hx hb dX4_sun_58 rfl (lv_at hl 1 rfl) ?_
              refine lv_iconst (v := 2) hx hb dX4_sun_59 (by decide) ?_
              refine cw_Vi (As := [.int 2]) (rest := []) (c_X4_denied l dC dI cI cZ cJ h F V 2) fx (cwV 1 hts gX4_sun_X4_denied rfl rfl rfl (by decide +kernel) ⟨Nat.le_of_ble_eq_true rfl, Nat.le_of_ble_eq_true rfl⟩) hK hP hD hS hA 0 rfl rfl rfl rfl hl.1 rfl (Nat.le_of_ble_eq_true rfl) dX4_sun_60 ⟨Nat.le_of_ble_eq_true rfl, Nat.le_of_ble_eq_true rfl⟩ (fun r_64 u_65 H locs hw_66 hP hD hS => ?_)
              have hP : va_P (dC, dI) vwCl (wC cI cZ h F (va_up V 0 2)) H := hP
              have hD : va_D A (wC cI cZ h F (va_up V 0 2)) := hD
              obtain rfl : r_64 = 0 := hw_66
              exact hret 0 (h, F, va_up V 0 2) H locs 63 ls rfl dX4_sun_63 (by
                            have hc_ : okS p0 p1 p2 p3 = false := by simp [okS, c_4, c_19, c_31, c_55, c_59]
                            refine ⟨?_, rfl, ?_⟩
                            · (try simp only [hc_, cond_true, cond_false])
                              first | done | exact rfl
                            · (try simp only [hc_, cond_true, cond_false])
                              exact ⟨⟨hV1, by omega⟩, ⟨hV2, by omega⟩, ⟨hV3, by omega⟩, ⟨hV4, by omega⟩, ⟨hV5, by omega⟩, ⟨hV6, by omega⟩, ⟨hV9, by omega⟩, ⟨sh, hV11, by omega⟩, ⟨hSo, bSo⟩, ⟨hHh, bHh⟩, ⟨hWd, bWd⟩, ⟨hLm, bLm⟩, ⟨hPr, bPr⟩, by omega, hGP, hSU, GC_cong hGC (Eq.refl (F 5)) (Eq.refl (F 6)) (Eq.refl (F 7)) (Eq.refl (F 8)), (fun i hi => (congrFun (Eq.refl (F 10)) i).trans (hF10 i hi)), (fun i hi => (congrFun (Eq.refl (F 11)) i).trans (hF11 i hi)), KC_cong hKC (Eq.refl (F 19)) (Eq.refl (F 20)), ((show (va_up V 0 2) 7 = V 7 from rfl)).trans hE, PLC_cong hPL (show (va_up V 0 2) 8 = V 8 from rfl)⟩) (hP) (hD) hS
            · exact absurd c_63 (by decide)
        · have c_55 : eqI p2 0 = false := decide_eq_false c_55
          refine lv_iconst (v := 1) hx hb dX4_sun_28 (by decide) ?_
          refine lv_goto (tgt := 33) hx hb dX4_sun_29 (by decide) ?_
          refine lv_istore (lv' := [(5, .int 1), (0, .ref (h 0)), (1, .int p0), (2, .int p1), (3, .int p2), (4, .int p3)]) hx hb dX4_sun_33 hl (by decide) rfl (fun ls hl => ?_)
          refine lv_iload_n hx hb dX4_sun_35 rfl (lv_at hl 2 rfl) ?_
          refine cw_Si (As := [.int p0]) (rest := []) (c_X4_isHour l dC dI cI cZ cJ (wC cI cZ h F V) p0) fx (va_cwS 1 hts gX4_sun_X4_isHour rfl rfl rfl (by decide +kernel) ⟨Nat.le_of_ble_eq_true rfl, Nat.le_of_ble_eq_true rfl⟩) hK hP hD hS hA rfl hl.1 rfl (Nat.le_of_ble_eq_true rfl) dX4_sun_36 ⟨Nat.le_of_ble_eq_true rfl, Nat.le_of_ble_eq_true rfl⟩ (fun r_67 u_68 H locs hw_69 hP hD hS => ?_)
          have hP : va_P (dC, dI) vwCl (wC cI cZ h F V) H := hP
          have hD : va_D A (wC cI cZ h F V) := hD
          have hw_69 : r_67 = bI (isW p0 0 23) := hw_69
          refine lv_if_eq (tgt := 58) hx hb dX4_sun_39 (by decide) (fun c_70 => ?_) (fun c_70 => ?_)
          · have c_70 : isW p0 0 23 = false := bI_f hw_69 c_70
            refine lv_aload_n hx hb dX4_sun_58 rfl (lv_at hl 1 rfl) ?_
            refine lv_iconst (v := 2) hx hb dX4_sun_59 (by decide) ?_
            refine cw_Vi (As := [.int 2]) (rest := []) (c_X4_denied l dC dI cI cZ cJ h F V 2) fx (cwV 1 hts gX4_sun_X4_denied rfl rfl rfl (by decide +kernel) ⟨Nat.le_of_ble_eq_true rfl, Nat.le_of_ble_eq_true rfl⟩) hK hP hD hS hA 0 rfl rfl rfl rfl hl.1 rfl (Nat.le_of_ble_eq_true rfl) dX4_sun_60 ⟨Nat.le_of_ble_eq_true rfl, Nat.le_of_ble_eq_true rfl⟩ (fun r_71 u_72 H locs hw_73 hP hD hS => ?_)
            have hP : va_P (dC, dI) vwCl (wC cI cZ h F (va_up V 0 2)) H := hP
            have hD : va_D A (wC cI cZ h F (va_up V 0 2)) := hD
            obtain rfl : r_71 = 0 := hw_73
            exact hret 0 (h, F, va_up V 0 2) H locs 63 ls rfl dX4_sun_63 (by
                          have hc_ : okS p0 p1 p2 p3 = false := by simp [okS, c_4, c_19, c_31, c_55, c_70]
                          refine ⟨?_, rfl, ?_⟩
                          · (try simp only [hc_, cond_true, cond_false])
                            first | done | exact rfl
                          · (try simp only [hc_, cond_true, cond_false])
                            exact ⟨⟨hV1, by omega⟩, ⟨hV2, by omega⟩, ⟨hV3, by omega⟩, ⟨hV4, by omega⟩, ⟨hV5, by omega⟩, ⟨hV6, by omega⟩, ⟨hV9, by omega⟩, ⟨sh, hV11, by omega⟩, ⟨hSo, bSo⟩, ⟨hHh, bHh⟩, ⟨hWd, bWd⟩, ⟨hLm, bLm⟩, ⟨hPr, bPr⟩, by omega, hGP, hSU, GC_cong hGC (Eq.refl (F 5)) (Eq.refl (F 6)) (Eq.refl (F 7)) (Eq.refl (F 8)), (fun i hi => (congrFun (Eq.refl (F 10)) i).trans (hF10 i hi)), (fun i hi => (congrFun (Eq.refl (F 11)) i).trans (hF11 i hi)), KC_cong hKC (Eq.refl (F 19)) (Eq.refl (F 20)), ((show (va_up V 0 2) 7 = V 7 from rfl)).trans hE, PLC_cong hPL (show (va_up V 0 2) 8 = V 8 from rfl)⟩) (hP) (hD) hS
          · have c_70 : isW p0 0 23 = true := bI_t hw_69 c_70
            refine lv_iload hx hb dX4_sun_42 (lv_at hl 0 rfl) ?_
            refine lv_if_eq (tgt := 58) hx hb dX4_sun_44 (by decide) (fun c_74 => ?_) (fun c_74 => ?_)
            · exact absurd c_74 (by decide)
            · refine lv_iload hx hb dX4_sun_47 (lv_at hl 5 rfl) ?_
              refine lv_iconst (v := 0) hx hb dX4_sun_49 (by decide) ?_
              refine lv_bipush (v := 9) hx hb dX4_sun_50 (by decide) ?_
              refine cw_Si (As := [.int p3, .int 0, .int 9]) (rest := []) (c_X4_isWithin l dC dI cI cZ cJ (wC cI cZ h F V) p3 0 9) fx (va_cwS 3 hts gX4_sun_X4_isWithin rfl rfl rfl (by decide +kernel) ⟨Nat.le_of_ble_eq_true rfl, Nat.le_of_ble_eq_true rfl⟩) hK hP hD hS hA rfl hl.1 rfl (Nat.le_of_ble_eq_true rfl) dX4_sun_52 ⟨Nat.le_of_ble_eq_true rfl, Nat.le_of_ble_eq_true rfl⟩ (fun r_75 u_76 H locs hw_77 hP hD hS => ?_)
              have hP : va_P (dC, dI) vwCl (wC cI cZ h F V) H := hP
              have hD : va_D A (wC cI cZ h F V) := hD
              have hw_77 : r_75 = bI (isW p3 0 9) := hw_77
              refine lv_if_ne (tgt := 64) hx hb dX4_sun_55 (by decide) (fun c_78 => ?_) (fun c_78 => ?_)
              · have c_78 : isW p3 0 9 = true := bI_t hw_77 c_78
                refine lv_aload_n hx hb dX4_sun_64 rfl (lv_at hl 1 rfl) ?_
                refine va_get (D := (dC, dI)) (ci := 4) (v := .ref (h 1)) (C := RX4) (T := TX4) (N := 5) hx hb hts hin_X4 hown hK hP 0 rfl rfl 0 (by decide) hw0 (fun _ h9 => h9) rfl dX4_sun_65 ?_
                refine lv_iload_n hx hb dX4_sun_68 rfl (lv_at hl 2 rfl) ?_
                refine lv_iload_n hx hb dX4_sun_69 rfl (lv_at hl 3 rfl) ?_
                refine lv_iload_n hx hb dX4_sun_70 rfl (lv_at hl 4 rfl) ?_
                refine lv_iload hx hb dX4_sun_71 (lv_at hl 5 rfl) ?_
                obtain ⟨k0, hk0, rfl⟩ := isW_nat (M := 23) (n := 23) (by decide) c_70
                obtain ⟨k3, hk3, rfl⟩ := isW_nat (M := 9) (n := 9) (by decide) c_78
                refine cw_Vv (As := [.int (nI k0), .int p1, .int p2, .int (nI k3)]) (rest := []) (c_X1_setSun l dC dI cI cZ cJ h F V k0 p1 p2 (nI k3) (by omega)) fx (cwV 4 hts gX4_sun_X1_setSun rfl rfl rfl (by decide +kernel) ⟨Nat.le_of_ble_eq_true rfl, Nat.le_of_ble_eq_true rfl⟩) hK hP hD hS hA 1 rfl rfl rfl rfl hl.1 rfl (Nat.le_of_ble_eq_true rfl) dX4_sun_73 ⟨Nat.le_of_ble_eq_true rfl, Nat.le_of_ble_eq_true rfl⟩ (fun u_80 H locs hw_81 hP hD hS => ?_)
                have hN_82 : ∀ i, i < 24 → upd (F 12) k0 (nI k3) i = nI ((nup Hh k0 k3) i) := nf_put hHh rfl
                have bN_83 : ∀ i, i < 24 → (nup Hh k0 k3) i ≤ 9 := nb_put bHh (by omega)
                have hP : va_P (dC, dI) vwCl (wC cI cZ h (va_up (va_up (va_up F 10 (upd (F 10) k0 p1)) 11 (upd (F 11) k0 p2)) 12 (upd (F 12) k0 (nI k3))) V) H := hP
                have hD : va_D A (wC cI cZ h (va_up (va_up (va_up F 10 (upd (F 10) k0 p1)) 11 (upd (F 11) k0 p2)) 12 (upd (F 12) k0 (nI k3))) V) := hD
                refine lv_aload_n hx hb dX4_sun_76 rfl (lv_at hl 1 rfl) ?_
                refine cw_Vi (As := []) (rest := []) (c_X4_allowed l dC dI cI cZ cJ h (va_up (va_up (va_up F 10 (upd (F 10) k0 p1)) 11 (upd (F 11) k0 p2)) 12 (upd (F 12) k0 (nI k3))) V) fx (cwV 0 hts gX4_sun_X4_allowed rfl rfl rfl (by decide +kernel) ⟨Nat.le_of_ble_eq_true rfl, Nat.le_of_ble_eq_true rfl⟩) hK hP hD hS hA 0 rfl rfl rfl rfl hl.1 rfl (Nat.le_of_ble_eq_true rfl) dX4_sun_77 ⟨Nat.le_of_ble_eq_true rfl, Nat.le_of_ble_eq_true rfl⟩ (fun r_84 u_85 H locs hw_86 hP hD hS => ?_)
                have hP : va_P (dC, dI) vwCl (wC cI cZ h (va_up (va_up (va_up F 10 (upd (F 10) k0 p1)) 11 (upd (F 11) k0 p2)) 12 (upd (F 12) k0 (nI k3))) (va_up V 0 0)) H := hP
                have hD : va_D A (wC cI cZ h (va_up (va_up (va_up F 10 (upd (F 10) k0 p1)) 11 (upd (F 11) k0 p2)) 12 (upd (F 12) k0 (nI k3))) (va_up V 0 0)) := hD
                obtain rfl : r_84 = 1 := hw_86
                exact hret 1 (h, va_up (va_up (va_up F 10 (upd (F 10) k0 p1)) 11 (upd (F 11) k0 p2)) 12 (upd (F 12) k0 (nI k3)), va_up V 0 0) H locs 80 ls rfl dX4_sun_80 (by
                              have hc_ : okS (nI k0) p1 p2 (nI k3) = true := by simp [okS, c_4, c_19, c_31, c_55, c_70, c_78]
                              refine ⟨?_, rfl, ?_⟩
                              · (try simp only [hc_, cond_true, cond_false, nI_clamp (show k0 < 2 ^ 31 by omega), nI_clamp (show k3 < 2 ^ 31 by omega)])
                                first | done | exact rfl
                              · (try simp only [hc_, cond_true, cond_false, nI_clamp (show k0 < 2 ^ 31 by omega), nI_clamp (show k3 < 2 ^ 31 by omega)])
                                exact ⟨⟨hV1, by omega⟩, ⟨hV2, by omega⟩, ⟨hV3, by omega⟩, ⟨hV4, by omega⟩, ⟨hV5, by omega⟩, ⟨hV6, by omega⟩, ⟨hV9, by omega⟩, ⟨sh, hV11, by omega⟩, ⟨hSo, bSo⟩, ⟨hN_82, bN_83⟩, ⟨hWd, bWd⟩, ⟨hLm, bLm⟩, ⟨hPr, bPr⟩, by omega, hGP, SUN_up hSU c_4 c_19, GC_cong hGC (show (va_up (va_up (va_up F 10 (upd (F 10) k0 p1)) 11 (upd (F 11) k0 p2)) 12 (upd (F 12) k0 (nI k3))) 5 = F 5 from rfl) (show (va_up (va_up (va_up F 10 (upd (F 10) k0 p1)) 11 (upd (F 11) k0 p2)) 12 (upd (F 12) k0 (nI k3))) 6 = F 6 from rfl) (show (va_up (va_up (va_up F 10 (upd (F 10) k0 p1)) 11 (upd (F 11) k0 p2)) 12 (upd (F 12) k0 (nI k3))) 7 = F 7 from rfl) (show (va_up (va_up (va_up F 10 (upd (F 10) k0 p1)) 11 (upd (F 11) k0 p2)) 12 (upd (F 12) k0 (nI k3))) 8 = F 8 from rfl), up_cong hF10, up_cong hF11, KC_cong hKC (show (va_up (va_up (va_up F 10 (upd (F 10) k0 p1)) 11 (upd (F 11) k0 p2)) 12 (upd (F 12) k0 (nI k3))) 19 = F 19 from rfl) (show (va_up (va_up (va_up F 10 (upd (F 10) k0 p1)) 11 (upd (F 11) k0 p2)) 12 (upd (F 12) k0 (nI k3))) 20 = F 20 from rfl), ((show (va_up V 0 0) 7 = V 7 from rfl)).trans hE, PLC_cong hPL (show (va_up V 0 0) 8 = V 8 from rfl)⟩) (hP) (hD) hS
              · have c_78 : isW p3 0 9 = false := bI_f hw_77 c_78
                refine lv_aload_n hx hb dX4_sun_58 rfl (lv_at hl 1 rfl) ?_
                refine lv_iconst (v := 2) hx hb dX4_sun_59 (by decide) ?_
                refine cw_Vi (As := [.int 2]) (rest := []) (c_X4_denied l dC dI cI cZ cJ h F V 2) fx (cwV 1 hts gX4_sun_X4_denied rfl rfl rfl (by decide +kernel) ⟨Nat.le_of_ble_eq_true rfl, Nat.le_of_ble_eq_true rfl⟩) hK hP hD hS hA 0 rfl rfl rfl rfl hl.1 rfl (Nat.le_of_ble_eq_true rfl) dX4_sun_60 ⟨Nat.le_of_ble_eq_true rfl, Nat.le_of_ble_eq_true rfl⟩ (fun r_87 u_88 H locs hw_89 hP hD hS => ?_)
                have hP : va_P (dC, dI) vwCl (wC cI cZ h F (va_up V 0 2)) H := hP
                have hD : va_D A (wC cI cZ h F (va_up V 0 2)) := hD
                obtain rfl : r_87 = 0 := hw_89
                exact hret 0 (h, F, va_up V 0 2) H locs 63 ls rfl dX4_sun_63 (by
                              have hc_ : okS p0 p1 p2 p3 = false := by simp [okS, c_4, c_19, c_31, c_55, c_70, c_78]
                              refine ⟨?_, rfl, ?_⟩
                              · (try simp only [hc_, cond_true, cond_false])
                                first | done | exact rfl
                              · (try simp only [hc_, cond_true, cond_false])
                                exact ⟨⟨hV1, by omega⟩, ⟨hV2, by omega⟩, ⟨hV3, by omega⟩, ⟨hV4, by omega⟩, ⟨hV5, by omega⟩, ⟨hV6, by omega⟩, ⟨hV9, by omega⟩, ⟨sh, hV11, by omega⟩, ⟨hSo, bSo⟩, ⟨hHh, bHh⟩, ⟨hWd, bWd⟩, ⟨hLm, bLm⟩, ⟨hPr, bPr⟩, by omega, hGP, hSU, GC_cong hGC (Eq.refl (F 5)) (Eq.refl (F 6)) (Eq.refl (F 7)) (Eq.refl (F 8)), (fun i hi => (congrFun (Eq.refl (F 10)) i).trans (hF10 i hi)), (fun i hi => (congrFun (Eq.refl (F 11)) i).trans (hF11 i hi)), KC_cong hKC (Eq.refl (F 19)) (Eq.refl (F 20)), ((show (va_up V 0 2) 7 = V 7 from rfl)).trans hE, PLC_cong hPL (show (va_up V 0 2) 8 = V 8 from rfl)⟩) (hP) (hD) hS
def rm_X4_limit : Room := { frames := 2, cells := 0, slots := 0, locals := 42 }
set_option maxHeartbeats 4000000 in
set_option maxRecDepth 100000 in
theorem c_X4_limit (l : Launch) (dC : Nat → ClassId) (dI : Nat → Nat → Nat) (cI cZ cJ : ClassId) (h : Nat → Nat) (F : Nat → Nat → Int32) (V : Nat → Int32) (n : Nat) (hV1 : V 1 = nI n) (bV1 : n ≤ 40) (d : Nat) (hV2 : V 2 = nI d) (bV2 : d ≤ 20) (ks : Nat) (hV3 : V 3 = nI ks) (bV3 : ks ≤ 40) (nw : Nat) (hV4 : V 4 = nI nw) (bV4 : nw ≤ 23) (un : Nat) (hV5 : V 5 = nI un) (bV5 : un ≤ 200) (wm : Nat) (hV6 : V 6 = nI wm) (bV6 : wm ≤ 1) (pf : Nat) (hV9 : V 9 = nI pf) (bV9 : pf ≤ 24) (sh : Nat) (hV11 : V 11 = nI sh) (bV11 : sh ≤ 12) (So : Nat → Nat) (hSo : ∀ i, i < 40 → F 9 i = nI (So i)) (bSo : ∀ i, i < 40 → So i ≤ 90) (Hh : Nat → Nat) (hHh : ∀ i, i < 24 → F 12 i = nI (Hh i)) (bHh : ∀ i, i < 24 → Hh i ≤ 9) (Wd : Nat → Nat) (hWd : ∀ i, i < 24 → F 13 i = nI (Wd i)) (bWd : ∀ i, i < 24 → Wd i ≤ 99) (Lm : Nat → Nat) (hLm : ∀ i, i < 4 → F 14 i = nI (Lm i)) (bLm : ∀ i, i < 4 → Lm i ≤ 10000) (Pr : Nat → Nat) (hPr : ∀ i, i < 24 → F 23 i = nI (Pr i)) (bPr : ∀ i, i < 24 → Pr i ≤ 999) (p0 p1 : Int32)  (X Y : Nat → Nat) (SX SY Kc Kp : Nat → Int32) (er : Int32) (rb : Nat → Bool) (hkn : ks ≤ n) (hGP : GP n X Y) (hSU : SUN SX SY) (hGC : GC n X Y F) (hF10 : ∀ i, i < 24 → F 10 i = SX i) (hF11 : ∀ i, i < 24 → F 11 i = SY i) (hKC : KC ks Kc Kp F) (hE : V 7 = er) (hPL : PLC pf rb V) : CtI l (dC, dI) vwCl (tys3 cI cZ cJ) yX4_limit wsX4_limit rm_X4_limit [.ref (h 0), .int p0, .int p1] (wC cI cZ h F V) (S := (Nat → Nat) × (Nat → Nat → Int32) × (Nat → Int32)) (fun r u => (r = bI (isW p0 0 3 && isW p1 0 10000)) ∧ u.1 0 = h 0 ∧ VC n d ks nw un wm pf So Hh Wd (bif (isW p0 0 3 && isW p1 0 10000) then nup Lm p0.toNatClampNeg p1.toNatClampNeg else Lm) Pr X Y SX SY Kc Kp er rb u.2.1 u.2.2) (fun u => wC cI cZ u.1 u.2.1 u.2.2) 0 0 := by
  refine ct_I (cc := cX4_limit) (maxL := 3) (ty := .boolean) (own := RX4) (by decide) rfl rfl (Nat.le_of_ble_eq_true rfl) (lv := [(0, .ref (h 0)), (1, .int p0), (2, .int p1)]) rfl ?_
  intro p e s m args below meth c A Q ls fx hK hP hD hA hl hret
  obtain ⟨hx, hb, hml, hown, hts⟩ := id fx
  have hS : va_S A s.heap s.heap [] := va_S.rf
  have hw0 := hts (.fieldLink RX4 21 "MirrorTower" "cells" "LMirrorTower$Face;") (by decide +kernel)
  have hin_X4 : ∀ w ∈ u_ws RX4 TX4 5, w ∈ wsX4_limit := by decide +kernel
  obtain ⟨H, hH⟩ : ∃ H, H = s.heap := ⟨_, rfl⟩
  rw [← hH] at hP ⊢
  have hS : va_S A s.heap H [] := by rw [hH]; exact hS
  generalize ([] : List Loc) = locs at hS ⊢
  refine lv_iload_n hx hb dX4_limit_0 rfl (lv_at hl 1 rfl) ?_
  refine cw_Si (As := [.int p0]) (rest := []) (c_X4_isCell l dC dI cI cZ cJ (wC cI cZ h F V) p0) fx (va_cwS 1 hts gX4_limit_X4_isCell rfl rfl rfl (by decide +kernel) ⟨Nat.le_of_ble_eq_true rfl, Nat.le_of_ble_eq_true rfl⟩) hK hP hD hS hA rfl hl.1 rfl (Nat.le_of_ble_eq_true rfl) dX4_limit_1 ⟨Nat.le_of_ble_eq_true rfl, Nat.le_of_ble_eq_true rfl⟩ (fun r_1 u_2 H locs hw_3 hP hD hS => ?_)
  have hP : va_P (dC, dI) vwCl (wC cI cZ h F V) H := hP
  have hD : va_D A (wC cI cZ h F V) := hD
  have hw_3 : r_1 = bI (isW p0 0 3) := hw_3
  refine lv_if_ne (tgt := 13) hx hb dX4_limit_4 (by decide) (fun c_4 => ?_) (fun c_4 => ?_)
  · have c_4 : isW p0 0 3 = true := bI_t hw_3 c_4
    refine lv_iload_n hx hb dX4_limit_13 rfl (lv_at hl 2 rfl) ?_
    refine lv_iconst (v := 0) hx hb dX4_limit_14 (by decide) ?_
    refine lv_sipush (v := 10000) hx hb dX4_limit_15 (by decide) ?_
    refine cw_Si (As := [.int p1, .int 0, .int 10000]) (rest := []) (c_X4_isWithin l dC dI cI cZ cJ (wC cI cZ h F V) p1 0 10000) fx (va_cwS 3 hts gX4_limit_X4_isWithin rfl rfl rfl (by decide +kernel) ⟨Nat.le_of_ble_eq_true rfl, Nat.le_of_ble_eq_true rfl⟩) hK hP hD hS hA rfl hl.1 rfl (Nat.le_of_ble_eq_true rfl) dX4_limit_18 ⟨Nat.le_of_ble_eq_true rfl, Nat.le_of_ble_eq_true rfl⟩ (fun r_5 u_6 H locs hw_7 hP hD hS => ?_)
    have hP : va_P (dC, dI) vwCl (wC cI cZ h F V) H := hP
    have hD : va_D A (wC cI cZ h F V) := hD
    have hw_7 : r_5 = bI (isW p1 0 10000) := hw_7
    refine lv_if_ne (tgt := 30) hx hb dX4_limit_21 (by decide) (fun c_8 => ?_) (fun c_8 => ?_)
    · have c_8 : isW p1 0 10000 = true := bI_t hw_7 c_8
      refine lv_aload_n hx hb dX4_limit_30 rfl (lv_at hl 0 rfl) ?_
      refine va_get (D := (dC, dI)) (ci := 4) (v := .ref (h 2)) (C := RX4) (T := TX4) (N := 5) hx hb hts hin_X4 hown hK hP 0 rfl rfl 1 (by decide) hw0 (fun _ h9 => h9) rfl dX4_limit_31 ?_
      refine lv_iload_n hx hb dX4_limit_34 rfl (lv_at hl 1 rfl) ?_
      refine lv_iload_n hx hb dX4_limit_35 rfl (lv_at hl 2 rfl) ?_
      obtain ⟨k0, hk0, rfl⟩ := isW_nat (M := 3) (n := 3) (by decide) c_4
      obtain ⟨k1, hk1, rfl⟩ := isW_nat (M := 10000) (n := 10000) (by decide) c_8
      refine cw_Vv (As := [.int (nI k0), .int (nI k1)]) (rest := []) (c_X0_setLimit l dC dI cI cZ cJ h F V k0 (nI k1) (by omega)) fx (cwV 2 hts gX4_limit_X0_setLimit rfl rfl rfl (by decide +kernel) ⟨Nat.le_of_ble_eq_true rfl, Nat.le_of_ble_eq_true rfl⟩) hK hP hD hS hA 2 rfl rfl rfl rfl hl.1 rfl (Nat.le_of_ble_eq_true rfl) dX4_limit_36 ⟨Nat.le_of_ble_eq_true rfl, Nat.le_of_ble_eq_true rfl⟩ (fun u_10 H locs hw_11 hP hD hS => ?_)
      have hN_12 : ∀ i, i < 4 → upd (F 14) k0 (nI k1) i = nI ((nup Lm k0 k1) i) := nf_put hLm rfl
      have bN_13 : ∀ i, i < 4 → (nup Lm k0 k1) i ≤ 10000 := nb_put bLm (by omega)
      have hP : va_P (dC, dI) vwCl (wC cI cZ h (va_up F 14 (upd (F 14) k0 (nI k1))) V) H := hP
      have hD : va_D A (wC cI cZ h (va_up F 14 (upd (F 14) k0 (nI k1))) V) := hD
      refine lv_aload_n hx hb dX4_limit_39 rfl (lv_at hl 0 rfl) ?_
      refine cw_Vi (As := []) (rest := []) (c_X4_allowed l dC dI cI cZ cJ h (va_up F 14 (upd (F 14) k0 (nI k1))) V) fx (cwV 0 hts gX4_limit_X4_allowed rfl rfl rfl (by decide +kernel) ⟨Nat.le_of_ble_eq_true rfl, Nat.le_of_ble_eq_true rfl⟩) hK hP hD hS hA 0 rfl rfl rfl rfl hl.1 rfl (Nat.le_of_ble_eq_true rfl) dX4_limit_40 ⟨Nat.le_of_ble_eq_true rfl, Nat.le_of_ble_eq_true rfl⟩ (fun r_14 u_15 H locs hw_16 hP hD hS => ?_)
      have hP : va_P (dC, dI) vwCl (wC cI cZ h (va_up F 14 (upd (F 14) k0 (nI k1))) (va_up V 0 0)) H := hP
      have hD : va_D A (wC cI cZ h (va_up F 14 (upd (F 14) k0 (nI k1))) (va_up V 0 0)) := hD
      obtain rfl : r_14 = 1 := hw_16
      exact hret 1 (h, va_up F 14 (upd (F 14) k0 (nI k1)), va_up V 0 0) H locs 43 ls rfl dX4_limit_43 (by
                    have hc_ : (isW (nI k0) 0 3 && isW (nI k1) 0 10000) = true := by simp [c_4, c_8]
                    refine ⟨?_, rfl, ?_⟩
                    · (try simp only [hc_, cond_true, cond_false, nI_clamp (show k0 < 2 ^ 31 by omega), nI_clamp (show k1 < 2 ^ 31 by omega)])
                      first | done | exact rfl
                    · (try simp only [hc_, cond_true, cond_false, nI_clamp (show k0 < 2 ^ 31 by omega), nI_clamp (show k1 < 2 ^ 31 by omega)])
                      exact ⟨⟨hV1, by omega⟩, ⟨hV2, by omega⟩, ⟨hV3, by omega⟩, ⟨hV4, by omega⟩, ⟨hV5, by omega⟩, ⟨hV6, by omega⟩, ⟨hV9, by omega⟩, ⟨sh, hV11, by omega⟩, ⟨hSo, bSo⟩, ⟨hHh, bHh⟩, ⟨hWd, bWd⟩, ⟨hN_12, bN_13⟩, ⟨hPr, bPr⟩, by omega, hGP, hSU, GC_cong hGC (show (va_up F 14 (upd (F 14) k0 (nI k1))) 5 = F 5 from rfl) (show (va_up F 14 (upd (F 14) k0 (nI k1))) 6 = F 6 from rfl) (show (va_up F 14 (upd (F 14) k0 (nI k1))) 7 = F 7 from rfl) (show (va_up F 14 (upd (F 14) k0 (nI k1))) 8 = F 8 from rfl), (fun i hi => (congrFun (show (va_up F 14 (upd (F 14) k0 (nI k1))) 10 = F 10 from rfl) i).trans (hF10 i hi)), (fun i hi => (congrFun (show (va_up F 14 (upd (F 14) k0 (nI k1))) 11 = F 11 from rfl) i).trans (hF11 i hi)), KC_cong hKC (show (va_up F 14 (upd (F 14) k0 (nI k1))) 19 = F 19 from rfl) (show (va_up F 14 (upd (F 14) k0 (nI k1))) 20 = F 20 from rfl), ((show (va_up V 0 0) 7 = V 7 from rfl)).trans hE, PLC_cong hPL (show (va_up V 0 0) 8 = V 8 from rfl)⟩) (hP) (hD) hS
    · have c_8 : isW p1 0 10000 = false := bI_f hw_7 c_8
      refine lv_aload_n hx hb dX4_limit_24 rfl (lv_at hl 0 rfl) ?_
      refine lv_iconst (v := 2) hx hb dX4_limit_25 (by decide) ?_
      refine cw_Vi (As := [.int 2]) (rest := []) (c_X4_denied l dC dI cI cZ cJ h F V 2) fx (cwV 1 hts gX4_limit_X4_denied rfl rfl rfl (by decide +kernel) ⟨Nat.le_of_ble_eq_true rfl, Nat.le_of_ble_eq_true rfl⟩) hK hP hD hS hA 0 rfl rfl rfl rfl hl.1 rfl (Nat.le_of_ble_eq_true rfl) dX4_limit_26 ⟨Nat.le_of_ble_eq_true rfl, Nat.le_of_ble_eq_true rfl⟩ (fun r_17 u_18 H locs hw_19 hP hD hS => ?_)
      have hP : va_P (dC, dI) vwCl (wC cI cZ h F (va_up V 0 2)) H := hP
      have hD : va_D A (wC cI cZ h F (va_up V 0 2)) := hD
      obtain rfl : r_17 = 0 := hw_19
      exact hret 0 (h, F, va_up V 0 2) H locs 29 ls rfl dX4_limit_29 (by
                    have hc_ : (isW p0 0 3 && isW p1 0 10000) = false := by simp [c_4, c_8]
                    refine ⟨?_, rfl, ?_⟩
                    · (try simp only [hc_, cond_true, cond_false])
                      first | done | exact rfl
                    · (try simp only [hc_, cond_true, cond_false])
                      exact ⟨⟨hV1, by omega⟩, ⟨hV2, by omega⟩, ⟨hV3, by omega⟩, ⟨hV4, by omega⟩, ⟨hV5, by omega⟩, ⟨hV6, by omega⟩, ⟨hV9, by omega⟩, ⟨sh, hV11, by omega⟩, ⟨hSo, bSo⟩, ⟨hHh, bHh⟩, ⟨hWd, bWd⟩, ⟨hLm, bLm⟩, ⟨hPr, bPr⟩, by omega, hGP, hSU, GC_cong hGC (Eq.refl (F 5)) (Eq.refl (F 6)) (Eq.refl (F 7)) (Eq.refl (F 8)), (fun i hi => (congrFun (Eq.refl (F 10)) i).trans (hF10 i hi)), (fun i hi => (congrFun (Eq.refl (F 11)) i).trans (hF11 i hi)), KC_cong hKC (Eq.refl (F 19)) (Eq.refl (F 20)), ((show (va_up V 0 2) 7 = V 7 from rfl)).trans hE, PLC_cong hPL (show (va_up V 0 2) 8 = V 8 from rfl)⟩) (hP) (hD) hS
  · have c_4 : isW p0 0 3 = false := bI_f hw_3 c_4
    refine lv_aload_n hx hb dX4_limit_7 rfl (lv_at hl 0 rfl) ?_
    refine lv_iconst (v := 1) hx hb dX4_limit_8 (by decide) ?_
    refine cw_Vi (As := [.int 1]) (rest := []) (c_X4_denied l dC dI cI cZ cJ h F V 1) fx (cwV 1 hts gX4_limit_X4_denied rfl rfl rfl (by decide +kernel) ⟨Nat.le_of_ble_eq_true rfl, Nat.le_of_ble_eq_true rfl⟩) hK hP hD hS hA 0 rfl rfl rfl rfl hl.1 rfl (Nat.le_of_ble_eq_true rfl) dX4_limit_9 ⟨Nat.le_of_ble_eq_true rfl, Nat.le_of_ble_eq_true rfl⟩ (fun r_20 u_21 H locs hw_22 hP hD hS => ?_)
    have hP : va_P (dC, dI) vwCl (wC cI cZ h F (va_up V 0 1)) H := hP
    have hD : va_D A (wC cI cZ h F (va_up V 0 1)) := hD
    obtain rfl : r_20 = 0 := hw_22
    exact hret 0 (h, F, va_up V 0 1) H locs 12 ls rfl dX4_limit_12 (by
                  have hc_ : (isW p0 0 3 && isW p1 0 10000) = false := by simp [c_4]
                  refine ⟨?_, rfl, ?_⟩
                  · (try simp only [hc_, cond_true, cond_false])
                    first | done | exact rfl
                  · (try simp only [hc_, cond_true, cond_false])
                    exact ⟨⟨hV1, by omega⟩, ⟨hV2, by omega⟩, ⟨hV3, by omega⟩, ⟨hV4, by omega⟩, ⟨hV5, by omega⟩, ⟨hV6, by omega⟩, ⟨hV9, by omega⟩, ⟨sh, hV11, by omega⟩, ⟨hSo, bSo⟩, ⟨hHh, bHh⟩, ⟨hWd, bWd⟩, ⟨hLm, bLm⟩, ⟨hPr, bPr⟩, by omega, hGP, hSU, GC_cong hGC (Eq.refl (F 5)) (Eq.refl (F 6)) (Eq.refl (F 7)) (Eq.refl (F 8)), (fun i hi => (congrFun (Eq.refl (F 10)) i).trans (hF10 i hi)), (fun i hi => (congrFun (Eq.refl (F 11)) i).trans (hF11 i hi)), KC_cong hKC (Eq.refl (F 19)) (Eq.refl (F 20)), ((show (va_up V 0 1) 7 = V 7 from rfl)).trans hE, PLC_cong hPL (show (va_up V 0 1) 8 = V 8 from rfl)⟩) (hP) (hD) hS
def rm_X4_wind : Room := { frames := 2, cells := 0, slots := 0, locals := 42 }
set_option maxHeartbeats 4000000 in
set_option maxRecDepth 100000 in
theorem c_X4_wind (l : Launch) (dC : Nat → ClassId) (dI : Nat → Nat → Nat) (cI cZ cJ : ClassId) (h : Nat → Nat) (F : Nat → Nat → Int32) (V : Nat → Int32) (n : Nat) (hV1 : V 1 = nI n) (bV1 : n ≤ 40) (d : Nat) (hV2 : V 2 = nI d) (bV2 : d ≤ 20) (ks : Nat) (hV3 : V 3 = nI ks) (bV3 : ks ≤ 40) (nw : Nat) (hV4 : V 4 = nI nw) (bV4 : nw ≤ 23) (un : Nat) (hV5 : V 5 = nI un) (bV5 : un ≤ 200) (wm : Nat) (hV6 : V 6 = nI wm) (bV6 : wm ≤ 1) (pf : Nat) (hV9 : V 9 = nI pf) (bV9 : pf ≤ 24) (sh : Nat) (hV11 : V 11 = nI sh) (bV11 : sh ≤ 12) (So : Nat → Nat) (hSo : ∀ i, i < 40 → F 9 i = nI (So i)) (bSo : ∀ i, i < 40 → So i ≤ 90) (Hh : Nat → Nat) (hHh : ∀ i, i < 24 → F 12 i = nI (Hh i)) (bHh : ∀ i, i < 24 → Hh i ≤ 9) (Wd : Nat → Nat) (hWd : ∀ i, i < 24 → F 13 i = nI (Wd i)) (bWd : ∀ i, i < 24 → Wd i ≤ 99) (Lm : Nat → Nat) (hLm : ∀ i, i < 4 → F 14 i = nI (Lm i)) (bLm : ∀ i, i < 4 → Lm i ≤ 10000) (Pr : Nat → Nat) (hPr : ∀ i, i < 24 → F 23 i = nI (Pr i)) (bPr : ∀ i, i < 24 → Pr i ≤ 999) (p0 p1 : Int32)  (X Y : Nat → Nat) (SX SY Kc Kp : Nat → Int32) (er : Int32) (rb : Nat → Bool) (hkn : ks ≤ n) (hGP : GP n X Y) (hSU : SUN SX SY) (hGC : GC n X Y F) (hF10 : ∀ i, i < 24 → F 10 i = SX i) (hF11 : ∀ i, i < 24 → F 11 i = SY i) (hKC : KC ks Kc Kp F) (hE : V 7 = er) (hPL : PLC pf rb V) : CtI l (dC, dI) vwCl (tys3 cI cZ cJ) yX4_wind wsX4_wind rm_X4_wind [.ref (h 0), .int p0, .int p1] (wC cI cZ h F V) (S := (Nat → Nat) × (Nat → Nat → Int32) × (Nat → Int32)) (fun r u => (r = bI (isW p0 0 23 && isW p1 0 99)) ∧ u.1 0 = h 0 ∧ VC n d ks nw un wm pf So Hh (bif (isW p0 0 23 && isW p1 0 99) then nup Wd p0.toNatClampNeg p1.toNatClampNeg else Wd) Lm Pr X Y SX SY Kc Kp er rb u.2.1 u.2.2) (fun u => wC cI cZ u.1 u.2.1 u.2.2) 0 0 := by
  refine ct_I (cc := cX4_wind) (maxL := 3) (ty := .boolean) (own := RX4) (by decide) rfl rfl (Nat.le_of_ble_eq_true rfl) (lv := [(0, .ref (h 0)), (1, .int p0), (2, .int p1)]) rfl ?_
  intro p e s m args below meth c A Q ls fx hK hP hD hA hl hret
  obtain ⟨hx, hb, hml, hown, hts⟩ := id fx
  have hS : va_S A s.heap s.heap [] := va_S.rf
  have hw0 := hts (.fieldLink RX4 10 "MirrorTower" "field" "LMirrorTower$Field;") (by decide +kernel)
  have hin_X4 : ∀ w ∈ u_ws RX4 TX4 5, w ∈ wsX4_wind := by decide +kernel
  obtain ⟨H, hH⟩ : ∃ H, H = s.heap := ⟨_, rfl⟩
  rw [← hH] at hP ⊢
  have hS : va_S A s.heap H [] := by rw [hH]; exact hS
  generalize ([] : List Loc) = locs at hS ⊢
  refine lv_iload_n hx hb dX4_wind_0 rfl (lv_at hl 1 rfl) ?_
  refine cw_Si (As := [.int p0]) (rest := []) (c_X4_isHour l dC dI cI cZ cJ (wC cI cZ h F V) p0) fx (va_cwS 1 hts gX4_wind_X4_isHour rfl rfl rfl (by decide +kernel) ⟨Nat.le_of_ble_eq_true rfl, Nat.le_of_ble_eq_true rfl⟩) hK hP hD hS hA rfl hl.1 rfl (Nat.le_of_ble_eq_true rfl) dX4_wind_1 ⟨Nat.le_of_ble_eq_true rfl, Nat.le_of_ble_eq_true rfl⟩ (fun r_1 u_2 H locs hw_3 hP hD hS => ?_)
  have hP : va_P (dC, dI) vwCl (wC cI cZ h F V) H := hP
  have hD : va_D A (wC cI cZ h F V) := hD
  have hw_3 : r_1 = bI (isW p0 0 23) := hw_3
  refine lv_if_eq (tgt := 17) hx hb dX4_wind_4 (by decide) (fun c_4 => ?_) (fun c_4 => ?_)
  · have c_4 : isW p0 0 23 = false := bI_f hw_3 c_4
    refine lv_aload_n hx hb dX4_wind_17 rfl (lv_at hl 0 rfl) ?_
    refine lv_iconst (v := 2) hx hb dX4_wind_18 (by decide) ?_
    refine cw_Vi (As := [.int 2]) (rest := []) (c_X4_denied l dC dI cI cZ cJ h F V 2) fx (cwV 1 hts gX4_wind_X4_denied rfl rfl rfl (by decide +kernel) ⟨Nat.le_of_ble_eq_true rfl, Nat.le_of_ble_eq_true rfl⟩) hK hP hD hS hA 0 rfl rfl rfl rfl hl.1 rfl (Nat.le_of_ble_eq_true rfl) dX4_wind_19 ⟨Nat.le_of_ble_eq_true rfl, Nat.le_of_ble_eq_true rfl⟩ (fun r_5 u_6 H locs hw_7 hP hD hS => ?_)
    have hP : va_P (dC, dI) vwCl (wC cI cZ h F (va_up V 0 2)) H := hP
    have hD : va_D A (wC cI cZ h F (va_up V 0 2)) := hD
    obtain rfl : r_5 = 0 := hw_7
    exact hret 0 (h, F, va_up V 0 2) H locs 22 ls rfl dX4_wind_22 (by
                  have hc_ : (isW p0 0 23 && isW p1 0 99) = false := by simp [c_4]
                  refine ⟨?_, rfl, ?_⟩
                  · (try simp only [hc_, cond_true, cond_false])
                    first | done | exact rfl
                  · (try simp only [hc_, cond_true, cond_false])
                    exact ⟨⟨hV1, by omega⟩, ⟨hV2, by omega⟩, ⟨hV3, by omega⟩, ⟨hV4, by omega⟩, ⟨hV5, by omega⟩, ⟨hV6, by omega⟩, ⟨hV9, by omega⟩, ⟨sh, hV11, by omega⟩, ⟨hSo, bSo⟩, ⟨hHh, bHh⟩, ⟨hWd, bWd⟩, ⟨hLm, bLm⟩, ⟨hPr, bPr⟩, by omega, hGP, hSU, GC_cong hGC (Eq.refl (F 5)) (Eq.refl (F 6)) (Eq.refl (F 7)) (Eq.refl (F 8)), (fun i hi => (congrFun (Eq.refl (F 10)) i).trans (hF10 i hi)), (fun i hi => (congrFun (Eq.refl (F 11)) i).trans (hF11 i hi)), KC_cong hKC (Eq.refl (F 19)) (Eq.refl (F 20)), ((show (va_up V 0 2) 7 = V 7 from rfl)).trans hE, PLC_cong hPL (show (va_up V 0 2) 8 = V 8 from rfl)⟩) (hP) (hD) hS
  · have c_4 : isW p0 0 23 = true := bI_t hw_3 c_4
    refine lv_iload_n hx hb dX4_wind_7 rfl (lv_at hl 2 rfl) ?_
    refine lv_iconst (v := 0) hx hb dX4_wind_8 (by decide) ?_
    refine lv_bipush (v := 99) hx hb dX4_wind_9 (by decide) ?_
    refine cw_Si (As := [.int p1, .int 0, .int 99]) (rest := []) (c_X4_isWithin l dC dI cI cZ cJ (wC cI cZ h F V) p1 0 99) fx (va_cwS 3 hts gX4_wind_X4_isWithin rfl rfl rfl (by decide +kernel) ⟨Nat.le_of_ble_eq_true rfl, Nat.le_of_ble_eq_true rfl⟩) hK hP hD hS hA rfl hl.1 rfl (Nat.le_of_ble_eq_true rfl) dX4_wind_11 ⟨Nat.le_of_ble_eq_true rfl, Nat.le_of_ble_eq_true rfl⟩ (fun r_8 u_9 H locs hw_10 hP hD hS => ?_)
    have hP : va_P (dC, dI) vwCl (wC cI cZ h F V) H := hP
    have hD : va_D A (wC cI cZ h F V) := hD
    have hw_10 : r_8 = bI (isW p1 0 99) := hw_10
    refine lv_if_ne (tgt := 23) hx hb dX4_wind_14 (by decide) (fun c_11 => ?_) (fun c_11 => ?_)
    · have c_11 : isW p1 0 99 = true := bI_t hw_10 c_11
      refine lv_aload_n hx hb dX4_wind_23 rfl (lv_at hl 0 rfl) ?_
      refine va_get (D := (dC, dI)) (ci := 4) (v := .ref (h 1)) (C := RX4) (T := TX4) (N := 5) hx hb hts hin_X4 hown hK hP 0 rfl rfl 0 (by decide) hw0 (fun _ h9 => h9) rfl dX4_wind_24 ?_
      refine lv_iload_n hx hb dX4_wind_27 rfl (lv_at hl 1 rfl) ?_
      refine lv_iload_n hx hb dX4_wind_28 rfl (lv_at hl 2 rfl) ?_
      obtain ⟨k0, hk0, rfl⟩ := isW_nat (M := 23) (n := 23) (by decide) c_4
      obtain ⟨k1, hk1, rfl⟩ := isW_nat (M := 99) (n := 99) (by decide) c_11
      refine cw_Vv (As := [.int (nI k0), .int (nI k1)]) (rest := []) (c_X1_setWind l dC dI cI cZ cJ h F V k0 (nI k1) (by omega)) fx (cwV 2 hts gX4_wind_X1_setWind rfl rfl rfl (by decide +kernel) ⟨Nat.le_of_ble_eq_true rfl, Nat.le_of_ble_eq_true rfl⟩) hK hP hD hS hA 1 rfl rfl rfl rfl hl.1 rfl (Nat.le_of_ble_eq_true rfl) dX4_wind_29 ⟨Nat.le_of_ble_eq_true rfl, Nat.le_of_ble_eq_true rfl⟩ (fun u_13 H locs hw_14 hP hD hS => ?_)
      have hN_15 : ∀ i, i < 24 → upd (F 13) k0 (nI k1) i = nI ((nup Wd k0 k1) i) := nf_put hWd rfl
      have bN_16 : ∀ i, i < 24 → (nup Wd k0 k1) i ≤ 99 := nb_put bWd (by omega)
      have hP : va_P (dC, dI) vwCl (wC cI cZ h (va_up F 13 (upd (F 13) k0 (nI k1))) V) H := hP
      have hD : va_D A (wC cI cZ h (va_up F 13 (upd (F 13) k0 (nI k1))) V) := hD
      refine lv_aload_n hx hb dX4_wind_32 rfl (lv_at hl 0 rfl) ?_
      refine cw_Vi (As := []) (rest := []) (c_X4_allowed l dC dI cI cZ cJ h (va_up F 13 (upd (F 13) k0 (nI k1))) V) fx (cwV 0 hts gX4_wind_X4_allowed rfl rfl rfl (by decide +kernel) ⟨Nat.le_of_ble_eq_true rfl, Nat.le_of_ble_eq_true rfl⟩) hK hP hD hS hA 0 rfl rfl rfl rfl hl.1 rfl (Nat.le_of_ble_eq_true rfl) dX4_wind_33 ⟨Nat.le_of_ble_eq_true rfl, Nat.le_of_ble_eq_true rfl⟩ (fun r_17 u_18 H locs hw_19 hP hD hS => ?_)
      have hP : va_P (dC, dI) vwCl (wC cI cZ h (va_up F 13 (upd (F 13) k0 (nI k1))) (va_up V 0 0)) H := hP
      have hD : va_D A (wC cI cZ h (va_up F 13 (upd (F 13) k0 (nI k1))) (va_up V 0 0)) := hD
      obtain rfl : r_17 = 1 := hw_19
      exact hret 1 (h, va_up F 13 (upd (F 13) k0 (nI k1)), va_up V 0 0) H locs 36 ls rfl dX4_wind_36 (by
                    have hc_ : (isW (nI k0) 0 23 && isW (nI k1) 0 99) = true := by simp [c_4, c_11]
                    refine ⟨?_, rfl, ?_⟩
                    · (try simp only [hc_, cond_true, cond_false, nI_clamp (show k0 < 2 ^ 31 by omega), nI_clamp (show k1 < 2 ^ 31 by omega)])
                      first | done | exact rfl
                    · (try simp only [hc_, cond_true, cond_false, nI_clamp (show k0 < 2 ^ 31 by omega), nI_clamp (show k1 < 2 ^ 31 by omega)])
                      exact ⟨⟨hV1, by omega⟩, ⟨hV2, by omega⟩, ⟨hV3, by omega⟩, ⟨hV4, by omega⟩, ⟨hV5, by omega⟩, ⟨hV6, by omega⟩, ⟨hV9, by omega⟩, ⟨sh, hV11, by omega⟩, ⟨hSo, bSo⟩, ⟨hHh, bHh⟩, ⟨hN_15, bN_16⟩, ⟨hLm, bLm⟩, ⟨hPr, bPr⟩, by omega, hGP, hSU, GC_cong hGC (show (va_up F 13 (upd (F 13) k0 (nI k1))) 5 = F 5 from rfl) (show (va_up F 13 (upd (F 13) k0 (nI k1))) 6 = F 6 from rfl) (show (va_up F 13 (upd (F 13) k0 (nI k1))) 7 = F 7 from rfl) (show (va_up F 13 (upd (F 13) k0 (nI k1))) 8 = F 8 from rfl), (fun i hi => (congrFun (show (va_up F 13 (upd (F 13) k0 (nI k1))) 10 = F 10 from rfl) i).trans (hF10 i hi)), (fun i hi => (congrFun (show (va_up F 13 (upd (F 13) k0 (nI k1))) 11 = F 11 from rfl) i).trans (hF11 i hi)), KC_cong hKC (show (va_up F 13 (upd (F 13) k0 (nI k1))) 19 = F 19 from rfl) (show (va_up F 13 (upd (F 13) k0 (nI k1))) 20 = F 20 from rfl), ((show (va_up V 0 0) 7 = V 7 from rfl)).trans hE, PLC_cong hPL (show (va_up V 0 0) 8 = V 8 from rfl)⟩) (hP) (hD) hS
    · have c_11 : isW p1 0 99 = false := bI_f hw_10 c_11
      refine lv_aload_n hx hb dX4_wind_17 rfl (lv_at hl 0 rfl) ?_
      refine lv_iconst (v := 2) hx hb dX4_wind_18 (by decide) ?_
      refine cw_Vi (As := [.int 2]) (rest := []) (c_X4_denied l dC dI cI cZ cJ h F V 2) fx (cwV 1 hts gX4_wind_X4_denied rfl rfl rfl (by decide +kernel) ⟨Nat.le_of_ble_eq_true rfl, Nat.le_of_ble_eq_true rfl⟩) hK hP hD hS hA 0 rfl rfl rfl rfl hl.1 rfl (Nat.le_of_ble_eq_true rfl) dX4_wind_19 ⟨Nat.le_of_ble_eq_true rfl, Nat.le_of_ble_eq_true rfl⟩ (fun r_20 u_21 H locs hw_22 hP hD hS => ?_)
      have hP : va_P (dC, dI) vwCl (wC cI cZ h F (va_up V 0 2)) H := hP
      have hD : va_D A (wC cI cZ h F (va_up V 0 2)) := hD
      obtain rfl : r_20 = 0 := hw_22
      exact hret 0 (h, F, va_up V 0 2) H locs 22 ls rfl dX4_wind_22 (by
                    have hc_ : (isW p0 0 23 && isW p1 0 99) = false := by simp [c_4, c_11]
                    refine ⟨?_, rfl, ?_⟩
                    · (try simp only [hc_, cond_true, cond_false])
                      first | done | exact rfl
                    · (try simp only [hc_, cond_true, cond_false])
                      exact ⟨⟨hV1, by omega⟩, ⟨hV2, by omega⟩, ⟨hV3, by omega⟩, ⟨hV4, by omega⟩, ⟨hV5, by omega⟩, ⟨hV6, by omega⟩, ⟨hV9, by omega⟩, ⟨sh, hV11, by omega⟩, ⟨hSo, bSo⟩, ⟨hHh, bHh⟩, ⟨hWd, bWd⟩, ⟨hLm, bLm⟩, ⟨hPr, bPr⟩, by omega, hGP, hSU, GC_cong hGC (Eq.refl (F 5)) (Eq.refl (F 6)) (Eq.refl (F 7)) (Eq.refl (F 8)), (fun i hi => (congrFun (Eq.refl (F 10)) i).trans (hF10 i hi)), (fun i hi => (congrFun (Eq.refl (F 11)) i).trans (hF11 i hi)), KC_cong hKC (Eq.refl (F 19)) (Eq.refl (F 20)), ((show (va_up V 0 2) 7 = V 7 from rfl)).trans hE, PLC_cong hPL (show (va_up V 0 2) 8 = V 8 from rfl)⟩) (hP) (hD) hS
def rm_X4_price : Room := { frames := 2, cells := 0, slots := 0, locals := 42 }
set_option maxHeartbeats 4000000 in
set_option maxRecDepth 100000 in
theorem c_X4_price (l : Launch) (dC : Nat → ClassId) (dI : Nat → Nat → Nat) (cI cZ cJ : ClassId) (h : Nat → Nat) (F : Nat → Nat → Int32) (V : Nat → Int32) (n : Nat) (hV1 : V 1 = nI n) (bV1 : n ≤ 40) (d : Nat) (hV2 : V 2 = nI d) (bV2 : d ≤ 20) (ks : Nat) (hV3 : V 3 = nI ks) (bV3 : ks ≤ 40) (nw : Nat) (hV4 : V 4 = nI nw) (bV4 : nw ≤ 23) (un : Nat) (hV5 : V 5 = nI un) (bV5 : un ≤ 200) (wm : Nat) (hV6 : V 6 = nI wm) (bV6 : wm ≤ 1) (pf : Nat) (hV9 : V 9 = nI pf) (bV9 : pf ≤ 24) (sh : Nat) (hV11 : V 11 = nI sh) (bV11 : sh ≤ 12) (So : Nat → Nat) (hSo : ∀ i, i < 40 → F 9 i = nI (So i)) (bSo : ∀ i, i < 40 → So i ≤ 90) (Hh : Nat → Nat) (hHh : ∀ i, i < 24 → F 12 i = nI (Hh i)) (bHh : ∀ i, i < 24 → Hh i ≤ 9) (Wd : Nat → Nat) (hWd : ∀ i, i < 24 → F 13 i = nI (Wd i)) (bWd : ∀ i, i < 24 → Wd i ≤ 99) (Lm : Nat → Nat) (hLm : ∀ i, i < 4 → F 14 i = nI (Lm i)) (bLm : ∀ i, i < 4 → Lm i ≤ 10000) (Pr : Nat → Nat) (hPr : ∀ i, i < 24 → F 23 i = nI (Pr i)) (bPr : ∀ i, i < 24 → Pr i ≤ 999) (p0 p1 : Int32)  (X Y : Nat → Nat) (SX SY Kc Kp : Nat → Int32) (er : Int32) (rb : Nat → Bool) (hkn : ks ≤ n) (hGP : GP n X Y) (hSU : SUN SX SY) (hGC : GC n X Y F) (hF10 : ∀ i, i < 24 → F 10 i = SX i) (hF11 : ∀ i, i < 24 → F 11 i = SY i) (hKC : KC ks Kc Kp F) (hE : V 7 = er) (hPL : PLC pf rb V) : CtI l (dC, dI) vwCl (tys3 cI cZ cJ) yX4_price wsX4_price rm_X4_price [.ref (h 0), .int p0, .int p1] (wC cI cZ h F V) (S := (Nat → Nat) × (Nat → Nat → Int32) × (Nat → Int32)) (fun r u => (r = bI (isW p0 0 23 && isW p1 0 999)) ∧ u.1 0 = h 0 ∧ VC n d ks nw un wm pf So Hh Wd Lm (bif (isW p0 0 23 && isW p1 0 999) then nup Pr p0.toNatClampNeg p1.toNatClampNeg else Pr) X Y SX SY Kc Kp er rb u.2.1 u.2.2) (fun u => wC cI cZ u.1 u.2.1 u.2.2) 0 0 := by
  refine ct_I (cc := cX4_price) (maxL := 3) (ty := .boolean) (own := RX4) (by decide) rfl rfl (Nat.le_of_ble_eq_true rfl) (lv := [(0, .ref (h 0)), (1, .int p0), (2, .int p1)]) rfl ?_
  intro p e s m args below meth c A Q ls fx hK hP hD hA hl hret
  obtain ⟨hx, hb, hml, hown, hts⟩ := id fx
  have hS : va_S A s.heap s.heap [] := va_S.rf
  have hw0 := hts (.fieldLink RX4 30 "MirrorTower" "store" "LMirrorTower$Store;") (by decide +kernel)
  have hin_X4 : ∀ w ∈ u_ws RX4 TX4 5, w ∈ wsX4_price := by decide +kernel
  obtain ⟨H, hH⟩ : ∃ H, H = s.heap := ⟨_, rfl⟩
  rw [← hH] at hP ⊢
  have hS : va_S A s.heap H [] := by rw [hH]; exact hS
  generalize ([] : List Loc) = locs at hS ⊢
  refine lv_iload_n hx hb dX4_price_0 rfl (lv_at hl 1 rfl) ?_
  refine cw_Si (As := [.int p0]) (rest := []) (c_X4_isHour l dC dI cI cZ cJ (wC cI cZ h F V) p0) fx (va_cwS 1 hts gX4_price_X4_isHour rfl rfl rfl (by decide +kernel) ⟨Nat.le_of_ble_eq_true rfl, Nat.le_of_ble_eq_true rfl⟩) hK hP hD hS hA rfl hl.1 rfl (Nat.le_of_ble_eq_true rfl) dX4_price_1 ⟨Nat.le_of_ble_eq_true rfl, Nat.le_of_ble_eq_true rfl⟩ (fun r_1 u_2 H locs hw_3 hP hD hS => ?_)
  have hP : va_P (dC, dI) vwCl (wC cI cZ h F V) H := hP
  have hD : va_D A (wC cI cZ h F V) := hD
  have hw_3 : r_1 = bI (isW p0 0 23) := hw_3
  refine lv_if_eq (tgt := 18) hx hb dX4_price_4 (by decide) (fun c_4 => ?_) (fun c_4 => ?_)
  · have c_4 : isW p0 0 23 = false := bI_f hw_3 c_4
    refine lv_aload_n hx hb dX4_price_18 rfl (lv_at hl 0 rfl) ?_
    refine lv_iconst (v := 2) hx hb dX4_price_19 (by decide) ?_
    refine cw_Vi (As := [.int 2]) (rest := []) (c_X4_denied l dC dI cI cZ cJ h F V 2) fx (cwV 1 hts gX4_price_X4_denied rfl rfl rfl (by decide +kernel) ⟨Nat.le_of_ble_eq_true rfl, Nat.le_of_ble_eq_true rfl⟩) hK hP hD hS hA 0 rfl rfl rfl rfl hl.1 rfl (Nat.le_of_ble_eq_true rfl) dX4_price_20 ⟨Nat.le_of_ble_eq_true rfl, Nat.le_of_ble_eq_true rfl⟩ (fun r_5 u_6 H locs hw_7 hP hD hS => ?_)
    have hP : va_P (dC, dI) vwCl (wC cI cZ h F (va_up V 0 2)) H := hP
    have hD : va_D A (wC cI cZ h F (va_up V 0 2)) := hD
    obtain rfl : r_5 = 0 := hw_7
    exact hret 0 (h, F, va_up V 0 2) H locs 23 ls rfl dX4_price_23 (by
                  have hc_ : (isW p0 0 23 && isW p1 0 999) = false := by simp [c_4]
                  refine ⟨?_, rfl, ?_⟩
                  · (try simp only [hc_, cond_true, cond_false])
                    first | done | exact rfl
                  · (try simp only [hc_, cond_true, cond_false])
                    exact ⟨⟨hV1, by omega⟩, ⟨hV2, by omega⟩, ⟨hV3, by omega⟩, ⟨hV4, by omega⟩, ⟨hV5, by omega⟩, ⟨hV6, by omega⟩, ⟨hV9, by omega⟩, ⟨sh, hV11, by omega⟩, ⟨hSo, bSo⟩, ⟨hHh, bHh⟩, ⟨hWd, bWd⟩, ⟨hLm, bLm⟩, ⟨hPr, bPr⟩, by omega, hGP, hSU, GC_cong hGC (Eq.refl (F 5)) (Eq.refl (F 6)) (Eq.refl (F 7)) (Eq.refl (F 8)), (fun i hi => (congrFun (Eq.refl (F 10)) i).trans (hF10 i hi)), (fun i hi => (congrFun (Eq.refl (F 11)) i).trans (hF11 i hi)), KC_cong hKC (Eq.refl (F 19)) (Eq.refl (F 20)), ((show (va_up V 0 2) 7 = V 7 from rfl)).trans hE, PLC_cong hPL (show (va_up V 0 2) 8 = V 8 from rfl)⟩) (hP) (hD) hS
  · have c_4 : isW p0 0 23 = true := bI_t hw_3 c_4
    refine lv_iload_n hx hb dX4_price_7 rfl (lv_at hl 2 rfl) ?_
    refine lv_iconst (v := 0) hx hb dX4_price_8 (by decide) ?_
    refine lv_sipush (v := 999) hx hb dX4_price_9 (by decide) ?_
    refine cw_Si (As := [.int p1, .int 0, .int 999]) (rest := []) (c_X4_isWithin l dC dI cI cZ cJ (wC cI cZ h F V) p1 0 999) fx (va_cwS 3 hts gX4_price_X4_isWithin rfl rfl rfl (by decide +kernel) ⟨Nat.le_of_ble_eq_true rfl, Nat.le_of_ble_eq_true rfl⟩) hK hP hD hS hA rfl hl.1 rfl (Nat.le_of_ble_eq_true rfl) dX4_price_12 ⟨Nat.le_of_ble_eq_true rfl, Nat.le_of_ble_eq_true rfl⟩ (fun r_8 u_9 H locs hw_10 hP hD hS => ?_)
    have hP : va_P (dC, dI) vwCl (wC cI cZ h F V) H := hP
    have hD : va_D A (wC cI cZ h F V) := hD
    have hw_10 : r_8 = bI (isW p1 0 999) := hw_10
    refine lv_if_ne (tgt := 24) hx hb dX4_price_15 (by decide) (fun c_11 => ?_) (fun c_11 => ?_)
    · have c_11 : isW p1 0 999 = true := bI_t hw_10 c_11
      refine lv_aload_n hx hb dX4_price_24 rfl (lv_at hl 0 rfl) ?_
      refine va_get (D := (dC, dI)) (ci := 4) (v := .ref (h 3)) (C := RX4) (T := TX4) (N := 5) hx hb hts hin_X4 hown hK hP 0 rfl rfl 2 (by decide) hw0 (fun _ h9 => h9) rfl dX4_price_25 ?_
      refine lv_iload_n hx hb dX4_price_28 rfl (lv_at hl 1 rfl) ?_
      refine lv_iload_n hx hb dX4_price_29 rfl (lv_at hl 2 rfl) ?_
      obtain ⟨k0, hk0, rfl⟩ := isW_nat (M := 23) (n := 23) (by decide) c_4
      obtain ⟨k1, hk1, rfl⟩ := isW_nat (M := 999) (n := 999) (by decide) c_11
      refine cw_Vv (As := [.int (nI k0), .int (nI k1)]) (rest := []) (c_X3_setPrice l dC dI cI cZ cJ h F V k0 (nI k1) (by omega)) fx (cwV 2 hts gX4_price_X3_setPrice rfl rfl rfl (by decide +kernel) ⟨Nat.le_of_ble_eq_true rfl, Nat.le_of_ble_eq_true rfl⟩) hK hP hD hS hA 3 rfl rfl rfl rfl hl.1 rfl (Nat.le_of_ble_eq_true rfl) dX4_price_30 ⟨Nat.le_of_ble_eq_true rfl, Nat.le_of_ble_eq_true rfl⟩ (fun u_13 H locs hw_14 hP hD hS => ?_)
      have hN_15 : ∀ i, i < 24 → upd (F 23) k0 (nI k1) i = nI ((nup Pr k0 k1) i) := nf_put hPr rfl
      have bN_16 : ∀ i, i < 24 → (nup Pr k0 k1) i ≤ 999 := nb_put bPr (by omega)
      have hP : va_P (dC, dI) vwCl (wC cI cZ h (va_up F 23 (upd (F 23) k0 (nI k1))) V) H := hP
      have hD : va_D A (wC cI cZ h (va_up F 23 (upd (F 23) k0 (nI k1))) V) := hD
      refine lv_aload_n hx hb dX4_price_33 rfl (lv_at hl 0 rfl) ?_
      refine cw_Vi (As := []) (rest := []) (c_X4_allowed l dC dI cI cZ cJ h (va_up F 23 (upd (F 23) k0 (nI k1))) V) fx (cwV 0 hts gX4_price_X4_allowed rfl rfl rfl (by decide +kernel) ⟨Nat.le_of_ble_eq_true rfl, Nat.le_of_ble_eq_true rfl⟩) hK hP hD hS hA 0 rfl rfl rfl rfl hl.1 rfl (Nat.le_of_ble_eq_true rfl) dX4_price_34 ⟨Nat.le_of_ble_eq_true rfl, Nat.le_of_ble_eq_true rfl⟩ (fun r_17 u_18 H locs hw_19 hP hD hS => ?_)
      have hP : va_P (dC, dI) vwCl (wC cI cZ h (va_up F 23 (upd (F 23) k0 (nI k1))) (va_up V 0 0)) H := hP
      have hD : va_D A (wC cI cZ h (va_up F 23 (upd (F 23) k0 (nI k1))) (va_up V 0 0)) := hD
      obtain rfl : r_17 = 1 := hw_19
      exact hret 1 (h, va_up F 23 (upd (F 23) k0 (nI k1)), va_up V 0 0) H locs 37 ls rfl dX4_price_37 (by
                    have hc_ : (isW (nI k0) 0 23 && isW (nI k1) 0 999) = true := by simp [c_4, c_11]
                    refine ⟨?_, rfl, ?_⟩
                    · (try simp only [hc_, cond_true, cond_false, nI_clamp (show k0 < 2 ^ 31 by omega), nI_clamp (show k1 < 2 ^ 31 by omega)])
                      first | done | exact rfl
                    · (try simp only [hc_, cond_true, cond_false, nI_clamp (show k0 < 2 ^ 31 by omega), nI_clamp (show k1 < 2 ^ 31 by omega)])
                      exact ⟨⟨hV1, by omega⟩, ⟨hV2, by omega⟩, ⟨hV3, by omega⟩, ⟨hV4, by omega⟩, ⟨hV5, by omega⟩, ⟨hV6, by omega⟩, ⟨hV9, by omega⟩, ⟨sh, hV11, by omega⟩, ⟨hSo, bSo⟩, ⟨hHh, bHh⟩, ⟨hWd, bWd⟩, ⟨hLm, bLm⟩, ⟨hN_15, bN_16⟩, by omega, hGP, hSU, GC_cong hGC (show (va_up F 23 (upd (F 23) k0 (nI k1))) 5 = F 5 from rfl) (show (va_up F 23 (upd (F 23) k0 (nI k1))) 6 = F 6 from rfl) (show (va_up F 23 (upd (F 23) k0 (nI k1))) 7 = F 7 from rfl) (show (va_up F 23 (upd (F 23) k0 (nI k1))) 8 = F 8 from rfl), (fun i hi => (congrFun (show (va_up F 23 (upd (F 23) k0 (nI k1))) 10 = F 10 from rfl) i).trans (hF10 i hi)), (fun i hi => (congrFun (show (va_up F 23 (upd (F 23) k0 (nI k1))) 11 = F 11 from rfl) i).trans (hF11 i hi)), KC_cong hKC (show (va_up F 23 (upd (F 23) k0 (nI k1))) 19 = F 19 from rfl) (show (va_up F 23 (upd (F 23) k0 (nI k1))) 20 = F 20 from rfl), ((show (va_up V 0 0) 7 = V 7 from rfl)).trans hE, PLC_cong hPL (show (va_up V 0 0) 8 = V 8 from rfl)⟩) (hP) (hD) hS
    · have c_11 : isW p1 0 999 = false := bI_f hw_10 c_11
      refine lv_aload_n hx hb dX4_price_18 rfl (lv_at hl 0 rfl) ?_
      refine lv_iconst (v := 2) hx hb dX4_price_19 (by decide) ?_
      refine cw_Vi (As := [.int 2]) (rest := []) (c_X4_denied l dC dI cI cZ cJ h F V 2) fx (cwV 1 hts gX4_price_X4_denied rfl rfl rfl (by decide +kernel) ⟨Nat.le_of_ble_eq_true rfl, Nat.le_of_ble_eq_true rfl⟩) hK hP hD hS hA 0 rfl rfl rfl rfl hl.1 rfl (Nat.le_of_ble_eq_true rfl) dX4_price_20 ⟨Nat.le_of_ble_eq_true rfl, Nat.le_of_ble_eq_true rfl⟩ (fun r_20 u_21 H locs hw_22 hP hD hS => ?_)
      have hP : va_P (dC, dI) vwCl (wC cI cZ h F (va_up V 0 2)) H := hP
      have hD : va_D A (wC cI cZ h F (va_up V 0 2)) := hD
      obtain rfl : r_20 = 0 := hw_22
      exact hret 0 (h, F, va_up V 0 2) H locs 23 ls rfl dX4_price_23 (by
                    have hc_ : (isW p0 0 23 && isW p1 0 999) = false := by simp [c_4, c_11]
                    refine ⟨?_, rfl, ?_⟩
                    · (try simp only [hc_, cond_true, cond_false])
                      first | done | exact rfl
                    · (try simp only [hc_, cond_true, cond_false])
                      exact ⟨⟨hV1, by omega⟩, ⟨hV2, by omega⟩, ⟨hV3, by omega⟩, ⟨hV4, by omega⟩, ⟨hV5, by omega⟩, ⟨hV6, by omega⟩, ⟨hV9, by omega⟩, ⟨sh, hV11, by omega⟩, ⟨hSo, bSo⟩, ⟨hHh, bHh⟩, ⟨hWd, bWd⟩, ⟨hLm, bLm⟩, ⟨hPr, bPr⟩, by omega, hGP, hSU, GC_cong hGC (Eq.refl (F 5)) (Eq.refl (F 6)) (Eq.refl (F 7)) (Eq.refl (F 8)), (fun i hi => (congrFun (Eq.refl (F 10)) i).trans (hF10 i hi)), (fun i hi => (congrFun (Eq.refl (F 11)) i).trans (hF11 i hi)), KC_cong hKC (Eq.refl (F 19)) (Eq.refl (F 20)), ((show (va_up V 0 2) 7 = V 7 from rfl)).trans hE, PLC_cong hPL (show (va_up V 0 2) 8 = V 8 from rfl)⟩) (hP) (hD) hS
def rm_X4_dust : Room := { frames := 1, cells := 0, slots := 0, locals := 22 }
set_option maxHeartbeats 4000000 in
set_option maxRecDepth 100000 in
theorem c_X4_dust (l : Launch) (dC : Nat → ClassId) (dI : Nat → Nat → Nat) (cI cZ cJ : ClassId) (h : Nat → Nat) (F : Nat → Nat → Int32) (V : Nat → Int32) (n : Nat) (hV1 : V 1 = nI n) (bV1 : n ≤ 40) (d : Nat) (hV2 : V 2 = nI d) (bV2 : d ≤ 20) (ks : Nat) (hV3 : V 3 = nI ks) (bV3 : ks ≤ 40) (nw : Nat) (hV4 : V 4 = nI nw) (bV4 : nw ≤ 23) (un : Nat) (hV5 : V 5 = nI un) (bV5 : un ≤ 200) (wm : Nat) (hV6 : V 6 = nI wm) (bV6 : wm ≤ 1) (pf : Nat) (hV9 : V 9 = nI pf) (bV9 : pf ≤ 24) (sh : Nat) (hV11 : V 11 = nI sh) (bV11 : sh ≤ 12) (So : Nat → Nat) (hSo : ∀ i, i < 40 → F 9 i = nI (So i)) (bSo : ∀ i, i < 40 → So i ≤ 90) (Hh : Nat → Nat) (hHh : ∀ i, i < 24 → F 12 i = nI (Hh i)) (bHh : ∀ i, i < 24 → Hh i ≤ 9) (Wd : Nat → Nat) (hWd : ∀ i, i < 24 → F 13 i = nI (Wd i)) (bWd : ∀ i, i < 24 → Wd i ≤ 99) (Lm : Nat → Nat) (hLm : ∀ i, i < 4 → F 14 i = nI (Lm i)) (bLm : ∀ i, i < 4 → Lm i ≤ 10000) (Pr : Nat → Nat) (hPr : ∀ i, i < 24 → F 23 i = nI (Pr i)) (bPr : ∀ i, i < 24 → Pr i ≤ 999) (p0 : Int32)  (X Y : Nat → Nat) (SX SY Kc Kp : Nat → Int32) (er : Int32) (rb : Nat → Bool) (hkn : ks ≤ n) (hGP : GP n X Y) (hSU : SUN SX SY) (hGC : GC n X Y F) (hF10 : ∀ i, i < 24 → F 10 i = SX i) (hF11 : ∀ i, i < 24 → F 11 i = SY i) (hKC : KC ks Kc Kp F) (hE : V 7 = er) (hPL : PLC pf rb V) : CtI l (dC, dI) vwCl (tys3 cI cZ cJ) yX4_dust wsX4_dust rm_X4_dust [.ref (h 0), .int p0] (wC cI cZ h F V) (S := (Nat → Nat) × (Nat → Nat → Int32) × (Nat → Int32)) (fun r u => (r = bI (isW p0 0 20)) ∧ u.1 0 = h 0 ∧ VC n (bif isW p0 0 20 then p0.toNatClampNeg else d) ks nw un wm pf So Hh Wd Lm Pr X Y SX SY Kc Kp er rb u.2.1 u.2.2) (fun u => wC cI cZ u.1 u.2.1 u.2.2) 0 0 := by
  refine ct_I (cc := cX4_dust) (maxL := 2) (ty := .boolean) (own := RX4) (by decide) rfl rfl (Nat.le_of_ble_eq_true rfl) (lv := [(0, .ref (h 0)), (1, .int p0)]) rfl ?_
  intro p e s m args below meth c A Q ls fx hK hP hD hA hl hret
  obtain ⟨hx, hb, hml, hown, hts⟩ := id fx
  have hS : va_S A s.heap s.heap [] := va_S.rf
  have hw0 := hts (.fieldLink RX4 10 "MirrorTower" "field" "LMirrorTower$Field;") (by decide +kernel)
  have hin_X4 : ∀ w ∈ u_ws RX4 TX4 5, w ∈ wsX4_dust := by decide +kernel
  obtain ⟨H, hH⟩ : ∃ H, H = s.heap := ⟨_, rfl⟩
  rw [← hH] at hP ⊢
  have hS : va_S A s.heap H [] := by rw [hH]; exact hS
  generalize ([] : List Loc) = locs at hS ⊢
  refine lv_iload_n hx hb dX4_dust_0 rfl (lv_at hl 1 rfl) ?_
  refine lv_iconst (v := 0) hx hb dX4_dust_1 (by decide) ?_
  refine lv_bipush (v := 20) hx hb dX4_dust_2 (by decide) ?_
  refine cw_Si (As := [.int p0, .int 0, .int 20]) (rest := []) (c_X4_isWithin l dC dI cI cZ cJ (wC cI cZ h F V) p0 0 20) fx (va_cwS 3 hts gX4_dust_X4_isWithin rfl rfl rfl (by decide +kernel) ⟨Nat.le_of_ble_eq_true rfl, Nat.le_of_ble_eq_true rfl⟩) hK hP hD hS hA rfl hl.1 rfl (Nat.le_of_ble_eq_true rfl) dX4_dust_4 ⟨Nat.le_of_ble_eq_true rfl, Nat.le_of_ble_eq_true rfl⟩ (fun r_1 u_2 H locs hw_3 hP hD hS => ?_)
  have hP : va_P (dC, dI) vwCl (wC cI cZ h F V) H := hP
  have hD : va_D A (wC cI cZ h F V) := hD
  have hw_3 : r_1 = bI (isW p0 0 20) := hw_3
  refine lv_if_ne (tgt := 16) hx hb dX4_dust_7 (by decide) (fun c_4 => ?_) (fun c_4 => ?_)
  · have c_4 : isW p0 0 20 = true := bI_t hw_3 c_4
    refine lv_aload_n hx hb dX4_dust_16 rfl (lv_at hl 0 rfl) ?_
    refine va_get (D := (dC, dI)) (ci := 4) (v := .ref (h 1)) (C := RX4) (T := TX4) (N := 5) hx hb hts hin_X4 hown hK hP 0 rfl rfl 0 (by decide) hw0 (fun _ h9 => h9) rfl dX4_dust_17 ?_
    refine lv_iload_n hx hb dX4_dust_20 rfl (lv_at hl 1 rfl) ?_
    obtain ⟨k0, hk0, rfl⟩ := isW_nat (M := 20) (n := 20) (by decide) c_4
    refine cw_Vv (As := [.int (nI k0)]) (rest := []) (c_X1_setDust l dC dI cI cZ cJ h F V (nI k0)) fx (cwV 1 hts gX4_dust_X1_setDust rfl rfl rfl (by decide +kernel) ⟨Nat.le_of_ble_eq_true rfl, Nat.le_of_ble_eq_true rfl⟩) hK hP hD hS hA 1 rfl rfl rfl rfl hl.1 rfl (Nat.le_of_ble_eq_true rfl) dX4_dust_21 ⟨Nat.le_of_ble_eq_true rfl, Nat.le_of_ble_eq_true rfl⟩ (fun u_6 H locs hw_7 hP hD hS => ?_)
    have hP : va_P (dC, dI) vwCl (wC cI cZ h F (va_up V 2 (nI k0))) H := hP
    have hD : va_D A (wC cI cZ h F (va_up V 2 (nI k0))) := hD
    refine lv_aload_n hx hb dX4_dust_24 rfl (lv_at hl 0 rfl) ?_
    refine cw_Vi (As := []) (rest := []) (c_X4_allowed l dC dI cI cZ cJ h F (va_up V 2 (nI k0))) fx (cwV 0 hts gX4_dust_X4_allowed rfl rfl rfl (by decide +kernel) ⟨Nat.le_of_ble_eq_true rfl, Nat.le_of_ble_eq_true rfl⟩) hK hP hD hS hA 0 rfl rfl rfl rfl hl.1 rfl (Nat.le_of_ble_eq_true rfl) dX4_dust_25 ⟨Nat.le_of_ble_eq_true rfl, Nat.le_of_ble_eq_true rfl⟩ (fun r_8 u_9 H locs hw_10 hP hD hS => ?_)
    have hP : va_P (dC, dI) vwCl (wC cI cZ h F (va_up (va_up V 2 (nI k0)) 0 0)) H := hP
    have hD : va_D A (wC cI cZ h F (va_up (va_up V 2 (nI k0)) 0 0)) := hD
    obtain rfl : r_8 = 1 := hw_10
    exact hret 1 (h, F, va_up (va_up V 2 (nI k0)) 0 0) H locs 28 ls rfl dX4_dust_28 (by
                  have hc_ : isW (nI k0) 0 20 = true := by simp [c_4]
                  refine ⟨?_, rfl, ?_⟩
                  · (try simp only [hc_, cond_true, cond_false, nI_clamp (show k0 < 2 ^ 31 by omega)])
                    first | done | exact rfl
                  · (try simp only [hc_, cond_true, cond_false, nI_clamp (show k0 < 2 ^ 31 by omega)])
                    exact ⟨⟨hV1, by omega⟩, ⟨rfl, by omega⟩, ⟨hV3, by omega⟩, ⟨hV4, by omega⟩, ⟨hV5, by omega⟩, ⟨hV6, by omega⟩, ⟨hV9, by omega⟩, ⟨sh, hV11, by omega⟩, ⟨hSo, bSo⟩, ⟨hHh, bHh⟩, ⟨hWd, bWd⟩, ⟨hLm, bLm⟩, ⟨hPr, bPr⟩, by omega, hGP, hSU, GC_cong hGC (Eq.refl (F 5)) (Eq.refl (F 6)) (Eq.refl (F 7)) (Eq.refl (F 8)), (fun i hi => (congrFun (Eq.refl (F 10)) i).trans (hF10 i hi)), (fun i hi => (congrFun (Eq.refl (F 11)) i).trans (hF11 i hi)), KC_cong hKC (Eq.refl (F 19)) (Eq.refl (F 20)), ((show (va_up (va_up V 2 (nI k0)) 0 0) 7 = V 7 from rfl)).trans hE, PLC_cong hPL (show (va_up (va_up V 2 (nI k0)) 0 0) 8 = V 8 from rfl)⟩) (hP) (hD) hS
  · have c_4 : isW p0 0 20 = false := bI_f hw_3 c_4
    refine lv_aload_n hx hb dX4_dust_10 rfl (lv_at hl 0 rfl) ?_
    refine lv_iconst (v := 2) hx hb dX4_dust_11 (by decide) ?_
    refine cw_Vi (As := [.int 2]) (rest := []) (c_X4_denied l dC dI cI cZ cJ h F V 2) fx (cwV 1 hts gX4_dust_X4_denied rfl rfl rfl (by decide +kernel) ⟨Nat.le_of_ble_eq_true rfl, Nat.le_of_ble_eq_true rfl⟩) hK hP hD hS hA 0 rfl rfl rfl rfl hl.1 rfl (Nat.le_of_ble_eq_true rfl) dX4_dust_12 ⟨Nat.le_of_ble_eq_true rfl, Nat.le_of_ble_eq_true rfl⟩ (fun r_11 u_12 H locs hw_13 hP hD hS => ?_)
    have hP : va_P (dC, dI) vwCl (wC cI cZ h F (va_up V 0 2)) H := hP
    have hD : va_D A (wC cI cZ h F (va_up V 0 2)) := hD
    obtain rfl : r_11 = 0 := hw_13
    exact hret 0 (h, F, va_up V 0 2) H locs 15 ls rfl dX4_dust_15 (by
                  have hc_ : isW p0 0 20 = false := by simp [c_4]
                  refine ⟨?_, rfl, ?_⟩
                  · (try simp only [hc_, cond_true, cond_false])
                    first | done | exact rfl
                  · (try simp only [hc_, cond_true, cond_false])
                    exact ⟨⟨hV1, by omega⟩, ⟨hV2, by omega⟩, ⟨hV3, by omega⟩, ⟨hV4, by omega⟩, ⟨hV5, by omega⟩, ⟨hV6, by omega⟩, ⟨hV9, by omega⟩, ⟨sh, hV11, by omega⟩, ⟨hSo, bSo⟩, ⟨hHh, bHh⟩, ⟨hWd, bWd⟩, ⟨hLm, bLm⟩, ⟨hPr, bPr⟩, by omega, hGP, hSU, GC_cong hGC (Eq.refl (F 5)) (Eq.refl (F 6)) (Eq.refl (F 7)) (Eq.refl (F 8)), (fun i hi => (congrFun (Eq.refl (F 10)) i).trans (hF10 i hi)), (fun i hi => (congrFun (Eq.refl (F 11)) i).trans (hF11 i hi)), KC_cong hKC (Eq.refl (F 19)) (Eq.refl (F 20)), ((show (va_up V 0 2) 7 = V 7 from rfl)).trans hE, PLC_cong hPL (show (va_up V 0 2) 8 = V 8 from rfl)⟩) (hP) (hD) hS
