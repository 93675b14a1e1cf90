def rm_X4_mirror : Room := { frames := 2, cells := 0, slots := 0, locals := 51 }
set_option maxHeartbeats 4000000 in
set_option maxRecDepth 100000 in
theorem c_X4_mirror (l : Launch) (dC : Nat → ClassId) (dI : Nat → Nat → Nat) (cI cZ cJ : ClassId) (h : Nat → Nat) (F : Nat → Nat → Int32) (V : Nat → Int32) (n : Nat) (hV1 : V 1 = nI n) (bV1 : n ≤ 40) (d : Nat) (hV2 : V 2 = nI d) (bV2 : d ≤ 20) (ks : Nat) (hV3 : V 3 = nI ks) (bV3 : ks ≤ 40) (nw : Nat) (hV4 : V 4 = nI nw) (bV4 : nw ≤ 23) (un : Nat) (hV5 : V 5 = nI un) (bV5 : un ≤ 200) (wm : Nat) (hV6 : V 6 = nI wm) (bV6 : wm ≤ 1) (pf : Nat) (hV9 : V 9 = nI pf) (bV9 : pf ≤ 24) (sh : Nat) (hV11 : V 11 = nI sh) (bV11 : sh ≤ 12) (So : Nat → Nat) (hSo : ∀ i, i < 40 → F 9 i = nI (So i)) (bSo : ∀ i, i < 40 → So i ≤ 90) (Hh : Nat → Nat) (hHh : ∀ i, i < 24 → F 12 i = nI (Hh i)) (bHh : ∀ i, i < 24 → Hh i ≤ 9) (Wd : Nat → Nat) (hWd : ∀ i, i < 24 → F 13 i = nI (Wd i)) (bWd : ∀ i, i < 24 → Wd i ≤ 99) (Lm : Nat → Nat) (hLm : ∀ i, i < 4 → F 14 i = nI (Lm i)) (bLm : ∀ i, i < 4 → Lm i ≤ 10000) (Pr : Nat → Nat) (hPr : ∀ i, i < 24 → F 23 i = nI (Pr i)) (bPr : ∀ i, i < 24 → Pr i ≤ 999) (p0 p1 : Int32)  (X Y : Nat → Nat) (SX SY Kc Kp : Nat → Int32) (er : Int32) (rb : Nat → Bool) (hkn : ks ≤ n) (hGP : GP n X Y) (hSU : SUN SX SY) (hGC : GC n X Y F) (hF10 : ∀ i, i < 24 → F 10 i = SX i) (hF11 : ∀ i, i < 24 → F 11 i = SY i) (hKC : KC ks Kc Kp F) (hE : V 7 = er) (hPL : PLC pf rb V) : CtI l (dC, dI) vwCl (tys3 cI cZ cJ) yX4_mirror wsX4_mirror rm_X4_mirror [.ref (h 0), .int p0, .int p1] (wC cI cZ h F V) (S := (Nat → Nat) × (Nat → Nat → Int32) × (Nat → Int32)) (fun r u => (r = (bif mOK p0 p1 n X Y then nI n else (-1))) ∧ u.1 0 = h 0 ∧ VC (bif mOK p0 p1 n X Y then n + 1 else n) d ks nw un wm pf So Hh Wd Lm Pr (bif mOK p0 p1 n X Y then nup X n p0.toNatClampNeg else X) (bif mOK p0 p1 n X Y then nup Y n p1.toNatClampNeg else Y) SX SY Kc Kp er rb u.2.1 u.2.2) (fun u => wC cI cZ u.1 u.2.1 u.2.2) 0 0 := by
  refine ct_I (cc := cX4_mirror) (maxL := 4) (ty := .int) (own := RX4) (by decide) rfl rfl (Nat.le_of_ble_eq_true rfl) (lv := [(0, .ref (h 0)), (1, .int p0), (2, .int p1)]) rfl ?_
  intro p e s m args below meth c A Q ls fx hK hP hD hA hl hret
  obtain ⟨hx, hb, hml, hown, hts⟩ := id fx
  have hS : va_S A s.heap s.heap [] := va_S.rf
  have hw0 := hts (.fieldLink RX4 10 "MirrorTower" "field" "LMirrorTower$Field;") (by decide +kernel)
  have hin_X4 : ∀ w ∈ u_ws RX4 TX4 5, w ∈ wsX4_mirror := by decide +kernel
  obtain ⟨H, hH⟩ : ∃ H, H = s.heap := ⟨_, rfl⟩
  rw [← hH] at hP ⊢
  have hS : va_S A s.heap H [] := by rw [hH]; exact hS
  generalize ([] : List Loc) = locs at hS ⊢
  refine lv_iload_n hx hb dX4_mirror_0 rfl (lv_at hl 1 rfl) ?_
  refine lv_iconst (v := 0) hx hb dX4_mirror_1 (by decide) ?_
  refine lv_bipush (v := 14) hx hb dX4_mirror_2 (by decide) ?_
  refine cw_Si (As := [.int p0, .int 0, .int 14]) (rest := []) (c_X4_isWithin l dC dI cI cZ cJ (wC cI cZ h F V) p0 0 14) fx (va_cwS 3 hts gX4_mirror_X4_isWithin rfl rfl rfl (by decide +kernel) ⟨Nat.le_of_ble_eq_true rfl, Nat.le_of_ble_eq_true rfl⟩) hK hP hD hS hA rfl hl.1 rfl (Nat.le_of_ble_eq_true rfl) dX4_mirror_4 ⟨Nat.le_of_ble_eq_true rfl, Nat.le_of_ble_eq_true rfl⟩ (fun r_1 u_2 H locs hw_3 hP hD hS => ?_)
  have hP : va_P (dC, dI) vwCl (wC cI cZ h F V) H := hP
  have hD : va_D A (wC cI cZ h F V) := hD
  have hw_3 : r_1 = bI (isW p0 0 14) := hw_3
  refine lv_if_eq (tgt := 20) hx hb dX4_mirror_7 (by decide) (fun c_4 => ?_) (fun c_4 => ?_)
  · have c_4 : isW p0 0 14 = false := bI_f hw_3 c_4
    refine lv_aload_n hx hb dX4_mirror_20 rfl (lv_at hl 0 rfl) ?_
    refine lv_iconst (v := 2) hx hb dX4_mirror_21 (by decide) ?_
    refine cw_Vi (As := [.int 2]) (rest := []) (c_X4_refused l dC dI cI cZ cJ h F V 2) fx (cwV 1 hts gX4_mirror_X4_refused rfl rfl rfl (by decide +kernel) ⟨Nat.le_of_ble_eq_true rfl, Nat.le_of_ble_eq_true rfl⟩) hK hP hD hS hA 0 rfl rfl rfl rfl hl.1 rfl (Nat.le_of_ble_eq_true rfl) dX4_mirror_22 ⟨Nat.le_of_ble_eq_true rfl, Nat.le_of_ble_eq_true rfl⟩ (fun r_5 u_6 H locs hw_7 hP hD hS => ?_)
    have hP : va_P (dC, dI) vwCl (wC cI cZ h F (va_up V 0 2)) H := hP
    have hD : va_D A (wC cI cZ h F (va_up V 0 2)) := hD
    obtain rfl : r_5 = (-1) := hw_7
    exact hret (-1) (h, F, va_up V 0 2) H locs 25 ls rfl dX4_mirror_25 (by
                  have hc_ : mOK p0 p1 n X Y = false := by simp [mOK, c_4]
                  refine ⟨?_, rfl, ?_⟩
                  · (try simp only [hc_, cond_true, cond_false])
                    first | done | exact rfl
                  · (try simp only [hc_, cond_true, cond_false])
                    exact ⟨⟨hV1, by omega⟩, ⟨hV2, by omega⟩, ⟨hV3, by omega⟩, ⟨hV4, by omega⟩, ⟨hV5, by omega⟩, ⟨hV6, by omega⟩, ⟨hV9, by omega⟩, ⟨sh, hV11, by omega⟩, ⟨hSo, bSo⟩, ⟨hHh, bHh⟩, ⟨hWd, bWd⟩, ⟨hLm, bLm⟩, ⟨hPr, bPr⟩, by omega, hGP, hSU, GC_cong hGC (Eq.refl (F 5)) (Eq.refl (F 6)) (Eq.refl (F 7)) (Eq.refl (F 8)), (fun i hi => (congrFun (Eq.refl (F 10)) i).trans (hF10 i hi)), (fun i hi => (congrFun (Eq.refl (F 11)) i).trans (hF11 i hi)), KC_cong hKC (Eq.refl (F 19)) (Eq.refl (F 20)), ((show (va_up V 0 2) 7 = V 7 from rfl)).trans hE, PLC_cong hPL (show (va_up V 0 2) 8 = V 8 from rfl)⟩) (hP) (hD) hS
  · have c_4 : isW p0 0 14 = true := bI_t hw_3 c_4
    refine lv_iload_n hx hb dX4_mirror_10 rfl (lv_at hl 2 rfl) ?_
    refine lv_iconst (v := 0) hx hb dX4_mirror_11 (by decide) ?_
    refine lv_bipush (v := 14) hx hb dX4_mirror_12 (by decide) ?_
    refine cw_Si (As := [.int p1, .int 0, .int 14]) (rest := []) (c_X4_isWithin l dC dI cI cZ cJ (wC cI cZ h F V) p1 0 14) fx (va_cwS 3 hts gX4_mirror_X4_isWithin rfl rfl rfl (by decide +kernel) ⟨Nat.le_of_ble_eq_true rfl, Nat.le_of_ble_eq_true rfl⟩) hK hP hD hS hA rfl hl.1 rfl (Nat.le_of_ble_eq_true rfl) dX4_mirror_14 ⟨Nat.le_of_ble_eq_true rfl, Nat.le_of_ble_eq_true rfl⟩ (fun r_8 u_9 H locs hw_10 hP hD hS => ?_)
    have hP : va_P (dC, dI) vwCl (wC cI cZ h F V) H := hP
    have hD : va_D A (wC cI cZ h F V) := hD
    have hw_10 : r_8 = bI (isW p1 0 14) := hw_10
    refine lv_if_ne (tgt := 26) hx hb dX4_mirror_17 (by decide) (fun c_11 => ?_) (fun c_11 => ?_)
    · have c_11 : isW p1 0 14 = true := bI_t hw_10 c_11
      refine lv_iload_n hx hb dX4_mirror_26 rfl (lv_at hl 1 rfl) ?_
      refine lv_bipush (v := 7) hx hb dX4_mirror_27 (by decide) ?_
      refine lv_icmp_ne (tgt := 40) hx hb dX4_mirror_29 (by decide) (fun c_12 => ?_) (fun c_12 => ?_)
      · have c_12 : eqI p0 7 = false := decide_eq_false c_12
        refine lv_iconst (v := 0) hx hb dX4_mirror_40 (by decide) ?_
        refine lv_istore_n (lv' := [(3, .int 0), (0, .ref (h 0)), (1, .int p0), (2, .int p1)]) hx hb dX4_mirror_41 rfl hl (by decide) rfl (fun ls hl => ?_)
        refine lv_iload_n hx hb dX4_mirror_42 rfl (lv_at hl 0 rfl) ?_
        refine lv_if_ne (tgt := 58) hx hb dX4_mirror_43 (by decide) (fun c_13 => ?_) (fun c_13 => ?_)
        · exact absurd c_13 (by decide)
        · obtain ⟨k0, hk0, rfl⟩ := isW_nat (M := 14) (n := 14) (by decide) c_4
          obtain ⟨k1, hk1, rfl⟩ := isW_nat (M := 14) (n := 14) (by decide) c_11
          refine lv_aload_n hx hb dX4_mirror_46 rfl (lv_at hl 1 rfl) ?_
          refine va_get (D := (dC, dI)) (ci := 4) (v := .ref (h 1)) (C := RX4) (T := TX4) (N := 5) hx hb hts hin_X4 hown hK hP 0 rfl rfl 0 (by decide) hw0 (fun _ h9 => h9) rfl dX4_mirror_47 ?_
          refine lv_iload_n hx hb dX4_mirror_50 rfl (lv_at hl 2 rfl) ?_
          refine lv_iload_n hx hb dX4_mirror_51 rfl (lv_at hl 3 rfl) ?_
          refine cw_Vi (As := [.int (nI k0), .int (nI k1)]) (rest := []) (c_X1_isTaken l dC dI cI cZ cJ h F V k0 k1 (by omega) (by omega)) fx (cwV 2 hts gX4_mirror_X1_isTaken rfl rfl rfl (by decide +kernel) ⟨Nat.le_of_ble_eq_true rfl, Nat.le_of_ble_eq_true rfl⟩) hK hP hD hS hA 1 rfl rfl rfl rfl hl.1 rfl (Nat.le_of_ble_eq_true rfl) dX4_mirror_52 ⟨Nat.le_of_ble_eq_true rfl, Nat.le_of_ble_eq_true rfl⟩ (fun r_14 u_15 H locs hw_16 hP hD hS => ?_)
          have hP : va_P (dC, dI) vwCl (wC cI cZ h F V) H := hP
          have hD : va_D A (wC cI cZ h F V) := hD
          have hw_16 : r_14 = bI (tkb (F 5 k1) k0) := hw_16
          refine lv_if_eq (tgt := 64) hx hb dX4_mirror_55 (by decide) (fun c_17 => ?_) (fun c_17 => ?_)
          · have c_17 : tkb (F 5 k1) k0 = false := bI_f hw_16 c_17
            refine lv_aload_n hx hb dX4_mirror_64 rfl (lv_at hl 1 rfl) ?_
            refine va_get (D := (dC, dI)) (ci := 4) (v := .ref (h 1)) (C := RX4) (T := TX4) (N := 5) hx hb hts hin_X4 hown hK hP 0 rfl rfl 0 (by decide) hw0 (fun _ h9 => h9) rfl dX4_mirror_65 ?_
            refine cw_Vi (As := []) (rest := []) (c_X1_size l dC dI cI cZ cJ h F V) fx (cwV 0 hts gX4_mirror_X1_size rfl rfl rfl (by decide +kernel) ⟨Nat.le_of_ble_eq_true rfl, Nat.le_of_ble_eq_true rfl⟩) hK hP hD hS hA 1 rfl rfl rfl rfl hl.1 rfl (Nat.le_of_ble_eq_true rfl) dX4_mirror_68 ⟨Nat.le_of_ble_eq_true rfl, Nat.le_of_ble_eq_true rfl⟩ (fun r_18 u_19 H locs hw_20 hP hD hS => ?_)
            have hP : va_P (dC, dI) vwCl (wC cI cZ h F V) H := hP
            have hD : va_D A (wC cI cZ h F V) := hD
            obtain rfl : r_18 = nI n := Eq.trans hw_20 hV1
            refine lv_bipush (v := 40) hx hb dX4_mirror_71 (by decide) ?_
            refine lv_icmp_lt (tgt := 82) hx hb dX4_mirror_73 (by decide) (fun c_21 => ?_) (fun c_21 => ?_)
            · have c_21 : n < 40 := (nI_ltI (a := n) (b := 40) (by omega) (by omega)).mp c_21
              refine lv_aload_n hx hb dX4_mirror_82 rfl (lv_at hl 1 rfl) ?_
              refine lv_aload_n hx hb dX4_mirror_83 rfl (lv_at hl 1 rfl) ?_
              refine va_get (D := (dC, dI)) (ci := 4) (v := .ref (h 1)) (C := RX4) (T := TX4) (N := 5) hx hb hts hin_X4 hown hK hP 0 rfl rfl 0 (by decide) hw0 (fun _ h9 => h9) rfl dX4_mirror_84 ?_
              refine lv_iload_n hx hb dX4_mirror_87 rfl (lv_at hl 2 rfl) ?_
              refine lv_iload_n hx hb dX4_mirror_88 rfl (lv_at hl 3 rfl) ?_
              refine cw_Vi (As := [.int (nI k0), .int (nI k1)]) (rest := [.ref (h 0)]) (c_X1_placeB l dC dI cI cZ cJ h F V n hV1 (by omega) k0 k1 (by omega) (by omega) (by omega)) fx (cwV 2 hts gX4_mirror_X1_place rfl rfl rfl (by decide +kernel) ⟨Nat.le_of_ble_eq_true rfl, Nat.le_of_ble_eq_true rfl⟩) hK hP hD hS hA 1 rfl rfl rfl rfl hl.1 rfl (Nat.le_of_ble_eq_true rfl) dX4_mirror_89 ⟨Nat.le_of_ble_eq_true rfl, Nat.le_of_ble_eq_true rfl⟩ (fun r_22 u_23 H locs hw_24 hP hD hS => ?_)
              obtain ⟨F_25, rfl⟩ : ∃ z, z = u_23 := ⟨_, rfl⟩
              have hf_26 : ∀ j, j ∉ ([5, 6, 7, 8] : List Nat) → F_25 j = F j := hw_24.2.1
              have hP : va_P (dC, dI) vwCl (wC cI cZ h F_25 (va_up V 1 (nI (n + 1)))) H := hP
              have hD : va_D A (wC cI cZ h F_25 (va_up V 1 (nI (n + 1)))) := hD
              have hN_27 : ∀ i, i < 40 → F_25 9 i = nI (So i) := by rw [hf_26 9 (by decide)]; exact hSo
              have hN_28 : ∀ i, i < 24 → F_25 12 i = nI (Hh i) := by rw [hf_26 12 (by decide)]; exact hHh
              have hN_29 : ∀ i, i < 24 → F_25 13 i = nI (Wd i) := by rw [hf_26 13 (by decide)]; exact hWd
              have hN_30 : ∀ i, i < 4 → F_25 14 i = nI (Lm i) := by rw [hf_26 14 (by decide)]; exact hLm
              have hN_31 : ∀ i, i < 24 → F_25 23 i = nI (Pr i) := by rw [hf_26 23 (by decide)]; exact hPr
              obtain rfl : r_22 = nI (n) := hw_24.1
              refine cw_Vi (As := [.int (nI n)]) (rest := []) (c_X4_granted l dC dI cI cZ cJ h F_25 (va_up V 1 (nI (n + 1))) (nI n)) fx (cwV 1 hts gX4_mirror_X4_granted rfl rfl rfl (by decide +kernel) ⟨Nat.le_of_ble_eq_true rfl, Nat.le_of_ble_eq_true rfl⟩) hK hP hD hS hA 0 rfl rfl rfl rfl hl.1 rfl (Nat.le_of_ble_eq_true rfl) dX4_mirror_92 ⟨Nat.le_of_ble_eq_true rfl, Nat.le_of_ble_eq_true rfl⟩ (fun r_32 u_33 H locs hw_34 hP hD hS => ?_)
              have hP : va_P (dC, dI) vwCl (wC cI cZ h F_25 (va_up (va_up V 1 (nI (n + 1))) 0 0)) H := hP
              have hD : va_D A (wC cI cZ h F_25 (va_up (va_up V 1 (nI (n + 1))) 0 0)) := hD
              obtain rfl : r_32 = nI n := hw_34
              exact hret (nI n) (h, F_25, va_up (va_up V 1 (nI (n + 1))) 0 0) H locs 95 ls rfl dX4_mirror_95 (by
                            have hb_ := hGC.2.2.1 k0 k1 (by omega) (by omega)
                            rw [c_17] at hb_
                            have h1_ := cnt_one hGP.1 hGP.2.1 hGP.2.2 (nI k0) (nI k1)
                            have h0_ : cnt X Y n (nI k0) (nI k1) = 0 := ((nI_eq (a := 0) (b := cnt X Y n (nI k0) (nI k1)) (by omega) (by omega)).mp hb_).symm
                            have hn_ : n < 40 := by omega
                            have hc_ : mOK (nI k0) (nI k1) n X Y = true := by simp [mOK, h0_, hn_, c_4, c_11, c_12, c_17]
                            refine ⟨?_, rfl, ?_⟩
                            · (try simp only [hc_, cond_true, cond_false, nI_clamp (show k0 < 2 ^ 31 by omega), nI_clamp (show k1 < 2 ^ 31 by omega)])
                              first | done | exact rfl
                            · (try simp only [hc_, cond_true, cond_false, nI_clamp (show k0 < 2 ^ 31 by omega), nI_clamp (show k1 < 2 ^ 31 by omega)])
                              exact ⟨⟨rfl, by omega⟩, ⟨hV2, by omega⟩, ⟨hV3, by omega⟩, ⟨hV4, by omega⟩, ⟨hV5, by omega⟩, ⟨hV6, by omega⟩, ⟨hV9, by omega⟩, ⟨sh, hV11, by omega⟩, ⟨hN_27, bSo⟩, ⟨hN_28, bHh⟩, ⟨hN_29, bWd⟩, ⟨hN_30, bLm⟩, ⟨hN_31, bPr⟩, by omega, GP_up hGP (by omega) (by omega) h0_, hSU, GC_up hGC hGP hn_ (by omega) (by omega) h0_ hw_24.2.2.1 hw_24.2.2.2.1 hw_24.2.2.2.2.1 hw_24.2.2.2.2.2, (fun i hi => (congrFun (hf_26 10 (by decide)) i).trans (hF10 i hi)), (fun i hi => (congrFun (hf_26 11 (by decide)) i).trans (hF11 i hi)), KC_cong hKC (hf_26 19 (by decide)) (hf_26 20 (by decide)), ((show (va_up (va_up V 1 (nI (n + 1))) 0 0) 7 = V 7 from rfl)).trans hE, PLC_cong hPL (show (va_up (va_up V 1 (nI (n + 1))) 0 0) 8 = V 8 from rfl)⟩) (hP) (hD) hS
            · have c_21 : ¬ n < 40 := fun h => c_21 ((nI_ltI (a := n) (b := 40) (by omega) (by omega)).mpr h)
              refine lv_aload_n hx hb dX4_mirror_76 rfl (lv_at hl 1 rfl) ?_
              refine lv_iconst (v := 3) hx hb dX4_mirror_77 (by decide) ?_
              refine cw_Vi (As := [.int 3]) (rest := []) (c_X4_refused l dC dI cI cZ cJ h F V 3) fx (cwV 1 hts gX4_mirror_X4_refused rfl rfl rfl (by decide +kernel) ⟨Nat.le_of_ble_eq_true rfl, Nat.le_of_ble_eq_true rfl⟩) hK hP hD hS hA 0 rfl rfl rfl rfl hl.1 rfl (Nat.le_of_ble_eq_true rfl) dX4_mirror_78 ⟨Nat.le_of_ble_eq_true rfl, Nat.le_of_ble_eq_true rfl⟩ (fun r_35 u_36 H locs hw_37 hP hD hS => ?_)
              have hP : va_P (dC, dI) vwCl (wC cI cZ h F (va_up V 0 3)) H := hP
              have hD : va_D A (wC cI cZ h F (va_up V 0 3)) := hD
              obtain rfl : r_35 = (-1) := hw_37
              exact hret (-1) (h, F, va_up V 0 3) H locs 81 ls rfl dX4_mirror_81 (by
                            have hn_ : ¬ n < 40 := by omega
                            have hc_ : mOK (nI k0) (nI k1) n X Y = false := by simp [mOK, hn_, c_4, c_11, c_12, c_17]
                            refine ⟨?_, rfl, ?_⟩
                            · (try simp only [hc_, cond_true, cond_false, nI_clamp (show k0 < 2 ^ 31 by omega), nI_clamp (show k1 < 2 ^ 31 by omega)])
                              first | done | exact rfl
                            · (try simp only [hc_, cond_true, cond_false, nI_clamp (show k0 < 2 ^ 31 by omega), nI_clamp (show k1 < 2 ^ 31 by omega)])
                              exact ⟨⟨hV1, by omega⟩, ⟨hV2, by omega⟩, ⟨hV3, by omega⟩, ⟨hV4, by omega⟩, ⟨hV5, by omega⟩, ⟨hV6, by omega⟩, ⟨hV9, by omega⟩, ⟨sh, hV11, by omega⟩, ⟨hSo, bSo⟩, ⟨hHh, bHh⟩, ⟨hWd, bWd⟩, ⟨hLm, bLm⟩, ⟨hPr, bPr⟩, by omega, hGP, hSU, GC_cong hGC (Eq.refl (F 5)) (Eq.refl (F 6)) (Eq.refl (F 7)) (Eq.refl (F 8)), (fun i hi => (congrFun (Eq.refl (F 10)) i).trans (hF10 i hi)), (fun i hi => (congrFun (Eq.refl (F 11)) i).trans (hF11 i hi)), KC_cong hKC (Eq.refl (F 19)) (Eq.refl (F 20)), ((show (va_up V 0 3) 7 = V 7 from rfl)).trans hE, PLC_cong hPL (show (va_up V 0 3) 8 = V 8 from rfl)⟩) (hP) (hD) hS
          · have c_17 : tkb (F 5 k1) k0 = true := bI_t hw_16 c_17
            refine lv_aload_n hx hb dX4_mirror_58 rfl (lv_at hl 1 rfl) ?_
            refine lv_iconst (v := 4) hx hb dX4_mirror_59 (by decide) ?_
            refine cw_Vi (As := [.int 4]) (rest := []) (c_X4_refused l dC dI cI cZ cJ h F V 4) fx (cwV 1 hts gX4_mirror_X4_refused rfl rfl rfl (by decide +kernel) ⟨Nat.le_of_ble_eq_true rfl, Nat.le_of_ble_eq_true rfl⟩) hK hP hD hS hA 0 rfl rfl rfl rfl hl.1 rfl (Nat.le_of_ble_eq_true rfl) dX4_mirror_60 ⟨Nat.le_of_ble_eq_true rfl, Nat.le_of_ble_eq_true rfl⟩ (fun r_38 u_39 H locs hw_40 hP hD hS => ?_)
            have hP : va_P (dC, dI) vwCl (wC cI cZ h F (va_up V 0 4)) H := hP
            have hD : va_D A (wC cI cZ h F (va_up V 0 4)) := hD
            obtain rfl : r_38 = (-1) := hw_40
            exact hret (-1) (h, F, va_up V 0 4) H locs 63 ls rfl dX4_mirror_63 (by
                          have hb_ := hGC.2.2.1 k0 k1 (by omega) (by omega)
                          rw [c_17] at hb_
                          have hn_ : ¬ cnt X Y n (nI k0) (nI k1) = 0 := fun q => by rw [q] at hb_; exact absurd hb_ (by decide)
                          have hc_ : mOK (nI k0) (nI k1) n X Y = false := by simp [mOK, hn_, c_4, c_11, c_12, c_17]
                          refine ⟨?_, rfl, ?_⟩
                          · (try simp only [hc_, cond_true, cond_false, nI_clamp (show k0 < 2 ^ 31 by omega), nI_clamp (show k1 < 2 ^ 31 by omega)])
                            first | done | exact rfl
                          · (try simp only [hc_, cond_true, cond_false, nI_clamp (show k0 < 2 ^ 31 by omega), nI_clamp (show k1 < 2 ^ 31 by omega)])
                            exact ⟨⟨hV1, by omega⟩, ⟨hV2, by omega⟩, ⟨hV3, by omega⟩, ⟨hV4, by omega⟩, ⟨hV5, by omega⟩, ⟨hV6, by omega⟩, ⟨hV9, by omega⟩, ⟨sh, hV11, by omega⟩, ⟨hSo, bSo⟩, ⟨hHh, bHh⟩, ⟨hWd, bWd⟩, ⟨hLm, bLm⟩, ⟨hPr, bPr⟩, by omega, hGP, hSU, GC_cong hGC (Eq.refl (F 5)) (Eq.refl (F 6)) (Eq.refl (F 7)) (Eq.refl (F 8)), (fun i hi => (congrFun (Eq.refl (F 10)) i).trans (hF10 i hi)), (fun i hi => (congrFun (Eq.refl (F 11)) i).trans (hF11 i hi)), KC_cong hKC (Eq.refl (F 19)) (Eq.refl (F 20)), ((show (va_up V 0 4) 7 = V 7 from rfl)).trans hE, PLC_cong hPL (show (va_up V 0 4) 8 = V 8 from rfl)⟩) (hP) (hD) hS
      · have c_12 : eqI p0 7 = true := decide_eq_true c_12
        refine lv_iload_n hx hb dX4_mirror_32 rfl (lv_at hl 2 rfl) ?_
        refine lv_if_ne (tgt := 40) hx hb dX4_mirror_33 (by decide) (fun c_41 => ?_) (fun c_41 => ?_)
        · have c_41 : eqI p1 0 = false := decide_eq_false c_41
          refine lv_iconst (v := 0) hx hb dX4_mirror_40 (by decide) ?_
          refine lv_istore_n (lv' := [(3, .int 0), (0, .ref (h 0)), (1, .int p0), (2, .int p1)]) hx hb dX4_mirror_41 rfl hl (by decide) rfl (fun ls hl => ?_)
          refine lv_iload_n hx hb dX4_mirror_42 rfl (lv_at hl 0 rfl) ?_
          refine lv_if_ne (tgt := 58) hx hb dX4_mirror_43 (by decide) (fun c_42 => ?_) (fun c_42 => ?_)
          · exact absurd c_42 (by decide)
          · obtain ⟨k0, hk0, rfl⟩ := isW_nat (M := 14) (n := 14) (by decide) c_4
            obtain ⟨k1, hk1, rfl⟩ := isW_nat (M := 14) (n := 14) (by decide) c_11
            refine lv_aload_n hx hb dX4_mirror_46 rfl (lv_at hl 1 rfl) ?_
            refine va_get (D := (dC, dI)) (ci := 4) (v := .ref (h 1)) (C := RX4) (T := TX4) (N := 5) hx hb hts hin_X4 hown hK hP 0 rfl rfl 0 (by decide) hw0 (fun _ h9 => h9) rfl dX4_mirror_47 ?_
            refine lv_iload_n hx hb dX4_mirror_50 rfl (lv_at hl 2 rfl) ?_
            refine lv_iload_n hx hb dX4_mirror_51 rfl (lv_at hl 3 rfl) ?_
            refine cw_Vi (As := [.int (nI k0), .int (nI k1)]) (rest := []) (c_X1_isTaken l dC dI cI cZ cJ h F V k0 k1 (by omega) (by omega)) fx (cwV 2 hts gX4_mirror_X1_isTaken rfl rfl rfl (by decide +kernel) ⟨Nat.le_of_ble_eq_true rfl, Nat.le_of_ble_eq_true rfl⟩) hK hP hD hS hA 1 rfl rfl rfl rfl hl.1 rfl (Nat.le_of_ble_eq_true rfl) dX4_mirror_52 ⟨Nat.le_of_ble_eq_true rfl, Nat.le_of_ble_eq_true rfl⟩ (fun r_43 u_44 H locs hw_45 hP hD hS => ?_)
            have hP : va_P (dC, dI) vwCl (wC cI cZ h F V) H := hP
            have hD : va_D A (wC cI cZ h F V) := hD
            have hw_45 : r_43 = bI (tkb (F 5 k1) k0) := hw_45
            refine lv_if_eq (tgt := 64) hx hb dX4_mirror_55 (by decide) (fun c_46 => ?_) (fun c_46 => ?_)
            · have c_46 : tkb (F 5 k1) k0 = false := bI_f hw_45 c_46
              refine lv_aload_n hx hb dX4_mirror_64 rfl (lv_at hl 1 rfl) ?_
              refine va_get (D := (dC, dI)) (ci := 4) (v := .ref (h 1)) (C := RX4) (T := TX4) (N := 5) hx hb hts hin_X4 hown hK hP 0 rfl rfl 0 (by decide) hw0 (fun _ h9 => h9) rfl dX4_mirror_65 ?_
              refine cw_Vi (As := []) (rest := []) (c_X1_size l dC dI cI cZ cJ h F V) fx (cwV 0 hts gX4_mirror_X1_size rfl rfl rfl (by decide +kernel) ⟨Nat.le_of_ble_eq_true rfl, Nat.le_of_ble_eq_true rfl⟩) hK hP hD hS hA 1 rfl rfl rfl rfl hl.1 rfl (Nat.le_of_ble_eq_true rfl) dX4_mirror_68 ⟨Nat.le_of_ble_eq_true rfl, Nat.le_of_ble_eq_true rfl⟩ (fun r_47 u_48 H locs hw_49 hP hD hS => ?_)
              have hP : va_P (dC, dI) vwCl (wC cI cZ h F V) H := hP
              have hD : va_D A (wC cI cZ h F V) := hD
              obtain rfl : r_47 = nI n := Eq.trans hw_49 hV1
              refine lv_bipush (v := 40) hx hb dX4_mirror_71 (by decide) ?_
              refine lv_icmp_lt (tgt := 82) hx hb dX4_mirror_73 (by decide) (fun c_50 => ?_) (fun c_50 => ?_)
              · have c_50 : n < 40 := (nI_ltI (a := n) (b := 40) (by omega) (by omega)).mp c_50
                refine lv_aload_n hx hb dX4_mirror_82 rfl (lv_at hl 1 rfl) ?_
                refine lv_aload_n hx hb dX4_mirror_83 rfl (lv_at hl 1 rfl) ?_
                refine va_get (D := (dC, dI)) (ci := 4) (v := .ref (h 1)) (C := RX4) (T := TX4) (N := 5) hx hb hts hin_X4 hown hK hP 0 rfl rfl 0 (by decide) hw0 (fun _ h9 => h9) rfl dX4_mirror_84 ?_
                refine lv_iload_n hx hb dX4_mirror_87 rfl (lv_at hl 2 rfl) ?_
                refine lv_iload_n hx hb dX4_mirror_88 rfl (lv_at hl 3 rfl) ?_
                refine cw_Vi (As := [.int (nI k0), .int (nI k1)]) (rest := [.ref (h 0)]) (c_X1_placeB l dC dI cI cZ cJ h F V n hV1 (by omega) k0 k1 (by omega) (by omega) (by omega)) fx (cwV 2 hts gX4_mirror_X1_place rfl rfl rfl (by decide +kernel) ⟨Nat.le_of_ble_eq_true rfl, Nat.le_of_ble_eq_true rfl⟩) hK hP hD hS hA 1 rfl rfl rfl rfl hl.1 rfl (Nat.le_of_ble_eq_true rfl) dX4_mirror_89 ⟨Nat.le_of_ble_eq_true rfl, Nat.le_of_ble_eq_true rfl⟩ (fun r_51 u_52 H locs hw_53 hP hD hS => ?_)
                obtain ⟨F_54, rfl⟩ : ∃ z, z = u_52 := ⟨_, rfl⟩
                have hf_55 : ∀ j, j ∉ ([5, 6, 7, 8] : List Nat) → F_54 j = F j := hw_53.2.1
                have hP : va_P (dC, dI) vwCl (wC cI cZ h F_54 (va_up V 1 (nI (n + 1)))) H := hP
                have hD : va_D A (wC cI cZ h F_54 (va_up V 1 (nI (n + 1)))) := hD
                have hN_56 : ∀ i, i < 40 → F_54 9 i = nI (So i) := by rw [hf_55 9 (by decide)]; exact hSo
                have hN_57 : ∀ i, i < 24 → F_54 12 i = nI (Hh i) := by rw [hf_55 12 (by decide)]; exact hHh
                have hN_58 : ∀ i, i < 24 → F_54 13 i = nI (Wd i) := by rw [hf_55 13 (by decide)]; exact hWd
                have hN_59 : ∀ i, i < 4 → F_54 14 i = nI (Lm i) := by rw [hf_55 14 (by decide)]; exact hLm
                have hN_60 : ∀ i, i < 24 → F_54 23 i = nI (Pr i) := by rw [hf_55 23 (by decide)]; exact hPr
                obtain rfl : r_51 = nI (n) := hw_53.1
                refine cw_Vi (As := [.int (nI n)]) (rest := []) (c_X4_granted l dC dI cI cZ cJ h F_54 (va_up V 1 (nI (n + 1))) (nI n)) fx (cwV 1 hts gX4_mirror_X4_granted rfl rfl rfl (by decide +kernel) ⟨Nat.le_of_ble_eq_true rfl, Nat.le_of_ble_eq_true rfl⟩) hK hP hD hS hA 0 rfl rfl rfl rfl hl.1 rfl (Nat.le_of_ble_eq_true rfl) dX4_mirror_92 ⟨Nat.le_of_ble_eq_true rfl, Nat.le_of_ble_eq_true rfl⟩ (fun r_61 u_62 H locs hw_63 hP hD hS => ?_)
                have hP : va_P (dC, dI) vwCl (wC cI cZ h F_54 (va_up (va_up V 1 (nI (n + 1))) 0 0)) H := hP
                have hD : va_D A (wC cI cZ h F_54 (va_up (va_up V 1 (nI (n + 1))) 0 0)) := hD
                obtain rfl : r_61 = nI n := hw_63
                exact hret (nI n) (h, F_54, va_up (va_up V 1 (nI (n + 1))) 0 0) H locs 95 ls rfl dX4_mirror_95 (by
                              have hb_ := hGC.2.2.1 k0 k1 (by omega) (by omega)
                              rw [c_46] at hb_
                              have h1_ := cnt_one hGP.1 hGP.2.1 hGP.2.2 (nI k0) (nI k1)
                              have h0_ : cnt X Y n (nI k0) (nI k1) = 0 := ((nI_eq (a := 0) (b := cnt X Y n (nI k0) (nI k1)) (by omega) (by omega)).mp hb_).symm
                              have hn_ : n < 40 := by omega
                              have hc_ : mOK (nI k0) (nI k1) n X Y = true := by simp [mOK, h0_, hn_, c_4, c_11, c_12, c_41, c_46]
                              refine ⟨?_, rfl, ?_⟩
                              · (try simp only [hc_, cond_true, cond_false, nI_clamp (show k0 < 2 ^ 31 by omega), nI_clamp (show k1 < 2 ^ 31 by omega)])
                                first | done | exact rfl
                              · (try simp only [hc_, cond_true, cond_false, nI_clamp (show k0 < 2 ^ 31 by omega), nI_clamp (show k1 < 2 ^ 31 by omega)])
                                exact ⟨⟨rfl, by omega⟩, ⟨hV2, by omega⟩, ⟨hV3, by omega⟩, ⟨hV4, by omega⟩, ⟨hV5, by omega⟩, ⟨hV6, by omega⟩, ⟨hV9, by omega⟩, ⟨sh, hV11, by omega⟩, ⟨hN_56, bSo⟩, ⟨hN_57, bHh⟩, ⟨hN_58, bWd⟩, ⟨hN_59, bLm⟩, ⟨hN_60, bPr⟩, by omega, GP_up hGP (by omega) (by omega) h0_, hSU, GC_up hGC hGP hn_ (by omega) (by omega) h0_ hw_53.2.2.1 hw_53.2.2.2.1 hw_53.2.2.2.2.1 hw_53.2.2.2.2.2, (fun i hi => (congrFun (hf_55 10 (by decide)) i).trans (hF10 i hi)), (fun i hi => (congrFun (hf_55 11 (by decide)) i).trans (hF11 i hi)), KC_cong hKC (hf_55 19 (by decide)) (hf_55 20 (by decide)), ((show (va_up (va_up V 1 (nI (n + 1))) 0 0) 7 = V 7 from rfl)).trans hE, PLC_cong hPL (show (va_up (va_up V 1 (nI (n + 1))) 0 0) 8 = V 8 from rfl)⟩) (hP) (hD) hS
              · have c_50 : ¬ n < 40 := fun h => c_50 ((nI_ltI (a := n) (b := 40) (by omega) (by omega)).mpr h)
                refine lv_aload_n hx hb dX4_mirror_76 rfl (lv_at hl 1 rfl) ?_
                refine lv_iconst (v := 3) hx hb dX4_mirror_77 (by decide) ?_
                refine cw_Vi (As := [.int 3]) (rest := []) (c_X4_refused l dC dI cI cZ cJ h F V 3) fx (cwV 1 hts gX4_mirror_X4_refused rfl rfl rfl (by decide +kernel) ⟨Nat.le_of_ble_eq_true rfl, Nat.le_of_ble_eq_true rfl⟩) hK hP hD hS hA 0 rfl rfl rfl rfl hl.1 rfl (Nat.le_of_ble_eq_true rfl) dX4_mirror_78 ⟨Nat.le_of_ble_eq_true rfl, Nat.le_of_ble_eq_true rfl⟩ (fun r_64 u_65 H locs hw_66 hP hD hS => ?_)
                have hP : va_P (dC, dI) vwCl (wC cI cZ h F (va_up V 0 3)) H := hP
                have hD : va_D A (wC cI cZ h F (va_up V 0 3)) := hD
                obtain rfl : r_64 = (-1) := hw_66
                exact hret (-1) (h, F, va_up V 0 3) H locs 81 ls rfl dX4_mirror_81 (by
                              have hn_ : ¬ n < 40 := by omega
                              have hc_ : mOK (nI k0) (nI k1) n X Y = false := by simp [mOK, hn_, c_4, c_11, c_12, c_41, c_46]
                              refine ⟨?_, rfl, ?_⟩
                              · (try simp only [hc_, cond_true, cond_false, nI_clamp (show k0 < 2 ^ 31 by omega), nI_clamp (show k1 < 2 ^ 31 by omega)])
                                first | done | exact rfl
                              · (try simp only [hc_, cond_true, cond_false, nI_clamp (show k0 < 2 ^ 31 by omega), nI_clamp (show k1 < 2 ^ 31 by omega)])
                                exact ⟨⟨hV1, by omega⟩, ⟨hV2, by omega⟩, ⟨hV3, by omega⟩, ⟨hV4, by omega⟩, ⟨hV5, by omega⟩, ⟨hV6, by omega⟩, ⟨hV9, by omega⟩, ⟨sh, hV11, by omega⟩, ⟨hSo, bSo⟩, ⟨hHh, bHh⟩, ⟨hWd, bWd⟩, ⟨hLm, bLm⟩, ⟨hPr, bPr⟩, by omega, hGP, hSU, GC_cong hGC (Eq.refl (F 5)) (Eq.refl (F 6)) (Eq.refl (F 7)) (Eq.refl (F 8)), (fun i hi => (congrFun (Eq.refl (F 10)) i).trans (hF10 i hi)), (fun i hi => (congrFun (Eq.refl (F 11)) i).trans (hF11 i hi)), KC_cong hKC (Eq.refl (F 19)) (Eq.refl (F 20)), ((show (va_up V 0 3) 7 = V 7 from rfl)).trans hE, PLC_cong hPL (show (va_up V 0 3) 8 = V 8 from rfl)⟩) (hP) (hD) hS
            · have c_46 : tkb (F 5 k1) k0 = true := bI_t hw_45 c_46
              refine lv_aload_n hx hb dX4_mirror_58 rfl (lv_at hl 1 rfl) ?_
              refine lv_iconst (v := 4) hx hb dX4_mirror_59 (by decide) ?_
              refine cw_Vi (As := [.int 4]) (rest := []) (c_X4_refused l dC dI cI cZ cJ h F V 4) fx (cwV 1 hts gX4_mirror_X4_refused rfl rfl rfl (by decide +kernel) ⟨Nat.le_of_ble_eq_true rfl, Nat.le_of_ble_eq_true rfl⟩) hK hP hD hS hA 0 rfl rfl rfl rfl hl.1 rfl (Nat.le_of_ble_eq_true rfl) dX4_mirror_60 ⟨Nat.le_of_ble_eq_true rfl, Nat.le_of_ble_eq_true rfl⟩ (fun r_67 u_68 H locs hw_69 hP hD hS => ?_)
              have hP : va_P (dC, dI) vwCl (wC cI cZ h F (va_up V 0 4)) H := hP
              have hD : va_D A (wC cI cZ h F (va_up V 0 4)) := hD
              obtain rfl : r_67 = (-1) := hw_69
              exact hret (-1) (h, F, va_up V 0 4) H locs 63 ls rfl dX4_mirror_63 (by
                            have hb_ := hGC.2.2.1 k0 k1 (by omega) (by omega)
                            rw [c_46] at hb_
                            have hn_ : ¬ cnt X Y n (nI k0) (nI k1) = 0 := fun q => by rw [q] at hb_; exact absurd hb_ (by decide)
                            have hc_ : mOK (nI k0) (nI k1) n X Y = false := by simp [mOK, hn_, c_4, c_11, c_12, c_41, c_46]
                            refine ⟨?_, rfl, ?_⟩
                            · (try simp only [hc_, cond_true, cond_false, nI_clamp (show k0 < 2 ^ 31 by omega), nI_clamp (show k1 < 2 ^ 31 by omega)])
                              first | done | exact rfl
                            · (try simp only [hc_, cond_true, cond_false, nI_clamp (show k0 < 2 ^ 31 by omega), nI_clamp (show k1 < 2 ^ 31 by omega)])
                              exact ⟨⟨hV1, by omega⟩, ⟨hV2, by omega⟩, ⟨hV3, by omega⟩, ⟨hV4, by omega⟩, ⟨hV5, by omega⟩, ⟨hV6, by omega⟩, ⟨hV9, by omega⟩, ⟨sh, hV11, by omega⟩, ⟨hSo, bSo⟩, ⟨hHh, bHh⟩, ⟨hWd, bWd⟩, ⟨hLm, bLm⟩, ⟨hPr, bPr⟩, by omega, hGP, hSU, GC_cong hGC (Eq.refl (F 5)) (Eq.refl (F 6)) (Eq.refl (F 7)) (Eq.refl (F 8)), (fun i hi => (congrFun (Eq.refl (F 10)) i).trans (hF10 i hi)), (fun i hi => (congrFun (Eq.refl (F 11)) i).trans (hF11 i hi)), KC_cong hKC (Eq.refl (F 19)) (Eq.refl (F 20)), ((show (va_up V 0 4) 7 = V 7 from rfl)).trans hE, PLC_cong hPL (show (va_up V 0 4) 8 = V 8 from rfl)⟩) (hP) (hD) hS
        · have c_41 : eqI p1 0 = true := decide_eq_true c_41
          refine lv_iconst (v := 1) hx hb dX4_mirror_36 (by decide) ?_
          refine lv_goto (tgt := 41) hx hb dX4_mirror_37 (by decide) ?_
          refine lv_istore_n (lv' := [(3, .int 1), (0, .ref (h 0)), (1, .int p0), (2, .int p1)]) hx hb dX4_mirror_41 rfl hl (by decide) rfl (fun ls hl => ?_)
          refine lv_iload_n hx hb dX4_mirror_42 rfl (lv_at hl 0 rfl) ?_
          refine lv_if_ne (tgt := 58) hx hb dX4_mirror_43 (by decide) (fun c_70 => ?_) (fun c_70 => ?_)
          · refine lv_aload_n hx hb dX4_mirror_58 rfl (lv_at hl 1 rfl) ?_
            refine lv_iconst (v := 4) hx hb dX4_mirror_59 (by decide) ?_
            refine cw_Vi (As := [.int 4]) (rest := []) (c_X4_refused l dC dI cI cZ cJ h F V 4) fx (cwV 1 hts gX4_mirror_X4_refused rfl rfl rfl (by decide +kernel) ⟨Nat.le_of_ble_eq_true rfl, Nat.le_of_ble_eq_true rfl⟩) hK hP hD hS hA 0 rfl rfl rfl rfl hl.1 rfl (Nat.le_of_ble_eq_true rfl) dX4_mirror_60 ⟨Nat.le_of_ble_eq_true rfl, Nat.le_of_ble_eq_true rfl⟩ (fun r_71 u_72 H locs hw_73 hP hD hS => ?_)
            have hP : va_P (dC, dI) vwCl (wC cI cZ h F (va_up V 0 4)) H := hP
            have hD : va_D A (wC cI cZ h F (va_up V 0 4)) := hD
            obtain rfl : r_71 = (-1) := hw_73
            exact hret (-1) (h, F, va_up V 0 4) H locs 63 ls rfl dX4_mirror_63 (by
                          have hc_ : mOK p0 p1 n X Y = false := by simp [mOK, c_4, c_11, c_12, c_41]
                          refine ⟨?_, rfl, ?_⟩
                          · (try simp only [hc_, cond_true, cond_false])
                            first | done | exact rfl
                          · (try simp only [hc_, cond_true, cond_false])
                            exact ⟨⟨hV1, by omega⟩, ⟨hV2, by omega⟩, ⟨hV3, by omega⟩, ⟨hV4, by omega⟩, ⟨hV5, by omega⟩, ⟨hV6, by omega⟩, ⟨hV9, by omega⟩, ⟨sh, hV11, by omega⟩, ⟨hSo, bSo⟩, ⟨hHh, bHh⟩, ⟨hWd, bWd⟩, ⟨hLm, bLm⟩, ⟨hPr, bPr⟩, by omega, hGP, hSU, GC_cong hGC (Eq.refl (F 5)) (Eq.refl (F 6)) (Eq.refl (F 7)) (Eq.refl (F 8)), (fun i hi => (congrFun (Eq.refl (F 10)) i).trans (hF10 i hi)), (fun i hi => (congrFun (Eq.refl (F 11)) i).trans (hF11 i hi)), KC_cong hKC (Eq.refl (F 19)) (Eq.refl (F 20)), ((show (va_up V 0 4) 7 = V 7 from rfl)).trans hE, PLC_cong hPL (show (va_up V 0 4) 8 = V 8 from rfl)⟩) (hP) (hD) hS
          · exact absurd c_70 (by decide)
    · have c_11 : isW p1 0 14 = false := bI_f hw_10 c_11
      refine lv_aload_n hx hb dX4_mirror_20 rfl (lv_at hl 0 rfl) ?_
      refine lv_iconst (v := 2) hx hb dX4_mirror_21 (by decide) ?_
      refine cw_Vi (As := [.int 2]) (rest := []) (c_X4_refused l dC dI cI cZ cJ h F V 2) fx (cwV 1 hts gX4_mirror_X4_refused rfl rfl rfl (by decide +kernel) ⟨Nat.le_of_ble_eq_true rfl, Nat.le_of_ble_eq_true rfl⟩) hK hP hD hS hA 0 rfl rfl rfl rfl hl.1 rfl (Nat.le_of_ble_eq_true rfl) dX4_mirror_22 ⟨Nat.le_of_ble_eq_true rfl, Nat.le_of_ble_eq_true rfl⟩ (fun r_74 u_75 H locs hw_76 hP hD hS => ?_)
      have hP : va_P (dC, dI) vwCl (wC cI cZ h F (va_up V 0 2)) H := hP
      have hD : va_D A (wC cI cZ h F (va_up V 0 2)) := hD
      obtain rfl : r_74 = (-1) := hw_76
      exact hret (-1) (h, F, va_up V 0 2) H locs 25 ls rfl dX4_mirror_25 (by
                    have hc_ : mOK p0 p1 n X Y = false := by simp [mOK, c_4, c_11]
                    refine ⟨?_, rfl, ?_⟩
                    · (try simp only [hc_, cond_true, cond_false])
                      first | done | exact rfl
                    · (try simp only [hc_, cond_true, cond_false])
                      exact ⟨⟨hV1, by omega⟩, ⟨hV2, by omega⟩, ⟨hV3, by omega⟩, ⟨hV4, by omega⟩, ⟨hV5, by omega⟩, ⟨hV6, by omega⟩, ⟨hV9, by omega⟩, ⟨sh, hV11, by omega⟩, ⟨hSo, bSo⟩, ⟨hHh, bHh⟩, ⟨hWd, bWd⟩, ⟨hLm, bLm⟩, ⟨hPr, bPr⟩, by omega, hGP, hSU, GC_cong hGC (Eq.refl (F 5)) (Eq.refl (F 6)) (Eq.refl (F 7)) (Eq.refl (F 8)), (fun i hi => (congrFun (Eq.refl (F 10)) i).trans (hF10 i hi)), (fun i hi => (congrFun (Eq.refl (F 11)) i).trans (hF11 i hi)), KC_cong hKC (Eq.refl (F 19)) (Eq.refl (F 20)), ((show (va_up V 0 2) 7 = V 7 from rfl)).trans hE, PLC_cong hPL (show (va_up V 0 2) 8 = V 8 from rfl)⟩) (hP) (hD) hS
def rm_X4_shaded : Room := { frames := 2, cells := 0, slots := 0, locals := 43 }
set_option maxHeartbeats 4000000 in
set_option maxRecDepth 100000 in
theorem c_X4_shaded (l : Launch) (dC : Nat → ClassId) (dI : Nat → Nat → Nat) (cI cZ cJ : ClassId) (h : Nat → Nat) (F : Nat → Nat → Int32) (V : Nat → Int32) (n : Nat) (hV1 : V 1 = nI n) (bV1 : n ≤ 40) (d : Nat) (hV2 : V 2 = nI d) (bV2 : d ≤ 20) (ks : Nat) (hV3 : V 3 = nI ks) (bV3 : ks ≤ 40) (nw : Nat) (hV4 : V 4 = nI nw) (bV4 : nw ≤ 23) (un : Nat) (hV5 : V 5 = nI un) (bV5 : un ≤ 200) (wm : Nat) (hV6 : V 6 = nI wm) (bV6 : wm ≤ 1) (pf : Nat) (hV9 : V 9 = nI pf) (bV9 : pf ≤ 24) (sh : Nat) (hV11 : V 11 = nI sh) (bV11 : sh ≤ 12) (So : Nat → Nat) (hSo : ∀ i, i < 40 → F 9 i = nI (So i)) (bSo : ∀ i, i < 40 → So i ≤ 90) (Hh : Nat → Nat) (hHh : ∀ i, i < 24 → F 12 i = nI (Hh i)) (bHh : ∀ i, i < 24 → Hh i ≤ 9) (Wd : Nat → Nat) (hWd : ∀ i, i < 24 → F 13 i = nI (Wd i)) (bWd : ∀ i, i < 24 → Wd i ≤ 99) (Lm : Nat → Nat) (hLm : ∀ i, i < 4 → F 14 i = nI (Lm i)) (bLm : ∀ i, i < 4 → Lm i ≤ 10000) (Pr : Nat → Nat) (hPr : ∀ i, i < 24 → F 23 i = nI (Pr i)) (bPr : ∀ i, i < 24 → Pr i ≤ 999) (p0 p1 p2 : Int32)  (X Y : Nat → Nat) (SX SY Kc Kp : Nat → Int32) (er : Int32) (rb : Nat → Bool) (hkn : ks ≤ n) (hGP : GP n X Y) (hSU : SUN SX SY) (hGC : GC n X Y F) (hF10 : ∀ i, i < 24 → F 10 i = SX i) (hF11 : ∀ i, i < 24 → F 11 i = SY i) (hKC : KC ks Kc Kp F) (hE : V 7 = er) (hPL : PLC pf rb V) : CtI l (dC, dI) vwCl (tys3 cI cZ cJ) yX4_shaded wsX4_shaded rm_X4_shaded [.ref (h 0), .int p0, .int p1, .int p2] (wC cI cZ h F V) (S := (Nat → Nat) × (Nat → Nat → Int32) × (Nat → Int32)) (fun r u => (r = (bif (inN p0 n && isW p1 0 23) then (bif eqI p2 0 then nI (shA X Y n SX SY Hh p0.toNatClampNeg p1.toNatClampNeg) else nI (blA X Y n p0.toNatClampNeg)) else (-1))) ∧ u.1 0 = h 0 ∧ VC n d ks nw un wm pf So Hh Wd Lm Pr X Y SX SY Kc Kp er rb u.2.1 u.2.2) (fun u => wC cI cZ u.1 u.2.1 u.2.2) 0 0 := by
  refine ct_I (cc := cX4_shaded) (maxL := 4) (ty := .int) (own := RX4) (by decide) rfl rfl (Nat.le_of_ble_eq_true rfl) (lv := [(0, .ref (h 0)), (1, .int p0), (2, .int p1), (3, .int p2)]) rfl ?_
  intro p e s m args below meth c A Q ls fx hK hP hD hA hl hret
  obtain ⟨hx, hb, hml, hown, hts⟩ := id fx
  have hS : va_S A s.heap s.heap [] := va_S.rf
  have hw0 := hts (.fieldLink RX4 10 "MirrorTower" "field" "LMirrorTower$Field;") (by decide +kernel)
  have hin_X4 : ∀ w ∈ u_ws RX4 TX4 5, w ∈ wsX4_shaded := by decide +kernel
  obtain ⟨H, hH⟩ : ∃ H, H = s.heap := ⟨_, rfl⟩
  rw [← hH] at hP ⊢
  have hS : va_S A s.heap H [] := by rw [hH]; exact hS
  generalize ([] : List Loc) = locs at hS ⊢
  refine lv_aload_n hx hb dX4_shaded_0 rfl (lv_at hl 0 rfl) ?_
  refine lv_iload_n hx hb dX4_shaded_1 rfl (lv_at hl 1 rfl) ?_
  refine cw_Vi (As := [.int p0]) (rest := []) (c_X4_isMirror l dC dI cI cZ cJ h F V n hV1 (by omega) p0) fx (cwV 1 hts gX4_shaded_X4_isMirror rfl rfl rfl (by decide +kernel) ⟨Nat.le_of_ble_eq_true rfl, Nat.le_of_ble_eq_true rfl⟩) hK hP hD hS hA 0 rfl rfl rfl rfl hl.1 rfl (Nat.le_of_ble_eq_true rfl) dX4_shaded_2 ⟨Nat.le_of_ble_eq_true rfl, Nat.le_of_ble_eq_true rfl⟩ (fun r_1 u_2 H locs hw_3 hP hD hS => ?_)
  have hP : va_P (dC, dI) vwCl (wC cI cZ h F V) H := hP
  have hD : va_D A (wC cI cZ h F V) := hD
  have hw_3 : r_1 = bI (isW p0 0 (nI n - 1)) := hw_3
  refine lv_if_eq (tgt := 15) hx hb dX4_shaded_5 (by decide) (fun c_4 => ?_) (fun c_4 => ?_)
  · have c_4 : isW p0 0 (nI n - 1) = false := bI_f hw_3 c_4
    refine lv_iconst (v := (-1)) hx hb dX4_shaded_15 (by decide) ?_
    exact hret (-1) (h, F, V) H locs 16 ls rfl dX4_shaded_16 (by
                  have hw_ := inN_W (v := p0) bV1
                  have hc_ : (inN p0 n && isW p1 0 23) = false := by simp [← hw_, c_4]
                  refine ⟨?_, rfl, ?_⟩
                  · (try simp only [hc_, cond_true, cond_false])
                    first | done | exact rfl
                  · (try simp only [hc_, cond_true, cond_false])
                    exact ⟨⟨hV1, by omega⟩, ⟨hV2, by omega⟩, ⟨hV3, by omega⟩, ⟨hV4, by omega⟩, ⟨hV5, by omega⟩, ⟨hV6, by omega⟩, ⟨hV9, by omega⟩, ⟨sh, hV11, by omega⟩, ⟨hSo, bSo⟩, ⟨hHh, bHh⟩, ⟨hWd, bWd⟩, ⟨hLm, bLm⟩, ⟨hPr, bPr⟩, by omega, hGP, hSU, GC_cong hGC (Eq.refl (F 5)) (Eq.refl (F 6)) (Eq.refl (F 7)) (Eq.refl (F 8)), (fun i hi => (congrFun (Eq.refl (F 10)) i).trans (hF10 i hi)), (fun i hi => (congrFun (Eq.refl (F 11)) i).trans (hF11 i hi)), KC_cong hKC (Eq.refl (F 19)) (Eq.refl (F 20)), ((Eq.refl (V 7))).trans hE, PLC_cong hPL (Eq.refl (V 8))⟩) (hP) (hD) hS
  · have c_4 : isW p0 0 (nI n - 1) = true := bI_t hw_3 c_4
    refine lv_iload_n hx hb dX4_shaded_8 rfl (lv_at hl 2 rfl) ?_
    refine cw_Si (As := [.int p1]) (rest := []) (c_X4_isHour l dC dI cI cZ cJ (wC cI cZ h F V) p1) fx (va_cwS 1 hts gX4_shaded_X4_isHour rfl rfl rfl (by decide +kernel) ⟨Nat.le_of_ble_eq_true rfl, Nat.le_of_ble_eq_true rfl⟩) hK hP hD hS hA rfl hl.1 rfl (Nat.le_of_ble_eq_true rfl) dX4_shaded_9 ⟨Nat.le_of_ble_eq_true rfl, Nat.le_of_ble_eq_true rfl⟩ (fun r_5 u_6 H locs hw_7 hP hD hS => ?_)
    have hP : va_P (dC, dI) vwCl (wC cI cZ h F V) H := hP
    have hD : va_D A (wC cI cZ h F V) := hD
    have hw_7 : r_5 = bI (isW p1 0 23) := hw_7
    refine lv_if_ne (tgt := 17) hx hb dX4_shaded_12 (by decide) (fun c_8 => ?_) (fun c_8 => ?_)
    · have c_8 : isW p1 0 23 = true := bI_t hw_7 c_8
      refine lv_iload_n hx hb dX4_shaded_17 rfl (lv_at hl 3 rfl) ?_
      refine lv_if_eq (tgt := 32) hx hb dX4_shaded_18 (by decide) (fun c_9 => ?_) (fun c_9 => ?_)
      · have c_9 : eqI p2 0 = true := decide_eq_true c_9
        refine lv_aload_n hx hb dX4_shaded_32 rfl (lv_at hl 0 rfl) ?_
        refine va_get (D := (dC, dI)) (ci := 4) (v := .ref (h 1)) (C := RX4) (T := TX4) (N := 5) hx hb hts hin_X4 hown hK hP 0 rfl rfl 0 (by decide) hw0 (fun _ h9 => h9) rfl dX4_shaded_33 ?_
        refine lv_iload_n hx hb dX4_shaded_36 rfl (lv_at hl 1 rfl) ?_
        refine lv_iload_n hx hb dX4_shaded_37 rfl (lv_at hl 2 rfl) ?_
        obtain ⟨k0, hk0, rfl⟩ := isW_mir bV1 c_4
        obtain ⟨k1, hk1, rfl⟩ := isW_nat (M := 23) (n := 23) (by decide) c_8
        refine cw_Vi (As := [.int (nI k0), .int (nI k1)]) (rest := []) (c_X1_shadersOf l dC dI cI cZ cJ h F V Hh hHh bHh k0 k1 (by omega) (by omega)) fx (cwV 2 hts gX4_shaded_X1_shadersOf rfl rfl rfl (by decide +kernel) ⟨Nat.le_of_ble_eq_true rfl, Nat.le_of_ble_eq_true rfl⟩) hK hP hD hS hA 1 rfl rfl rfl rfl hl.1 rfl (Nat.le_of_ble_eq_true rfl) dX4_shaded_38 ⟨Nat.le_of_ble_eq_true rfl, Nat.le_of_ble_eq_true rfl⟩ (fun r_10 u_11 H locs hw_12 hP hD hS => ?_)
        have hP : va_P (dC, dI) vwCl (wC cI cZ h F V) H := hP
        have hD : va_D A (wC cI cZ h F V) := hD
        have hw_12 : r_10 = shC F Hh k0 k1 := hw_12
        exact hret r_10 (h, F, V) H locs 41 ls rfl dX4_shaded_41 (by
                      have hw_ := inN_W (v := nI k0) bV1
                      have hc_ : (inN (nI k0) n && isW (nI k1) 0 23) = true := by simp [← hw_, c_4, c_8, c_9]
                      refine ⟨?_, rfl, ?_⟩
                      · (try simp only [hc_, cond_true, cond_false, nI_clamp (show k0 < 2 ^ 31 by omega), nI_clamp (show k1 < 2 ^ 31 by omega)])
                        first | done | exact by rw [c_9]; show _ = nI (shA X Y n SX SY Hh k0 k1); rw [hw_12]; exact sh_abs hGC hGP hSU hF10 hF11 (by omega) (by omega)
                      · (try simp only [hc_, cond_true, cond_false, nI_clamp (show k0 < 2 ^ 31 by omega), nI_clamp (show k1 < 2 ^ 31 by omega)])
                        exact ⟨⟨hV1, by omega⟩, ⟨hV2, by omega⟩, ⟨hV3, by omega⟩, ⟨hV4, by omega⟩, ⟨hV5, by omega⟩, ⟨hV6, by omega⟩, ⟨hV9, by omega⟩, ⟨sh, hV11, by omega⟩, ⟨hSo, bSo⟩, ⟨hHh, bHh⟩, ⟨hWd, bWd⟩, ⟨hLm, bLm⟩, ⟨hPr, bPr⟩, by omega, hGP, hSU, GC_cong hGC (Eq.refl (F 5)) (Eq.refl (F 6)) (Eq.refl (F 7)) (Eq.refl (F 8)), (fun i hi => (congrFun (Eq.refl (F 10)) i).trans (hF10 i hi)), (fun i hi => (congrFun (Eq.refl (F 11)) i).trans (hF11 i hi)), KC_cong hKC (Eq.refl (F 19)) (Eq.refl (F 20)), ((Eq.refl (V 7))).trans hE, PLC_cong hPL (Eq.refl (V 8))⟩) (hP) (hD) hS
      · have c_9 : eqI p2 0 = false := decide_eq_false c_9
        refine lv_aload_n hx hb dX4_shaded_21 rfl (lv_at hl 0 rfl) ?_
        refine va_get (D := (dC, dI)) (ci := 4) (v := .ref (h 1)) (C := RX4) (T := TX4) (N := 5) hx hb hts hin_X4 hown hK hP 0 rfl rfl 0 (by decide) hw0 (fun _ h9 => h9) rfl dX4_shaded_22 ?_
        refine lv_iload_n hx hb dX4_shaded_25 rfl (lv_at hl 1 rfl) ?_
        obtain ⟨k0, hk0, rfl⟩ := isW_mir bV1 c_4
        refine cw_Vi (As := [.int (nI k0)]) (rest := []) (c_X1_blockersOf l dC dI cI cZ cJ h F V k0 (by omega)) fx (cwV 1 hts gX4_shaded_X1_blockersOf rfl rfl rfl (by decide +kernel) ⟨Nat.le_of_ble_eq_true rfl, Nat.le_of_ble_eq_true rfl⟩) hK hP hD hS hA 1 rfl rfl rfl rfl hl.1 rfl (Nat.le_of_ble_eq_true rfl) dX4_shaded_26 ⟨Nat.le_of_ble_eq_true rfl, Nat.le_of_ble_eq_true rfl⟩ (fun r_13 u_14 H locs hw_15 hP hD hS => ?_)
        have hP : va_P (dC, dI) vwCl (wC cI cZ h F V) H := hP
        have hD : va_D A (wC cI cZ h F V) := hD
        have hw_15 : r_13 = F 8 k0 := hw_15
        refine lv_goto (tgt := 41) hx hb dX4_shaded_29 (by decide) ?_
        exact hret r_13 (h, F, V) H locs 41 ls rfl dX4_shaded_41 (by
                      have hw_ := inN_W (v := nI k0) bV1
                      have hc_ : (inN (nI k0) n && isW p1 0 23) = true := by simp [← hw_, c_4, c_8, c_9]
                      refine ⟨?_, rfl, ?_⟩
                      · (try simp only [hc_, cond_true, cond_false, nI_clamp (show k0 < 2 ^ 31 by omega)])
                        first | done | exact by rw [c_9]; show _ = nI (blA X Y n k0); rw [← hGC.2.2.2.1 k0 (by omega)]; exact hw_15
                      · (try simp only [hc_, cond_true, cond_false, nI_clamp (show k0 < 2 ^ 31 by omega)])
                        exact ⟨⟨hV1, by omega⟩, ⟨hV2, by omega⟩, ⟨hV3, by omega⟩, ⟨hV4, by omega⟩, ⟨hV5, by omega⟩, ⟨hV6, by omega⟩, ⟨hV9, by omega⟩, ⟨sh, hV11, by omega⟩, ⟨hSo, bSo⟩, ⟨hHh, bHh⟩, ⟨hWd, bWd⟩, ⟨hLm, bLm⟩, ⟨hPr, bPr⟩, by omega, hGP, hSU, GC_cong hGC (Eq.refl (F 5)) (Eq.refl (F 6)) (Eq.refl (F 7)) (Eq.refl (F 8)), (fun i hi => (congrFun (Eq.refl (F 10)) i).trans (hF10 i hi)), (fun i hi => (congrFun (Eq.refl (F 11)) i).trans (hF11 i hi)), KC_cong hKC (Eq.refl (F 19)) (Eq.refl (F 20)), ((Eq.refl (V 7))).trans hE, PLC_cong hPL (Eq.refl (V 8))⟩) (hP) (hD) hS
    · have c_8 : isW p1 0 23 = false := bI_f hw_7 c_8
      refine lv_iconst (v := (-1)) hx hb dX4_shaded_15 (by decide) ?_
      exact hret (-1) (h, F, V) H locs 16 ls rfl dX4_shaded_16 (by
                    have hw_ := inN_W (v := p0) bV1
                    have hc_ : (inN p0 n && isW p1 0 23) = false := by simp [← hw_, c_4, c_8]
                    refine ⟨?_, rfl, ?_⟩
                    · (try simp only [hc_, cond_true, cond_false])
                      first | done | exact rfl
                    · (try simp only [hc_, cond_true, cond_false])
                      exact ⟨⟨hV1, by omega⟩, ⟨hV2, by omega⟩, ⟨hV3, by omega⟩, ⟨hV4, by omega⟩, ⟨hV5, by omega⟩, ⟨hV6, by omega⟩, ⟨hV9, by omega⟩, ⟨sh, hV11, by omega⟩, ⟨hSo, bSo⟩, ⟨hHh, bHh⟩, ⟨hWd, bWd⟩, ⟨hLm, bLm⟩, ⟨hPr, bPr⟩, by omega, hGP, hSU, GC_cong hGC (Eq.refl (F 5)) (Eq.refl (F 6)) (Eq.refl (F 7)) (Eq.refl (F 8)), (fun i hi => (congrFun (Eq.refl (F 10)) i).trans (hF10 i hi)), (fun i hi => (congrFun (Eq.refl (F 11)) i).trans (hF11 i hi)), KC_cong hKC (Eq.refl (F 19)) (Eq.refl (F 20)), ((Eq.refl (V 7))).trans hE, PLC_cong hPL (Eq.refl (V 8))⟩) (hP) (hD) hS
def rm_X4_power : Room := { frames := 3, cells := 0, slots := 0, locals := 60 }
set_option maxHeartbeats 4000000 in
set_option maxRecDepth 100000 in
theorem c_X4_power (l : Launch) (dC : Nat → ClassId) (dI : Nat → Nat → Nat) (cI cZ cJ : ClassId) (h : Nat → Nat) (F : Nat → Nat → Int32) (V : Nat → Int32) (n : Nat) (hV1 : V 1 = nI n) (bV1 : n ≤ 40) (d : Nat) (hV2 : V 2 = nI d) (bV2 : d ≤ 20) (ks : Nat) (hV3 : V 3 = nI ks) (bV3 : ks ≤ 40) (nw : Nat) (hV4 : V 4 = nI nw) (bV4 : nw ≤ 23) (un : Nat) (hV5 : V 5 = nI un) (bV5 : un ≤ 200) (wm : Nat) (hV6 : V 6 = nI wm) (bV6 : wm ≤ 1) (pf : Nat) (hV9 : V 9 = nI pf) (bV9 : pf ≤ 24) (sh : Nat) (hV11 : V 11 = nI sh) (bV11 : sh ≤ 12) (So : Nat → Nat) (hSo : ∀ i, i < 40 → F 9 i = nI (So i)) (bSo : ∀ i, i < 40 → So i ≤ 90) (Hh : Nat → Nat) (hHh : ∀ i, i < 24 → F 12 i = nI (Hh i)) (bHh : ∀ i, i < 24 → Hh i ≤ 9) (Wd : Nat → Nat) (hWd : ∀ i, i < 24 → F 13 i = nI (Wd i)) (bWd : ∀ i, i < 24 → Wd i ≤ 99) (Lm : Nat → Nat) (hLm : ∀ i, i < 4 → F 14 i = nI (Lm i)) (bLm : ∀ i, i < 4 → Lm i ≤ 10000) (Pr : Nat → Nat) (hPr : ∀ i, i < 24 → F 23 i = nI (Pr i)) (bPr : ∀ i, i < 24 → Pr i ≤ 999) (p0 p1 : Int32)  (X Y : Nat → Nat) (SX SY Kc Kp : Nat → Int32) (er : Int32) (rb : Nat → Bool) (hkn : ks ≤ n) (hGP : GP n X Y) (hSU : SUN SX SY) (hGC : GC n X Y F) (hF10 : ∀ i, i < 24 → F 10 i = SX i) (hF11 : ∀ i, i < 24 → F 11 i = SY i) (hKC : KC ks Kc Kp F) (hE : V 7 = er) (hPL : PLC pf rb V) : CtI l (dC, dI) vwCl (tys3 cI cZ cJ) yX4_power wsX4_power rm_X4_power [.ref (h 0), .int p0, .int p1] (wC cI cZ h F V) (S := (Nat → Nat) × (Nat → Nat → Int32) × (Nat → Int32)) (fun r u => (r = (bif (inN p0 n && isW p1 0 23) then nI (pwA X Y n SX SY Hh So Wd p1.toNatClampNeg 0 p0.toNatClampNeg) else (-1))) ∧ u.1 0 = h 0 ∧ VC n d ks nw un wm pf So Hh Wd Lm Pr X Y SX SY Kc Kp er rb u.2.1 u.2.2) (fun u => wC cI cZ u.1 u.2.1 u.2.2) 0 0 := by
  refine ct_I (cc := cX4_power) (maxL := 3) (ty := .int) (own := RX4) (by decide) rfl rfl (Nat.le_of_ble_eq_true rfl) (lv := [(0, .ref (h 0)), (1, .int p0), (2, .int p1)]) rfl ?_
  intro p e s m args below meth c A Q ls fx hK hP hD hA hl hret
  obtain ⟨hx, hb, hml, hown, hts⟩ := id fx
  have hS : va_S A s.heap s.heap [] := va_S.rf
  have hw0 := hts (.fieldLink RX4 10 "MirrorTower" "field" "LMirrorTower$Field;") (by decide +kernel)
  have hin_X4 : ∀ w ∈ u_ws RX4 TX4 5, w ∈ wsX4_power := by decide +kernel
  obtain ⟨H, hH⟩ : ∃ H, H = s.heap := ⟨_, rfl⟩
  rw [← hH] at hP ⊢
  have hS : va_S A s.heap H [] := by rw [hH]; exact hS
  generalize ([] : List Loc) = locs at hS ⊢
  refine lv_aload_n hx hb dX4_power_0 rfl (lv_at hl 0 rfl) ?_
  refine lv_iload_n hx hb dX4_power_1 rfl (lv_at hl 1 rfl) ?_
  refine cw_Vi (As := [.int p0]) (rest := []) (c_X4_isMirror l dC dI cI cZ cJ h F V n hV1 (by omega) p0) fx (cwV 1 hts gX4_power_X4_isMirror rfl rfl rfl (by decide +kernel) ⟨Nat.le_of_ble_eq_true rfl, Nat.le_of_ble_eq_true rfl⟩) hK hP hD hS hA 0 rfl rfl rfl rfl hl.1 rfl (Nat.le_of_ble_eq_true rfl) dX4_power_2 ⟨Nat.le_of_ble_eq_true rfl, Nat.le_of_ble_eq_true rfl⟩ (fun r_1 u_2 H locs hw_3 hP hD hS => ?_)
  have hP : va_P (dC, dI) vwCl (wC cI cZ h F V) H := hP
  have hD : va_D A (wC cI cZ h F V) := hD
  have hw_3 : r_1 = bI (isW p0 0 (nI n - 1)) := hw_3
  refine lv_if_eq (tgt := 15) hx hb dX4_power_5 (by decide) (fun c_4 => ?_) (fun c_4 => ?_)
  · have c_4 : isW p0 0 (nI n - 1) = false := bI_f hw_3 c_4
    refine lv_iconst (v := (-1)) hx hb dX4_power_15 (by decide) ?_
    exact hret (-1) (h, F, V) H locs 16 ls rfl dX4_power_16 (by
                  have hw_ := inN_W (v := p0) bV1
                  have hc_ : (inN p0 n && isW p1 0 23) = false := by simp [← hw_, c_4]
                  refine ⟨?_, rfl, ?_⟩
                  · (try simp only [hc_, cond_true, cond_false])
                    first | done | exact rfl
                  · (try simp only [hc_, cond_true, cond_false])
                    exact ⟨⟨hV1, by omega⟩, ⟨hV2, by omega⟩, ⟨hV3, by omega⟩, ⟨hV4, by omega⟩, ⟨hV5, by omega⟩, ⟨hV6, by omega⟩, ⟨hV9, by omega⟩, ⟨sh, hV11, by omega⟩, ⟨hSo, bSo⟩, ⟨hHh, bHh⟩, ⟨hWd, bWd⟩, ⟨hLm, bLm⟩, ⟨hPr, bPr⟩, by omega, hGP, hSU, GC_cong hGC (Eq.refl (F 5)) (Eq.refl (F 6)) (Eq.refl (F 7)) (Eq.refl (F 8)), (fun i hi => (congrFun (Eq.refl (F 10)) i).trans (hF10 i hi)), (fun i hi => (congrFun (Eq.refl (F 11)) i).trans (hF11 i hi)), KC_cong hKC (Eq.refl (F 19)) (Eq.refl (F 20)), ((Eq.refl (V 7))).trans hE, PLC_cong hPL (Eq.refl (V 8))⟩) (hP) (hD) hS
  · have c_4 : isW p0 0 (nI n - 1) = true := bI_t hw_3 c_4
    refine lv_iload_n hx hb dX4_power_8 rfl (lv_at hl 2 rfl) ?_
    refine cw_Si (As := [.int p1]) (rest := []) (c_X4_isHour l dC dI cI cZ cJ (wC cI cZ h F V) p1) fx (va_cwS 1 hts gX4_power_X4_isHour rfl rfl rfl (by decide +kernel) ⟨Nat.le_of_ble_eq_true rfl, Nat.le_of_ble_eq_true rfl⟩) hK hP hD hS hA rfl hl.1 rfl (Nat.le_of_ble_eq_true rfl) dX4_power_9 ⟨Nat.le_of_ble_eq_true rfl, Nat.le_of_ble_eq_true rfl⟩ (fun r_5 u_6 H locs hw_7 hP hD hS => ?_)
    have hP : va_P (dC, dI) vwCl (wC cI cZ h F V) H := hP
    have hD : va_D A (wC cI cZ h F V) := hD
    have hw_7 : r_5 = bI (isW p1 0 23) := hw_7
    refine lv_if_ne (tgt := 17) hx hb dX4_power_12 (by decide) (fun c_8 => ?_) (fun c_8 => ?_)
    · have c_8 : isW p1 0 23 = true := bI_t hw_7 c_8
      refine lv_aload_n hx hb dX4_power_17 rfl (lv_at hl 0 rfl) ?_
      refine va_get (D := (dC, dI)) (ci := 4) (v := .ref (h 1)) (C := RX4) (T := TX4) (N := 5) hx hb hts hin_X4 hown hK hP 0 rfl rfl 0 (by decide) hw0 (fun _ h9 => h9) rfl dX4_power_18 ?_
      refine lv_iload_n hx hb dX4_power_21 rfl (lv_at hl 1 rfl) ?_
      refine lv_iload_n hx hb dX4_power_22 rfl (lv_at hl 2 rfl) ?_
      refine lv_iconst (v := 0) hx hb dX4_power_23 (by decide) ?_
      obtain ⟨k0, hk0, rfl⟩ := isW_mir bV1 c_4
      obtain ⟨k1, hk1, rfl⟩ := isW_nat (M := 23) (n := 23) (by decide) c_8
      refine cw_Vi (As := [.int (nI k0), .int (nI k1), .int 0]) (rest := []) (c_X1_powerOf l dC dI cI cZ cJ h F V d hV2 (by omega) So hSo bSo Hh hHh bHh Wd hWd bWd k0 k1 0 (by omega) (by omega) (by omega)) fx (cwV 3 hts gX4_power_X1_powerOf rfl rfl rfl (by decide +kernel) ⟨Nat.le_of_ble_eq_true rfl, Nat.le_of_ble_eq_true rfl⟩) hK hP hD hS hA 1 rfl rfl rfl rfl hl.1 rfl (Nat.le_of_ble_eq_true rfl) dX4_power_24 ⟨Nat.le_of_ble_eq_true rfl, Nat.le_of_ble_eq_true rfl⟩ (fun r_9 u_10 H locs hw_11 hP hD hS => ?_)
      have hP : va_P (dC, dI) vwCl (wC cI cZ h F V) H := hP
      have hD : va_D A (wC cI cZ h F V) := hD
      obtain rfl : r_9 = nI (pwN F Hh So Wd d k0 k1 0) := hw_11
      exact hret (nI (pwN F Hh So Wd d k0 k1 0)) (h, F, V) H locs 27 ls rfl dX4_power_27 (by
                    have hw_ := inN_W (v := nI k0) bV1
                    have hc_ : (inN (nI k0) n && isW (nI k1) 0 23) = true := by simp [← hw_, c_4, c_8]
                    refine ⟨?_, rfl, ?_⟩
                    · (try simp only [hc_, cond_true, cond_false, nI_clamp (show k0 < 2 ^ 31 by omega), nI_clamp (show k1 < 2 ^ 31 by omega)])
                      first | done | exact by rw [pw_abs hGC hGP hSU hF10 hF11 (bHh k1 (by omega)) (by omega) (by omega), Nat.zero_mul]
                    · (try simp only [hc_, cond_true, cond_false, nI_clamp (show k0 < 2 ^ 31 by omega), nI_clamp (show k1 < 2 ^ 31 by omega)])
                      exact ⟨⟨hV1, by omega⟩, ⟨hV2, by omega⟩, ⟨hV3, by omega⟩, ⟨hV4, by omega⟩, ⟨hV5, by omega⟩, ⟨hV6, by omega⟩, ⟨hV9, by omega⟩, ⟨sh, hV11, by omega⟩, ⟨hSo, bSo⟩, ⟨hHh, bHh⟩, ⟨hWd, bWd⟩, ⟨hLm, bLm⟩, ⟨hPr, bPr⟩, by omega, hGP, hSU, GC_cong hGC (Eq.refl (F 5)) (Eq.refl (F 6)) (Eq.refl (F 7)) (Eq.refl (F 8)), (fun i hi => (congrFun (Eq.refl (F 10)) i).trans (hF10 i hi)), (fun i hi => (congrFun (Eq.refl (F 11)) i).trans (hF11 i hi)), KC_cong hKC (Eq.refl (F 19)) (Eq.refl (F 20)), ((Eq.refl (V 7))).trans hE, PLC_cong hPL (Eq.refl (V 8))⟩) (hP) (hD) hS
    · have c_8 : isW p1 0 23 = false := bI_f hw_7 c_8
      refine lv_iconst (v := (-1)) hx hb dX4_power_15 (by decide) ?_
      exact hret (-1) (h, F, V) H locs 16 ls rfl dX4_power_16 (by
                    have hw_ := inN_W (v := p0) bV1
                    have hc_ : (inN p0 n && isW p1 0 23) = false := by simp [← hw_, c_4, c_8]
                    refine ⟨?_, rfl, ?_⟩
                    · (try simp only [hc_, cond_true, cond_false])
                      first | done | exact rfl
                    · (try simp only [hc_, cond_true, cond_false])
                      exact ⟨⟨hV1, by omega⟩, ⟨hV2, by omega⟩, ⟨hV3, by omega⟩, ⟨hV4, by omega⟩, ⟨hV5, by omega⟩, ⟨hV6, by omega⟩, ⟨hV9, by omega⟩, ⟨sh, hV11, by omega⟩, ⟨hSo, bSo⟩, ⟨hHh, bHh⟩, ⟨hWd, bWd⟩, ⟨hLm, bLm⟩, ⟨hPr, bPr⟩, by omega, hGP, hSU, GC_cong hGC (Eq.refl (F 5)) (Eq.refl (F 6)) (Eq.refl (F 7)) (Eq.refl (F 8)), (fun i hi => (congrFun (Eq.refl (F 10)) i).trans (hF10 i hi)), (fun i hi => (congrFun (Eq.refl (F 11)) i).trans (hF11 i hi)), KC_cong hKC (Eq.refl (F 19)) (Eq.refl (F 20)), ((Eq.refl (V 7))).trans hE, PLC_cong hPL (Eq.refl (V 8))⟩) (hP) (hD) hS
def rm_X4_stowed : Room := { frames := 2, cells := 0, slots := 0, locals := 42 }
set_option maxHeartbeats 4000000 in
set_option maxRecDepth 100000 in
theorem c_X4_stowed (l : Launch) (dC : Nat → ClassId) (dI : Nat → Nat → Nat) (cI cZ cJ : ClassId) (h : Nat → Nat) (F : Nat → Nat → Int32) (V : Nat → Int32) (n : Nat) (hV1 : V 1 = nI n) (bV1 : n ≤ 40) (d : Nat) (hV2 : V 2 = nI d) (bV2 : d ≤ 20) (ks : Nat) (hV3 : V 3 = nI ks) (bV3 : ks ≤ 40) (nw : Nat) (hV4 : V 4 = nI nw) (bV4 : nw ≤ 23) (un : Nat) (hV5 : V 5 = nI un) (bV5 : un ≤ 200) (wm : Nat) (hV6 : V 6 = nI wm) (bV6 : wm ≤ 1) (pf : Nat) (hV9 : V 9 = nI pf) (bV9 : pf ≤ 24) (sh : Nat) (hV11 : V 11 = nI sh) (bV11 : sh ≤ 12) (So : Nat → Nat) (hSo : ∀ i, i < 40 → F 9 i = nI (So i)) (bSo : ∀ i, i < 40 → So i ≤ 90) (Hh : Nat → Nat) (hHh : ∀ i, i < 24 → F 12 i = nI (Hh i)) (bHh : ∀ i, i < 24 → Hh i ≤ 9) (Wd : Nat → Nat) (hWd : ∀ i, i < 24 → F 13 i = nI (Wd i)) (bWd : ∀ i, i < 24 → Wd i ≤ 99) (Lm : Nat → Nat) (hLm : ∀ i, i < 4 → F 14 i = nI (Lm i)) (bLm : ∀ i, i < 4 → Lm i ≤ 10000) (Pr : Nat → Nat) (hPr : ∀ i, i < 24 → F 23 i = nI (Pr i)) (bPr : ∀ i, i < 24 → Pr i ≤ 999) (p0 : Int32)  (X Y : Nat → Nat) (SX SY Kc Kp : Nat → Int32) (er : Int32) (rb : Nat → Bool) (hkn : ks ≤ n) (hGP : GP n X Y) (hSU : SUN SX SY) (hGC : GC n X Y F) (hF10 : ∀ i, i < 24 → F 10 i = SX i) (hF11 : ∀ i, i < 24 → F 11 i = SY i) (hKC : KC ks Kc Kp F) (hE : V 7 = er) (hPL : PLC pf rb V) : CtI l (dC, dI) vwCl (tys3 cI cZ cJ) yX4_stowed wsX4_stowed rm_X4_stowed [.ref (h 0), .int p0] (wC cI cZ h F V) (S := (Nat → Nat) × (Nat → Nat → Int32) × (Nat → Int32)) (fun r u => (r = (bif isW p0 0 23 then bI (stow Wd p0.toNatClampNeg) else (-1))) ∧ u.1 0 = h 0 ∧ VC n d ks nw un wm pf So Hh Wd Lm Pr X Y SX SY Kc Kp er rb u.2.1 u.2.2) (fun u => wC cI cZ u.1 u.2.1 u.2.2) 0 0 := by
  refine ct_I (cc := cX4_stowed) (maxL := 2) (ty := .int) (own := RX4) (by decide) rfl rfl (Nat.le_of_ble_eq_true rfl) (lv := [(0, .ref (h 0)), (1, .int p0)]) rfl ?_
  intro p e s m args below meth c A Q ls fx hK hP hD hA hl hret
  obtain ⟨hx, hb, hml, hown, hts⟩ := id fx
  have hS : va_S A s.heap s.heap [] := va_S.rf
  have hw0 := hts (.fieldLink RX4 10 "MirrorTower" "field" "LMirrorTower$Field;") (by decide +kernel)
  have hin_X4 : ∀ w ∈ u_ws RX4 TX4 5, w ∈ wsX4_stowed := by decide +kernel
  obtain ⟨H, hH⟩ : ∃ H, H = s.heap := ⟨_, rfl⟩
  rw [← hH] at hP ⊢
  have hS : va_S A s.heap H [] := by rw [hH]; exact hS
  generalize ([] : List Loc) = locs at hS ⊢
  refine lv_iload_n hx hb dX4_stowed_0 rfl (lv_at hl 1 rfl) ?_
  refine cw_Si (As := [.int p0]) (rest := []) (c_X4_isHour l dC dI cI cZ cJ (wC cI cZ h F V) p0) fx (va_cwS 1 hts gX4_stowed_X4_isHour rfl rfl rfl (by decide +kernel) ⟨Nat.le_of_ble_eq_true rfl, Nat.le_of_ble_eq_true rfl⟩) hK hP hD hS hA rfl hl.1 rfl (Nat.le_of_ble_eq_true rfl) dX4_stowed_1 ⟨Nat.le_of_ble_eq_true rfl, Nat.le_of_ble_eq_true rfl⟩ (fun r_1 u_2 H locs hw_3 hP hD hS => ?_)
  have hP : va_P (dC, dI) vwCl (wC cI cZ h F V) H := hP
  have hD : va_D A (wC cI cZ h F V) := hD
  have hw_3 : r_1 = bI (isW p0 0 23) := hw_3
  refine lv_if_ne (tgt := 9) hx hb dX4_stowed_4 (by decide) (fun c_4 => ?_) (fun c_4 => ?_)
  · have c_4 : isW p0 0 23 = true := bI_t hw_3 c_4
    refine lv_aload_n hx hb dX4_stowed_9 rfl (lv_at hl 0 rfl) ?_
    refine va_get (D := (dC, dI)) (ci := 4) (v := .ref (h 1)) (C := RX4) (T := TX4) (N := 5) hx hb hts hin_X4 hown hK hP 0 rfl rfl 0 (by decide) hw0 (fun _ h9 => h9) rfl dX4_stowed_10 ?_
    refine lv_iload_n hx hb dX4_stowed_13 rfl (lv_at hl 1 rfl) ?_
    obtain ⟨k0, hk0, rfl⟩ := isW_nat (M := 23) (n := 23) (by decide) c_4
    refine cw_Vi (As := [.int (nI k0)]) (rest := []) (c_X1_isStowed l dC dI cI cZ cJ h F V Wd hWd bWd k0 (by omega)) fx (cwV 1 hts gX4_stowed_X1_isStowed rfl rfl rfl (by decide +kernel) ⟨Nat.le_of_ble_eq_true rfl, Nat.le_of_ble_eq_true rfl⟩) hK hP hD hS hA 1 rfl rfl rfl rfl hl.1 rfl (Nat.le_of_ble_eq_true rfl) dX4_stowed_14 ⟨Nat.le_of_ble_eq_true rfl, Nat.le_of_ble_eq_true rfl⟩ (fun r_5 u_6 H locs hw_7 hP hD hS => ?_)
    have hP : va_P (dC, dI) vwCl (wC cI cZ h F V) H := hP
    have hD : va_D A (wC cI cZ h F V) := hD
    have hw_7 : r_5 = bI (stow Wd k0) := hw_7
    refine lv_if_eq (tgt := 24) hx hb dX4_stowed_17 (by decide) (fun c_8 => ?_) (fun c_8 => ?_)
    · have c_8 : stow Wd k0 = false := bI_f hw_7 c_8
      refine lv_iconst (v := 0) hx hb dX4_stowed_24 (by decide) ?_
      exact hret 0 (h, F, V) H locs 25 ls rfl dX4_stowed_25 (by
                    have hc_ : isW (nI k0) 0 23 = true := by simp [c_4, c_8]
                    refine ⟨?_, rfl, ?_⟩
                    · (try simp only [hc_, cond_true, cond_false, nI_clamp (show k0 < 2 ^ 31 by omega)])
                      first | done | exact by rw [c_8]; rfl
                    · (try simp only [hc_, cond_true, cond_false, nI_clamp (show k0 < 2 ^ 31 by omega)])
                      exact ⟨⟨hV1, by omega⟩, ⟨hV2, by omega⟩, ⟨hV3, by omega⟩, ⟨hV4, by omega⟩, ⟨hV5, by omega⟩, ⟨hV6, by omega⟩, ⟨hV9, by omega⟩, ⟨sh, hV11, by omega⟩, ⟨hSo, bSo⟩, ⟨hHh, bHh⟩, ⟨hWd, bWd⟩, ⟨hLm, bLm⟩, ⟨hPr, bPr⟩, by omega, hGP, hSU, GC_cong hGC (Eq.refl (F 5)) (Eq.refl (F 6)) (Eq.refl (F 7)) (Eq.refl (F 8)), (fun i hi => (congrFun (Eq.refl (F 10)) i).trans (hF10 i hi)), (fun i hi => (congrFun (Eq.refl (F 11)) i).trans (hF11 i hi)), KC_cong hKC (Eq.refl (F 19)) (Eq.refl (F 20)), ((Eq.refl (V 7))).trans hE, PLC_cong hPL (Eq.refl (V 8))⟩) (hP) (hD) hS
    · have c_8 : stow Wd k0 = true := bI_t hw_7 c_8
      refine lv_iconst (v := 1) hx hb dX4_stowed_20 (by decide) ?_
      refine lv_goto (tgt := 25) hx hb dX4_stowed_21 (by decide) ?_
      exact hret 1 (h, F, V) H locs 25 ls rfl dX4_stowed_25 (by
                    have hc_ : isW (nI k0) 0 23 = true := by simp [c_4, c_8]
                    refine ⟨?_, rfl, ?_⟩
                    · (try simp only [hc_, cond_true, cond_false, nI_clamp (show k0 < 2 ^ 31 by omega)])
                      first | done | exact by rw [c_8]; rfl
                    · (try simp only [hc_, cond_true, cond_false, nI_clamp (show k0 < 2 ^ 31 by omega)])
                      exact ⟨⟨hV1, by omega⟩, ⟨hV2, by omega⟩, ⟨hV3, by omega⟩, ⟨hV4, by omega⟩, ⟨hV5, by omega⟩, ⟨hV6, by omega⟩, ⟨hV9, by omega⟩, ⟨sh, hV11, by omega⟩, ⟨hSo, bSo⟩, ⟨hHh, bHh⟩, ⟨hWd, bWd⟩, ⟨hLm, bLm⟩, ⟨hPr, bPr⟩, by omega, hGP, hSU, GC_cong hGC (Eq.refl (F 5)) (Eq.refl (F 6)) (Eq.refl (F 7)) (Eq.refl (F 8)), (fun i hi => (congrFun (Eq.refl (F 10)) i).trans (hF10 i hi)), (fun i hi => (congrFun (Eq.refl (F 11)) i).trans (hF11 i hi)), KC_cong hKC (Eq.refl (F 19)) (Eq.refl (F 20)), ((Eq.refl (V 7))).trans hE, PLC_cong hPL (Eq.refl (V 8))⟩) (hP) (hD) hS
  · have c_4 : isW p0 0 23 = false := bI_f hw_3 c_4
    refine lv_iconst (v := (-1)) hx hb dX4_stowed_7 (by decide) ?_
    exact hret (-1) (h, F, V) H locs 8 ls rfl dX4_stowed_8 (by
                  have hc_ : isW p0 0 23 = false := by simp [c_4]
                  refine ⟨?_, rfl, ?_⟩
                  · (try simp only [hc_, cond_true, cond_false])
                    first | done | exact rfl
                  · (try simp only [hc_, cond_true, cond_false])
                    exact ⟨⟨hV1, by omega⟩, ⟨hV2, by omega⟩, ⟨hV3, by omega⟩, ⟨hV4, by omega⟩, ⟨hV5, by omega⟩, ⟨hV6, by omega⟩, ⟨hV9, by omega⟩, ⟨sh, hV11, by omega⟩, ⟨hSo, bSo⟩, ⟨hHh, bHh⟩, ⟨hWd, bWd⟩, ⟨hLm, bLm⟩, ⟨hPr, bPr⟩, by omega, hGP, hSU, GC_cong hGC (Eq.refl (F 5)) (Eq.refl (F 6)) (Eq.refl (F 7)) (Eq.refl (F 8)), (fun i hi => (congrFun (Eq.refl (F 10)) i).trans (hF10 i hi)), (fun i hi => (congrFun (Eq.refl (F 11)) i).trans (hF11 i hi)), KC_cong hKC (Eq.refl (F 19)) (Eq.refl (F 20)), ((Eq.refl (V 7))).trans hE, PLC_cong hPL (Eq.refl (V 8))⟩) (hP) (hD) hS
def rm_X4_soil : Room := { frames := 2, cells := 0, slots := 0, locals := 43 }
set_option maxHeartbeats 4000000 in
set_option maxRecDepth 100000 in
theorem c_X4_soil (l : Launch) (dC : Nat → ClassId) (dI : Nat → Nat → Nat) (cI cZ cJ : ClassId) (h : Nat → Nat) (F : Nat → Nat → Int32) (V : Nat → Int32) (n : Nat) (hV1 : V 1 = nI n) (bV1 : n ≤ 40) (d : Nat) (hV2 : V 2 = nI d) (bV2 : d ≤ 20) (ks : Nat) (hV3 : V 3 = nI ks) (bV3 : ks ≤ 40) (nw : Nat) (hV4 : V 4 = nI nw) (bV4 : nw ≤ 23) (un : Nat) (hV5 : V 5 = nI un) (bV5 : un ≤ 200) (wm : Nat) (hV6 : V 6 = nI wm) (bV6 : wm ≤ 1) (pf : Nat) (hV9 : V 9 = nI pf) (bV9 : pf ≤ 24) (sh : Nat) (hV11 : V 11 = nI sh) (bV11 : sh ≤ 12) (So : Nat → Nat) (hSo : ∀ i, i < 40 → F 9 i = nI (So i)) (bSo : ∀ i, i < 40 → So i ≤ 90) (Hh : Nat → Nat) (hHh : ∀ i, i < 24 → F 12 i = nI (Hh i)) (bHh : ∀ i, i < 24 → Hh i ≤ 9) (Wd : Nat → Nat) (hWd : ∀ i, i < 24 → F 13 i = nI (Wd i)) (bWd : ∀ i, i < 24 → Wd i ≤ 99) (Lm : Nat → Nat) (hLm : ∀ i, i < 4 → F 14 i = nI (Lm i)) (bLm : ∀ i, i < 4 → Lm i ≤ 10000) (Pr : Nat → Nat) (hPr : ∀ i, i < 24 → F 23 i = nI (Pr i)) (bPr : ∀ i, i < 24 → Pr i ≤ 999) (p0 : Int32)  (X Y : Nat → Nat) (SX SY Kc Kp : Nat → Int32) (er : Int32) (rb : Nat → Bool) (hkn : ks ≤ n) (hGP : GP n X Y) (hSU : SUN SX SY) (hGC : GC n X Y F) (hF10 : ∀ i, i < 24 → F 10 i = SX i) (hF11 : ∀ i, i < 24 → F 11 i = SY i) (hKC : KC ks Kc Kp F) (hE : V 7 = er) (hPL : PLC pf rb V) : CtI l (dC, dI) vwCl (tys3 cI cZ cJ) yX4_soil wsX4_soil rm_X4_soil [.ref (h 0), .int p0] (wC cI cZ h F V) (S := (Nat → Nat) × (Nat → Nat → Int32) × (Nat → Int32)) (fun r u => (r = (bif inN p0 n then nI (So p0.toNatClampNeg) else (-1))) ∧ u.1 0 = h 0 ∧ VC n d ks nw un wm pf So Hh Wd Lm Pr X Y SX SY Kc Kp er rb u.2.1 u.2.2) (fun u => wC cI cZ u.1 u.2.1 u.2.2) 0 0 := by
  refine ct_I (cc := cX4_soil) (maxL := 2) (ty := .int) (own := RX4) (by decide) rfl rfl (Nat.le_of_ble_eq_true rfl) (lv := [(0, .ref (h 0)), (1, .int p0)]) rfl ?_
  intro p e s m args below meth c A Q ls fx hK hP hD hA hl hret
  obtain ⟨hx, hb, hml, hown, hts⟩ := id fx
  have hS : va_S A s.heap s.heap [] := va_S.rf
  have hw0 := hts (.fieldLink RX4 10 "MirrorTower" "field" "LMirrorTower$Field;") (by decide +kernel)
  have hin_X4 : ∀ w ∈ u_ws RX4 TX4 5, w ∈ wsX4_soil := by decide +kernel
  obtain ⟨H, hH⟩ : ∃ H, H = s.heap := ⟨_, rfl⟩
  rw [← hH] at hP ⊢
  have hS : va_S A s.heap H [] := by rw [hH]; exact hS
  generalize ([] : List Loc) = locs at hS ⊢
  refine lv_aload_n hx hb dX4_soil_0 rfl (lv_at hl 0 rfl) ?_
  refine lv_iload_n hx hb dX4_soil_1 rfl (lv_at hl 1 rfl) ?_
  refine cw_Vi (As := [.int p0]) (rest := []) (c_X4_isMirror l dC dI cI cZ cJ h F V n hV1 (by omega) p0) fx (cwV 1 hts gX4_soil_X4_isMirror rfl rfl rfl (by decide +kernel) ⟨Nat.le_of_ble_eq_true rfl, Nat.le_of_ble_eq_true rfl⟩) hK hP hD hS hA 0 rfl rfl rfl rfl hl.1 rfl (Nat.le_of_ble_eq_true rfl) dX4_soil_2 ⟨Nat.le_of_ble_eq_true rfl, Nat.le_of_ble_eq_true rfl⟩ (fun r_1 u_2 H locs hw_3 hP hD hS => ?_)
  have hP : va_P (dC, dI) vwCl (wC cI cZ h F V) H := hP
  have hD : va_D A (wC cI cZ h F V) := hD
  have hw_3 : r_1 = bI (isW p0 0 (nI n - 1)) := hw_3
  refine lv_if_eq (tgt := 20) hx hb dX4_soil_5 (by decide) (fun c_4 => ?_) (fun c_4 => ?_)
  · have c_4 : isW p0 0 (nI n - 1) = false := bI_f hw_3 c_4
    refine lv_iconst (v := (-1)) hx hb dX4_soil_20 (by decide) ?_
    exact hret (-1) (h, F, V) H locs 21 ls rfl dX4_soil_21 (by
                  have hw_ := inN_W (v := p0) bV1
                  have hc_ : inN p0 n = false := by simp [← hw_, c_4]
                  refine ⟨?_, rfl, ?_⟩
                  · (try simp only [hc_, cond_true, cond_false])
                    first | done | exact rfl
                  · (try simp only [hc_, cond_true, cond_false])
                    exact ⟨⟨hV1, by omega⟩, ⟨hV2, by omega⟩, ⟨hV3, by omega⟩, ⟨hV4, by omega⟩, ⟨hV5, by omega⟩, ⟨hV6, by omega⟩, ⟨hV9, by omega⟩, ⟨sh, hV11, by omega⟩, ⟨hSo, bSo⟩, ⟨hHh, bHh⟩, ⟨hWd, bWd⟩, ⟨hLm, bLm⟩, ⟨hPr, bPr⟩, by omega, hGP, hSU, GC_cong hGC (Eq.refl (F 5)) (Eq.refl (F 6)) (Eq.refl (F 7)) (Eq.refl (F 8)), (fun i hi => (congrFun (Eq.refl (F 10)) i).trans (hF10 i hi)), (fun i hi => (congrFun (Eq.refl (F 11)) i).trans (hF11 i hi)), KC_cong hKC (Eq.refl (F 19)) (Eq.refl (F 20)), ((Eq.refl (V 7))).trans hE, PLC_cong hPL (Eq.refl (V 8))⟩) (hP) (hD) hS
  · have c_4 : isW p0 0 (nI n - 1) = true := bI_t hw_3 c_4
    refine lv_aload_n hx hb dX4_soil_8 rfl (lv_at hl 0 rfl) ?_
    refine va_get (D := (dC, dI)) (ci := 4) (v := .ref (h 1)) (C := RX4) (T := TX4) (N := 5) hx hb hts hin_X4 hown hK hP 0 rfl rfl 0 (by decide) hw0 (fun _ h9 => h9) rfl dX4_soil_9 ?_
    refine lv_iload_n hx hb dX4_soil_12 rfl (lv_at hl 1 rfl) ?_
    refine lv_iconst (v := 0) hx hb dX4_soil_13 (by decide) ?_
    obtain ⟨k0, hk0, rfl⟩ := isW_mir bV1 c_4
    refine cw_Vi (As := [.int (nI k0), .int 0]) (rest := []) (c_X1_soilOf l dC dI cI cZ cJ h F V d hV2 (by omega) So hSo bSo k0 0 (by omega) (by omega)) fx (cwV 2 hts gX4_soil_X1_soilOf rfl rfl rfl (by decide +kernel) ⟨Nat.le_of_ble_eq_true rfl, Nat.le_of_ble_eq_true rfl⟩) hK hP hD hS hA 1 rfl rfl rfl rfl hl.1 rfl (Nat.le_of_ble_eq_true rfl) dX4_soil_14 ⟨Nat.le_of_ble_eq_true rfl, Nat.le_of_ble_eq_true rfl⟩ (fun r_5 u_6 H locs hw_7 hP hD hS => ?_)
    have hP : va_P (dC, dI) vwCl (wC cI cZ h F V) H := hP
    have hD : va_D A (wC cI cZ h F V) := hD
    obtain rfl : r_5 = nI (min 90 (So k0 + 0 * d)) := hw_7
    refine lv_goto (tgt := 21) hx hb dX4_soil_17 (by decide) ?_
    exact hret (nI (min 90 (So k0 + 0 * d))) (h, F, V) H locs 21 ls rfl dX4_soil_21 (by
                  have hw_ := inN_W (v := nI k0) bV1
                  have hc_ : inN (nI k0) n = true := by simp [← hw_, c_4]
                  refine ⟨?_, rfl, ?_⟩
                  · (try simp only [hc_, cond_true, cond_false, nI_clamp (show k0 < 2 ^ 31 by omega)])
                    first | done | exact congrArg nI (by have := bSo k0 (by omega); omega)
                  · (try simp only [hc_, cond_true, cond_false, nI_clamp (show k0 < 2 ^ 31 by omega)])
                    exact ⟨⟨hV1, by omega⟩, ⟨hV2, by omega⟩, ⟨hV3, by omega⟩, ⟨hV4, by omega⟩, ⟨hV5, by omega⟩, ⟨hV6, by omega⟩, ⟨hV9, by omega⟩, ⟨sh, hV11, by omega⟩, ⟨hSo, bSo⟩, ⟨hHh, bHh⟩, ⟨hWd, bWd⟩, ⟨hLm, bLm⟩, ⟨hPr, bPr⟩, by omega, hGP, hSU, GC_cong hGC (Eq.refl (F 5)) (Eq.refl (F 6)) (Eq.refl (F 7)) (Eq.refl (F 8)), (fun i hi => (congrFun (Eq.refl (F 10)) i).trans (hF10 i hi)), (fun i hi => (congrFun (Eq.refl (F 11)) i).trans (hF11 i hi)), KC_cong hKC (Eq.refl (F 19)) (Eq.refl (F 20)), ((Eq.refl (V 7))).trans hE, PLC_cong hPL (Eq.refl (V 8))⟩) (hP) (hD) hS
def rm_X4_wash : Room := { frames := 2, cells := 0, slots := 0, locals := 46 }
set_option maxHeartbeats 4000000 in
set_option maxRecDepth 100000 in
theorem c_X4_wash (l : Launch) (dC : Nat → ClassId) (dI : Nat → Nat → Nat) (cI cZ cJ : ClassId) (h : Nat → Nat) (F : Nat → Nat → Int32) (V : Nat → Int32) (n : Nat) (hV1 : V 1 = nI n) (bV1 : n ≤ 40) (d : Nat) (hV2 : V 2 = nI d) (bV2 : d ≤ 20) (ks : Nat) (hV3 : V 3 = nI ks) (bV3 : ks ≤ 40) (nw : Nat) (hV4 : V 4 = nI nw) (bV4 : nw ≤ 23) (un : Nat) (hV5 : V 5 = nI un) (bV5 : un ≤ 200) (wm : Nat) (hV6 : V 6 = nI wm) (bV6 : wm ≤ 1) (pf : Nat) (hV9 : V 9 = nI pf) (bV9 : pf ≤ 24) (sh : Nat) (hV11 : V 11 = nI sh) (bV11 : sh ≤ 12) (So : Nat → Nat) (hSo : ∀ i, i < 40 → F 9 i = nI (So i)) (bSo : ∀ i, i < 40 → So i ≤ 90) (Hh : Nat → Nat) (hHh : ∀ i, i < 24 → F 12 i = nI (Hh i)) (bHh : ∀ i, i < 24 → Hh i ≤ 9) (Wd : Nat → Nat) (hWd : ∀ i, i < 24 → F 13 i = nI (Wd i)) (bWd : ∀ i, i < 24 → Wd i ≤ 99) (Lm : Nat → Nat) (hLm : ∀ i, i < 4 → F 14 i = nI (Lm i)) (bLm : ∀ i, i < 4 → Lm i ≤ 10000) (Pr : Nat → Nat) (hPr : ∀ i, i < 24 → F 23 i = nI (Pr i)) (bPr : ∀ i, i < 24 → Pr i ≤ 999) (p0 : Int32)  (X Y : Nat → Nat) (SX SY Kc Kp : Nat → Int32) (er : Int32) (rb : Nat → Bool) (hkn : ks ≤ n) (hGP : GP n X Y) (hSU : SUN SX SY) (hGC : GC n X Y F) (hF10 : ∀ i, i < 24 → F 10 i = SX i) (hF11 : ∀ i, i < 24 → F 11 i = SY i) (hKC : KC ks Kc Kp F) (hE : V 7 = er) (hPL : PLC pf rb V) : CtI l (dC, dI) vwCl (tys3 cI cZ cJ) yX4_wash wsX4_wash rm_X4_wash [.ref (h 0), .int p0] (wC cI cZ h F V) (S := (Nat → Nat) × (Nat → Nat → Int32) × (Nat → Int32)) (fun r u => (r = (bif isW p0 1 40 then nI (wgo So n (min p0.toNatClampNeg n)) else (-1))) ∧ u.1 0 = h 0 ∧ VC n d ks nw un wm pf (bif isW p0 1 40 then wsh So n (min p0.toNatClampNeg n) else So) Hh Wd Lm Pr X Y SX SY Kc Kp er rb u.2.1 u.2.2) (fun u => wC cI cZ u.1 u.2.1 u.2.2) 0 0 := by
  refine ct_I (cc := cX4_wash) (maxL := 2) (ty := .int) (own := RX4) (by decide) rfl rfl (Nat.le_of_ble_eq_true rfl) (lv := [(0, .ref (h 0)), (1, .int p0)]) rfl ?_
  intro p e s m args below meth c A Q ls fx hK hP hD hA hl hret
  obtain ⟨hx, hb, hml, hown, hts⟩ := id fx
  have hS : va_S A s.heap s.heap [] := va_S.rf
  have hw0 := hts (.fieldLink RX4 10 "MirrorTower" "field" "LMirrorTower$Field;") (by decide +kernel)
  have hin_X4 : ∀ w ∈ u_ws RX4 TX4 5, w ∈ wsX4_wash := by decide +kernel
  obtain ⟨H, hH⟩ : ∃ H, H = s.heap := ⟨_, rfl⟩
  rw [← hH] at hP ⊢
  have hS : va_S A s.heap H [] := by rw [hH]; exact hS
  generalize ([] : List Loc) = locs at hS ⊢
  refine lv_iload_n hx hb dX4_wash_0 rfl (lv_at hl 1 rfl) ?_
  refine lv_iconst (v := 1) hx hb dX4_wash_1 (by decide) ?_
  refine lv_bipush (v := 40) hx hb dX4_wash_2 (by decide) ?_
  refine cw_Si (As := [.int p0, .int 1, .int 40]) (rest := []) (c_X4_isWithin l dC dI cI cZ cJ (wC cI cZ h F V) p0 1 40) fx (va_cwS 3 hts gX4_wash_X4_isWithin rfl rfl rfl (by decide +kernel) ⟨Nat.le_of_ble_eq_true rfl, Nat.le_of_ble_eq_true rfl⟩) hK hP hD hS hA rfl hl.1 rfl (Nat.le_of_ble_eq_true rfl) dX4_wash_4 ⟨Nat.le_of_ble_eq_true rfl, Nat.le_of_ble_eq_true rfl⟩ (fun r_1 u_2 H locs hw_3 hP hD hS => ?_)
  have hP : va_P (dC, dI) vwCl (wC cI cZ h F V) H := hP
  have hD : va_D A (wC cI cZ h F V) := hD
  have hw_3 : r_1 = bI (isW p0 1 40) := hw_3
  refine lv_if_ne (tgt := 16) hx hb dX4_wash_7 (by decide) (fun c_4 => ?_) (fun c_4 => ?_)
  · have c_4 : isW p0 1 40 = true := bI_t hw_3 c_4
    refine lv_aload_n hx hb dX4_wash_16 rfl (lv_at hl 0 rfl) ?_
    refine lv_aload_n hx hb dX4_wash_17 rfl (lv_at hl 0 rfl) ?_
    refine va_get (D := (dC, dI)) (ci := 4) (v := .ref (h 1)) (C := RX4) (T := TX4) (N := 5) hx hb hts hin_X4 hown hK hP 0 rfl rfl 0 (by decide) hw0 (fun _ h9 => h9) rfl dX4_wash_18 ?_
    refine lv_iload_n hx hb dX4_wash_21 rfl (lv_at hl 1 rfl) ?_
    obtain ⟨k0, hk0, rfl⟩ := isW_nat1 (M := 40) (n := 40) (by decide) c_4
    refine cw_Vi (As := [.int (nI k0)]) (rest := [.ref (h 0)]) (c_X1_washMost l dC dI cI cZ cJ h F V n hV1 (by omega) So hSo bSo k0 (by omega)) fx (cwV 1 hts gX4_wash_X1_washMost rfl rfl rfl (by decide +kernel) ⟨Nat.le_of_ble_eq_true rfl, Nat.le_of_ble_eq_true rfl⟩) hK hP hD hS hA 1 rfl rfl rfl rfl hl.1 rfl (Nat.le_of_ble_eq_true rfl) dX4_wash_22 ⟨Nat.le_of_ble_eq_true rfl, Nat.le_of_ble_eq_true rfl⟩ (fun r_5 u_6 H locs hw_7 hP hD hS => ?_)
    obtain ⟨F_8, rfl⟩ : ∃ z, z = u_6 := ⟨_, rfl⟩
    have hf_9 : ∀ j, j ∉ ([9] : List Nat) → F_8 j = F j := hw_7.2.1
    have hP : va_P (dC, dI) vwCl (wC cI cZ h F_8 V) H := hP
    have hD : va_D A (wC cI cZ h F_8 V) := hD
    have hN_10 : ∀ i, i < 24 → F_8 12 i = nI (Hh i) := by rw [hf_9 12 (by decide)]; exact hHh
    have hN_11 : ∀ i, i < 24 → F_8 13 i = nI (Wd i) := by rw [hf_9 13 (by decide)]; exact hWd
    have hN_12 : ∀ i, i < 4 → F_8 14 i = nI (Lm i) := by rw [hf_9 14 (by decide)]; exact hLm
    have hN_13 : ∀ i, i < 24 → F_8 23 i = nI (Pr i) := by rw [hf_9 23 (by decide)]; exact hPr
    have hN_14 : ∀ i, i < 40 → F_8 9 i = nI ((wsh So n (min k0 n)) i) := hw_7.2.2.1
    have bN_15 : ∀ i, i < 40 → (wsh So n (min k0 n)) i ≤ 90 := hw_7.2.2.2
    obtain rfl : r_5 = nI (wgo So n (min k0 n)) := hw_7.1
    refine cw_Vi (As := [.int (nI (wgo So n (min k0 n)))]) (rest := []) (c_X4_granted l dC dI cI cZ cJ h F_8 V (nI (wgo So n (min k0 n)))) fx (cwV 1 hts gX4_wash_X4_granted rfl rfl rfl (by decide +kernel) ⟨Nat.le_of_ble_eq_true rfl, Nat.le_of_ble_eq_true rfl⟩) hK hP hD hS hA 0 rfl rfl rfl rfl hl.1 rfl (Nat.le_of_ble_eq_true rfl) dX4_wash_25 ⟨Nat.le_of_ble_eq_true rfl, Nat.le_of_ble_eq_true rfl⟩ (fun r_16 u_17 H locs hw_18 hP hD hS => ?_)
    have hP : va_P (dC, dI) vwCl (wC cI cZ h F_8 (va_up V 0 0)) H := hP
    have hD : va_D A (wC cI cZ h F_8 (va_up V 0 0)) := hD
    obtain rfl : r_16 = nI (wgo So n (min k0 n)) := hw_18
    exact hret (nI (wgo So n (min k0 n))) (h, F_8, va_up V 0 0) H locs 28 ls rfl dX4_wash_28 (by
                  have hc_ : isW (nI k0) 1 40 = true := by simp [c_4]
                  refine ⟨?_, rfl, ?_⟩
                  · (try simp only [hc_, cond_true, cond_false, nI_clamp (show k0 < 2 ^ 31 by omega)])
                    first | done | exact rfl
                  · (try simp only [hc_, cond_true, cond_false, nI_clamp (show k0 < 2 ^ 31 by omega)])
                    exact ⟨⟨hV1, by omega⟩, ⟨hV2, by omega⟩, ⟨hV3, by omega⟩, ⟨hV4, by omega⟩, ⟨hV5, by omega⟩, ⟨hV6, by omega⟩, ⟨hV9, by omega⟩, ⟨sh, hV11, by omega⟩, ⟨hN_14, bN_15⟩, ⟨hN_10, bHh⟩, ⟨hN_11, bWd⟩, ⟨hN_12, bLm⟩, ⟨hN_13, bPr⟩, by omega, hGP, hSU, GC_cong hGC (hf_9 5 (by decide)) (hf_9 6 (by decide)) (hf_9 7 (by decide)) (hf_9 8 (by decide)), (fun i hi => (congrFun (hf_9 10 (by decide)) i).trans (hF10 i hi)), (fun i hi => (congrFun (hf_9 11 (by decide)) i).trans (hF11 i hi)), KC_cong hKC (hf_9 19 (by decide)) (hf_9 20 (by decide)), ((show (va_up V 0 0) 7 = V 7 from rfl)).trans hE, PLC_cong hPL (show (va_up V 0 0) 8 = V 8 from rfl)⟩) (hP) (hD) hS
  · have c_4 : isW p0 1 40 = false := bI_f hw_3 c_4
    refine lv_aload_n hx hb dX4_wash_10 rfl (lv_at hl 0 rfl) ?_
    refine lv_iconst (v := 2) hx hb dX4_wash_11 (by decide) ?_
    refine cw_Vi (As := [.int 2]) (rest := []) (c_X4_refused l dC dI cI cZ cJ h F V 2) fx (cwV 1 hts gX4_wash_X4_refused rfl rfl rfl (by decide +kernel) ⟨Nat.le_of_ble_eq_true rfl, Nat.le_of_ble_eq_true rfl⟩) hK hP hD hS hA 0 rfl rfl rfl rfl hl.1 rfl (Nat.le_of_ble_eq_true rfl) dX4_wash_12 ⟨Nat.le_of_ble_eq_true rfl, Nat.le_of_ble_eq_true rfl⟩ (fun r_19 u_20 H locs hw_21 hP hD hS => ?_)
    have hP : va_P (dC, dI) vwCl (wC cI cZ h F (va_up V 0 2)) H := hP
    have hD : va_D A (wC cI cZ h F (va_up V 0 2)) := hD
    obtain rfl : r_19 = (-1) := hw_21
    exact hret (-1) (h, F, va_up V 0 2) H locs 15 ls rfl dX4_wash_15 (by
                  have hc_ : isW p0 1 40 = false := by simp [c_4]
                  refine ⟨?_, rfl, ?_⟩
                  · (try simp only [hc_, cond_true, cond_false])
                    first | done | exact rfl
                  · (try simp only [hc_, cond_true, cond_false])
                    exact ⟨⟨hV1, by omega⟩, ⟨hV2, by omega⟩, ⟨hV3, by omega⟩, ⟨hV4, by omega⟩, ⟨hV5, by omega⟩, ⟨hV6, by omega⟩, ⟨hV9, by omega⟩, ⟨sh, hV11, by omega⟩, ⟨hSo, bSo⟩, ⟨hHh, bHh⟩, ⟨hWd, bWd⟩, ⟨hLm, bLm⟩, ⟨hPr, bPr⟩, by omega, hGP, hSU, GC_cong hGC (Eq.refl (F 5)) (Eq.refl (F 6)) (Eq.refl (F 7)) (Eq.refl (F 8)), (fun i hi => (congrFun (Eq.refl (F 10)) i).trans (hF10 i hi)), (fun i hi => (congrFun (Eq.refl (F 11)) i).trans (hF11 i hi)), KC_cong hKC (Eq.refl (F 19)) (Eq.refl (F 20)), ((show (va_up V 0 2) 7 = V 7 from rfl)).trans hE, PLC_cong hPL (show (va_up V 0 2) 8 = V 8 from rfl)⟩) (hP) (hD) hS
def rm_X4_aim : Room := { frames := 6, cells := 0, slots := 0, locals := 132 }
set_option maxHeartbeats 4000000 in
set_option maxRecDepth 100000 in
theorem c_X4_aim (l : Launch) (dC : Nat → ClassId) (dI : Nat → Nat → Nat) (cI cZ cJ : ClassId) (h : Nat → Nat) (F : Nat → Nat → Int32) (V : Nat → Int32) (n : Nat) (hV1 : V 1 = nI n) (bV1 : n ≤ 40) (d : Nat) (hV2 : V 2 = nI d) (bV2 : d ≤ 20) (ks : Nat) (hV3 : V 3 = nI ks) (bV3 : ks ≤ 40) (nw : Nat) (hV4 : V 4 = nI nw) (bV4 : nw ≤ 23) (un : Nat) (hV5 : V 5 = nI un) (bV5 : un ≤ 200) (wm : Nat) (hV6 : V 6 = nI wm) (bV6 : wm ≤ 1) (pf : Nat) (hV9 : V 9 = nI pf) (bV9 : pf ≤ 24) (sh : Nat) (hV11 : V 11 = nI sh) (bV11 : sh ≤ 12) (So : Nat → Nat) (hSo : ∀ i, i < 40 → F 9 i = nI (So i)) (bSo : ∀ i, i < 40 → So i ≤ 90) (Hh : Nat → Nat) (hHh : ∀ i, i < 24 → F 12 i = nI (Hh i)) (bHh : ∀ i, i < 24 → Hh i ≤ 9) (Wd : Nat → Nat) (hWd : ∀ i, i < 24 → F 13 i = nI (Wd i)) (bWd : ∀ i, i < 24 → Wd i ≤ 99) (Lm : Nat → Nat) (hLm : ∀ i, i < 4 → F 14 i = nI (Lm i)) (bLm : ∀ i, i < 4 → Lm i ≤ 10000) (Pr : Nat → Nat) (hPr : ∀ i, i < 24 → F 23 i = nI (Pr i)) (bPr : ∀ i, i < 24 → Pr i ≤ 999) (p0 : Int32)  (X Y : Nat → Nat) (SX SY Kc Kp : Nat → Int32) (er : Int32) (rb : Nat → Bool) (hkn : ks ≤ n) (hGP : GP n X Y) (hSU : SUN SX SY) (hGC : GC n X Y F) (hF10 : ∀ i, i < 24 → F 10 i = SX i) (hF11 : ∀ i, i < 24 → F 11 i = SY i) (hKC : KC ks Kc Kp F) (hE : V 7 = er) (hPL : PLC pf rb V) : CtI l (dC, dI) vwCl (tys3 cI cZ cJ) yX4_aim wsX4_aim rm_X4_aim [.ref (h 0), .int p0] (wC cI cZ h F V) (S := (Nat → Nat) × (Nat → Nat → Int32) × (Nat → Int32)) (fun r u => (r = (bif isW p0 0 23 then nI (htA (pwA X Y n SX SY Hh So Wd p0.toNatClampNeg 0) Lm n) else (-1))) ∧ u.1 0 = h 0 ∧ VC n d (bif isW p0 0 23 then n else ks) nw un wm pf So Hh Wd Lm Pr X Y SX SY (bif isW p0 0 23 then cA (pwA X Y n SX SY Hh So Wd p0.toNatClampNeg 0) Lm n else Kc) (bif isW p0 0 23 then (fun i => nI (Lm i - lA (pwA X Y n SX SY Hh So Wd p0.toNatClampNeg 0) Lm n i)) else Kp) er rb u.2.1 u.2.2) (fun u => wC cI cZ u.1 u.2.1 u.2.2) 0 0 := by
  refine ct_I (cc := cX4_aim) (maxL := 2) (ty := .int) (own := RX4) (by decide) rfl rfl (Nat.le_of_ble_eq_true rfl) (lv := [(0, .ref (h 0)), (1, .int p0)]) rfl ?_
  intro p e s m args below meth c A Q ls fx hK hP hD hA hl hret
  obtain ⟨hx, hb, hml, hown, hts⟩ := id fx
  have hS : va_S A s.heap s.heap [] := va_S.rf
  have hw0 := hts (.fieldLink RX4 21 "MirrorTower" "cells" "LMirrorTower$Face;") (by decide +kernel)
  have hin_X4 : ∀ w ∈ u_ws RX4 TX4 5, w ∈ wsX4_aim := by decide +kernel
  obtain ⟨H, hH⟩ : ∃ H, H = s.heap := ⟨_, rfl⟩
  rw [← hH] at hP ⊢
  have hS : va_S A s.heap H [] := by rw [hH]; exact hS
  generalize ([] : List Loc) = locs at hS ⊢
  refine lv_iload_n hx hb dX4_aim_0 rfl (lv_at hl 1 rfl) ?_
  refine cw_Si (As := [.int p0]) (rest := []) (c_X4_isHour l dC dI cI cZ cJ (wC cI cZ h F V) p0) fx (va_cwS 1 hts gX4_aim_X4_isHour rfl rfl rfl (by decide +kernel) ⟨Nat.le_of_ble_eq_true rfl, Nat.le_of_ble_eq_true rfl⟩) hK hP hD hS hA rfl hl.1 rfl (Nat.le_of_ble_eq_true rfl) dX4_aim_1 ⟨Nat.le_of_ble_eq_true rfl, Nat.le_of_ble_eq_true rfl⟩ (fun r_1 u_2 H locs hw_3 hP hD hS => ?_)
  have hP : va_P (dC, dI) vwCl (wC cI cZ h F V) H := hP
  have hD : va_D A (wC cI cZ h F V) := hD
  have hw_3 : r_1 = bI (isW p0 0 23) := hw_3
  refine lv_if_ne (tgt := 13) hx hb dX4_aim_4 (by decide) (fun c_4 => ?_) (fun c_4 => ?_)
  · have c_4 : isW p0 0 23 = true := bI_t hw_3 c_4
    refine lv_aload_n hx hb dX4_aim_13 rfl (lv_at hl 0 rfl) ?_
    refine lv_aload_n hx hb dX4_aim_14 rfl (lv_at hl 0 rfl) ?_
    refine va_get (D := (dC, dI)) (ci := 4) (v := .ref (h 2)) (C := RX4) (T := TX4) (N := 5) hx hb hts hin_X4 hown hK hP 0 rfl rfl 1 (by decide) hw0 (fun _ h9 => h9) rfl dX4_aim_15 ?_
    refine lv_iload_n hx hb dX4_aim_18 rfl (lv_at hl 1 rfl) ?_
    obtain ⟨k0, hk0, rfl⟩ := isW_nat (M := 23) (n := 23) (by decide) c_4
    refine cw_Vi (As := [.int (nI k0)]) (rest := [.ref (h 0)]) (c_X0_keepAims l dC dI cI cZ cJ h F V n hV1 (by omega) d hV2 (by omega) So hSo bSo Hh hHh bHh Wd hWd bWd Lm hLm bLm k0 (by omega)) fx (cwV 1 hts gX4_aim_X0_keepAims rfl rfl rfl (by decide +kernel) ⟨Nat.le_of_ble_eq_true rfl, Nat.le_of_ble_eq_true rfl⟩) hK hP hD hS hA 2 rfl rfl rfl rfl hl.1 rfl (Nat.le_of_ble_eq_true rfl) dX4_aim_19 ⟨Nat.le_of_ble_eq_true rfl, Nat.le_of_ble_eq_true rfl⟩ (fun r_5 u_6 H locs hw_7 hP hD hS => ?_)
    obtain ⟨F_8, rfl⟩ : ∃ z, z = u_6 := ⟨_, rfl⟩
    have hf_9 : ∀ j, j ∉ ([15, 16, 17, 18, 19, 20] : List Nat) → F_8 j = F j := hw_7.2.1
    have hP : va_P (dC, dI) vwCl (wC cI cZ h F_8 (va_up V 3 (nI n))) H := hP
    have hD : va_D A (wC cI cZ h F_8 (va_up V 3 (nI n))) := hD
    have hN_10 : ∀ i, i < 40 → F_8 9 i = nI (So i) := by rw [hf_9 9 (by decide)]; exact hSo
    have hN_11 : ∀ i, i < 24 → F_8 12 i = nI (Hh i) := by rw [hf_9 12 (by decide)]; exact hHh
    have hN_12 : ∀ i, i < 24 → F_8 13 i = nI (Wd i) := by rw [hf_9 13 (by decide)]; exact hWd
    have hN_13 : ∀ i, i < 4 → F_8 14 i = nI (Lm i) := by rw [hf_9 14 (by decide)]; exact hLm
    have hN_14 : ∀ i, i < 24 → F_8 23 i = nI (Pr i) := by rw [hf_9 23 (by decide)]; exact hPr
    obtain rfl : r_5 = nI (ahF F Hh So Wd Lm d n k0 0) := hw_7.1
    refine cw_Vi (As := [.int (nI (ahF F Hh So Wd Lm d n k0 0))]) (rest := []) (c_X4_granted l dC dI cI cZ cJ h F_8 (va_up V 3 (nI n)) (nI (ahF F Hh So Wd Lm d n k0 0))) fx (cwV 1 hts gX4_aim_X4_granted rfl rfl rfl (by decide +kernel) ⟨Nat.le_of_ble_eq_true rfl, Nat.le_of_ble_eq_true rfl⟩) hK hP hD hS hA 0 rfl rfl rfl rfl hl.1 rfl (Nat.le_of_ble_eq_true rfl) dX4_aim_22 ⟨Nat.le_of_ble_eq_true rfl, Nat.le_of_ble_eq_true rfl⟩ (fun r_15 u_16 H locs hw_17 hP hD hS => ?_)
    have hP : va_P (dC, dI) vwCl (wC cI cZ h F_8 (va_up (va_up V 3 (nI n)) 0 0)) H := hP
    have hD : va_D A (wC cI cZ h F_8 (va_up (va_up V 3 (nI n)) 0 0)) := hD
    obtain rfl : r_15 = nI (ahF F Hh So Wd Lm d n k0 0) := hw_17
    exact hret (nI (ahF F Hh So Wd Lm d n k0 0)) (h, F_8, va_up (va_up V 3 (nI n)) 0 0) H locs 25 ls rfl dX4_aim_25 (by
                  obtain ⟨x1_, x2_, x3_⟩ := ah_abs (S := So) (W := Wd) (Lm := Lm) (d := d) (k := 0) hGC hGP hSU hF10 hF11 (bHh k0 (by omega)) (show k0 < 24 by omega)
                  rw [Nat.zero_mul] at x1_ x2_ x3_
                  have hc_ : isW (nI k0) 0 23 = true := by simp [c_4]
                  refine ⟨?_, rfl, ?_⟩
                  · (try simp only [hc_, cond_true, cond_false, nI_clamp (show k0 < 2 ^ 31 by omega)])
                    first | done | exact congrArg nI x1_
                  · (try simp only [hc_, cond_true, cond_false, nI_clamp (show k0 < 2 ^ 31 by omega)])
                    exact ⟨⟨hV1, by omega⟩, ⟨hV2, by omega⟩, ⟨rfl, by omega⟩, ⟨hV4, by omega⟩, ⟨hV5, by omega⟩, ⟨hV6, by omega⟩, ⟨hV9, by omega⟩, ⟨sh, hV11, by omega⟩, ⟨hN_10, bSo⟩, ⟨hN_11, bHh⟩, ⟨hN_12, bWd⟩, ⟨hN_13, bLm⟩, ⟨hN_14, bPr⟩, by omega, hGP, hSU, GC_cong hGC (hf_9 5 (by decide)) (hf_9 6 (by decide)) (hf_9 7 (by decide)) (hf_9 8 (by decide)), (fun i hi => (congrFun (hf_9 10 (by decide)) i).trans (hF10 i hi)), (fun i hi => (congrFun (hf_9 11 (by decide)) i).trans (hF11 i hi)), ⟨fun i hi => (hw_7.2.2.2 i hi).trans (x3_ i hi), fun i hi => (hw_7.2.2.1 i hi).trans (by rw [x2_])⟩, ((show (va_up (va_up V 3 (nI n)) 0 0) 7 = V 7 from rfl)).trans hE, PLC_cong hPL (show (va_up (va_up V 3 (nI n)) 0 0) 8 = V 8 from rfl)⟩) (hP) (hD) hS
  · have c_4 : isW p0 0 23 = false := bI_f hw_3 c_4
    refine lv_aload_n hx hb dX4_aim_7 rfl (lv_at hl 0 rfl) ?_
    refine lv_iconst (v := 2) hx hb dX4_aim_8 (by decide) ?_
    refine cw_Vi (As := [.int 2]) (rest := []) (c_X4_refused l dC dI cI cZ cJ h F V 2) fx (cwV 1 hts gX4_aim_X4_refused rfl rfl rfl (by decide +kernel) ⟨Nat.le_of_ble_eq_true rfl, Nat.le_of_ble_eq_true rfl⟩) hK hP hD hS hA 0 rfl rfl rfl rfl hl.1 rfl (Nat.le_of_ble_eq_true rfl) dX4_aim_9 ⟨Nat.le_of_ble_eq_true rfl, Nat.le_of_ble_eq_true rfl⟩ (fun r_18 u_19 H locs hw_20 hP hD hS => ?_)
    have hP : va_P (dC, dI) vwCl (wC cI cZ h F (va_up V 0 2)) H := hP
    have hD : va_D A (wC cI cZ h F (va_up V 0 2)) := hD
    obtain rfl : r_18 = (-1) := hw_20
    exact hret (-1) (h, F, va_up V 0 2) H locs 12 ls rfl dX4_aim_12 (by
                  have hc_ : isW p0 0 23 = false := by simp [c_4]
                  refine ⟨?_, rfl, ?_⟩
                  · (try simp only [hc_, cond_true, cond_false])
                    first | done | exact rfl
                  · (try simp only [hc_, cond_true, cond_false])
                    exact ⟨⟨hV1, by omega⟩, ⟨hV2, by omega⟩, ⟨hV3, by omega⟩, ⟨hV4, by omega⟩, ⟨hV5, by omega⟩, ⟨hV6, by omega⟩, ⟨hV9, by omega⟩, ⟨sh, hV11, by omega⟩, ⟨hSo, bSo⟩, ⟨hHh, bHh⟩, ⟨hWd, bWd⟩, ⟨hLm, bLm⟩, ⟨hPr, bPr⟩, by omega, hGP, hSU, GC_cong hGC (Eq.refl (F 5)) (Eq.refl (F 6)) (Eq.refl (F 7)) (Eq.refl (F 8)), (fun i hi => (congrFun (Eq.refl (F 10)) i).trans (hF10 i hi)), (fun i hi => (congrFun (Eq.refl (F 11)) i).trans (hF11 i hi)), KC_cong hKC (Eq.refl (F 19)) (Eq.refl (F 20)), ((show (va_up V 0 2) 7 = V 7 from rfl)).trans hE, PLC_cong hPL (show (va_up V 0 2) 8 = V 8 from rfl)⟩) (hP) (hD) hS
def rm_X4_aimed : Room := { frames := 2, cells := 0, slots := 0, locals := 43 }
set_option maxHeartbeats 4000000 in
set_option maxRecDepth 100000 in
theorem c_X4_aimed (l : Launch) (dC : Nat → ClassId) (dI : Nat → Nat → Nat) (cI cZ cJ : ClassId) (h : Nat → Nat) (F : Nat → Nat → Int32) (V : Nat → Int32) (n : Nat) (hV1 : V 1 = nI n) (bV1 : n ≤ 40) (d : Nat) (hV2 : V 2 = nI d) (bV2 : d ≤ 20) (ks : Nat) (hV3 : V 3 = nI ks) (bV3 : ks ≤ 40) (nw : Nat) (hV4 : V 4 = nI nw) (bV4 : nw ≤ 23) (un : Nat) (hV5 : V 5 = nI un) (bV5 : un ≤ 200) (wm : Nat) (hV6 : V 6 = nI wm) (bV6 : wm ≤ 1) (pf : Nat) (hV9 : V 9 = nI pf) (bV9 : pf ≤ 24) (sh : Nat) (hV11 : V 11 = nI sh) (bV11 : sh ≤ 12) (So : Nat → Nat) (hSo : ∀ i, i < 40 → F 9 i = nI (So i)) (bSo : ∀ i, i < 40 → So i ≤ 90) (Hh : Nat → Nat) (hHh : ∀ i, i < 24 → F 12 i = nI (Hh i)) (bHh : ∀ i, i < 24 → Hh i ≤ 9) (Wd : Nat → Nat) (hWd : ∀ i, i < 24 → F 13 i = nI (Wd i)) (bWd : ∀ i, i < 24 → Wd i ≤ 99) (Lm : Nat → Nat) (hLm : ∀ i, i < 4 → F 14 i = nI (Lm i)) (bLm : ∀ i, i < 4 → Lm i ≤ 10000) (Pr : Nat → Nat) (hPr : ∀ i, i < 24 → F 23 i = nI (Pr i)) (bPr : ∀ i, i < 24 → Pr i ≤ 999) (p0 : Int32)  (X Y : Nat → Nat) (SX SY Kc Kp : Nat → Int32) (er : Int32) (rb : Nat → Bool) (hkn : ks ≤ n) (hGP : GP n X Y) (hSU : SUN SX SY) (hGC : GC n X Y F) (hF10 : ∀ i, i < 24 → F 10 i = SX i) (hF11 : ∀ i, i < 24 → F 11 i = SY i) (hKC : KC ks Kc Kp F) (hE : V 7 = er) (hPL : PLC pf rb V) : CtI l (dC, dI) vwCl (tys3 cI cZ cJ) yX4_aimed wsX4_aimed rm_X4_aimed [.ref (h 0), .int p0] (wC cI cZ h F V) (S := (Nat → Nat) × (Nat → Nat → Int32) × (Nat → Int32)) (fun r u => (r = (bif inN p0 ks then Kc p0.toNatClampNeg else (-1))) ∧ u.1 0 = h 0 ∧ VC n d ks nw un wm pf So Hh Wd Lm Pr X Y SX SY Kc Kp er rb u.2.1 u.2.2) (fun u => wC cI cZ u.1 u.2.1 u.2.2) 0 0 := by
  refine ct_I (cc := cX4_aimed) (maxL := 2) (ty := .int) (own := RX4) (by decide) rfl rfl (Nat.le_of_ble_eq_true rfl) (lv := [(0, .ref (h 0)), (1, .int p0)]) rfl ?_
  intro p e s m args below meth c A Q ls fx hK hP hD hA hl hret
  obtain ⟨hx, hb, hml, hown, hts⟩ := id fx
  have hS : va_S A s.heap s.heap [] := va_S.rf
  have hw0 := hts (.fieldLink RX4 21 "MirrorTower" "cells" "LMirrorTower$Face;") (by decide +kernel)
  have hin_X4 : ∀ w ∈ u_ws RX4 TX4 5, w ∈ wsX4_aimed := by decide +kernel
  obtain ⟨H, hH⟩ : ∃ H, H = s.heap := ⟨_, rfl⟩
  rw [← hH] at hP ⊢
  have hS : va_S A s.heap H [] := by rw [hH]; exact hS
  generalize ([] : List Loc) = locs at hS ⊢
  refine lv_aload_n hx hb dX4_aimed_0 rfl (lv_at hl 0 rfl) ?_
  refine lv_iload_n hx hb dX4_aimed_1 rfl (lv_at hl 1 rfl) ?_
  refine cw_Vi (As := [.int p0]) (rest := []) (c_X4_isMirror l dC dI cI cZ cJ h F V n hV1 (by omega) p0) fx (cwV 1 hts gX4_aimed_X4_isMirror rfl rfl rfl (by decide +kernel) ⟨Nat.le_of_ble_eq_true rfl, Nat.le_of_ble_eq_true rfl⟩) hK hP hD hS hA 0 rfl rfl rfl rfl hl.1 rfl (Nat.le_of_ble_eq_true rfl) dX4_aimed_2 ⟨Nat.le_of_ble_eq_true rfl, Nat.le_of_ble_eq_true rfl⟩ (fun r_1 u_2 H locs hw_3 hP hD hS => ?_)
  have hP : va_P (dC, dI) vwCl (wC cI cZ h F V) H := hP
  have hD : va_D A (wC cI cZ h F V) := hD
  have hw_3 : r_1 = bI (isW p0 0 (nI n - 1)) := hw_3
  refine lv_if_eq (tgt := 19) hx hb dX4_aimed_5 (by decide) (fun c_4 => ?_) (fun c_4 => ?_)
  · have c_4 : isW p0 0 (nI n - 1) = false := bI_f hw_3 c_4
    refine lv_iconst (v := (-1)) hx hb dX4_aimed_19 (by decide) ?_
    exact hret (-1) (h, F, V) H locs 20 ls rfl dX4_aimed_20 (by
                  have hz_ := ks_in bV1 hkn ((inN_W bV1).symm.trans c_4)
                  have hc_ : inN p0 ks = false := by simp [hz_, c_4]
                  refine ⟨?_, rfl, ?_⟩
                  · (try simp only [hc_, cond_true, cond_false])
                    first | done | exact rfl
                  · (try simp only [hc_, cond_true, cond_false])
                    exact ⟨⟨hV1, by omega⟩, ⟨hV2, by omega⟩, ⟨hV3, by omega⟩, ⟨hV4, by omega⟩, ⟨hV5, by omega⟩, ⟨hV6, by omega⟩, ⟨hV9, by omega⟩, ⟨sh, hV11, by omega⟩, ⟨hSo, bSo⟩, ⟨hHh, bHh⟩, ⟨hWd, bWd⟩, ⟨hLm, bLm⟩, ⟨hPr, bPr⟩, by omega, hGP, hSU, GC_cong hGC (Eq.refl (F 5)) (Eq.refl (F 6)) (Eq.refl (F 7)) (Eq.refl (F 8)), (fun i hi => (congrFun (Eq.refl (F 10)) i).trans (hF10 i hi)), (fun i hi => (congrFun (Eq.refl (F 11)) i).trans (hF11 i hi)), KC_cong hKC (Eq.refl (F 19)) (Eq.refl (F 20)), ((Eq.refl (V 7))).trans hE, PLC_cong hPL (Eq.refl (V 8))⟩) (hP) (hD) hS
  · have c_4 : isW p0 0 (nI n - 1) = true := bI_t hw_3 c_4
    refine lv_aload_n hx hb dX4_aimed_8 rfl (lv_at hl 0 rfl) ?_
    refine va_get (D := (dC, dI)) (ci := 4) (v := .ref (h 2)) (C := RX4) (T := TX4) (N := 5) hx hb hts hin_X4 hown hK hP 0 rfl rfl 1 (by decide) hw0 (fun _ h9 => h9) rfl dX4_aimed_9 ?_
    refine lv_iload_n hx hb dX4_aimed_12 rfl (lv_at hl 1 rfl) ?_
    obtain ⟨k0, hk0, rfl⟩ := isW_mir bV1 c_4
    refine cw_Vi (As := [.int (nI k0)]) (rest := []) (c_X0_keptCellOf l dC dI cI cZ cJ h F V ks hV3 (by omega) k0 (by omega)) fx (cwV 1 hts gX4_aimed_X0_keptCellOf rfl rfl rfl (by decide +kernel) ⟨Nat.le_of_ble_eq_true rfl, Nat.le_of_ble_eq_true rfl⟩) hK hP hD hS hA 2 rfl rfl rfl rfl hl.1 rfl (Nat.le_of_ble_eq_true rfl) dX4_aimed_13 ⟨Nat.le_of_ble_eq_true rfl, Nat.le_of_ble_eq_true rfl⟩ (fun r_5 u_6 H locs hw_7 hP hD hS => ?_)
    have hP : va_P (dC, dI) vwCl (wC cI cZ h F V) H := hP
    have hD : va_D A (wC cI cZ h F V) := hD
    have hw_7 : r_5 = if k0 < ks then F 19 k0 else (-1) := hw_7
    refine lv_goto (tgt := 20) hx hb dX4_aimed_16 (by decide) ?_
    exact hret r_5 (h, F, V) H locs 20 ls rfl dX4_aimed_20 (by
                  have hq_ := hw_7
                  by_cases hk_ : k0 < ks
                  · have hc_ : inN (nI k0) ks = true := by rw [inN_nI (by omega) (by omega)]; exact decide_eq_true hk_
                    rw [if_pos hk_] at hq_
                    refine ⟨?_, rfl, ?_⟩
                    · simp only [hc_, cond_true, cond_false, nI_clamp (show k0 < 2 ^ 31 by omega)]
                      exact hq_.trans (hKC.1 k0 hk_)
                    · exact ⟨⟨hV1, by omega⟩, ⟨hV2, by omega⟩, ⟨hV3, by omega⟩, ⟨hV4, by omega⟩, ⟨hV5, by omega⟩, ⟨hV6, by omega⟩, ⟨hV9, by omega⟩, ⟨sh, hV11, by omega⟩, ⟨hSo, bSo⟩, ⟨hHh, bHh⟩, ⟨hWd, bWd⟩, ⟨hLm, bLm⟩, ⟨hPr, bPr⟩, by omega, hGP, hSU, GC_cong hGC (Eq.refl (F 5)) (Eq.refl (F 6)) (Eq.refl (F 7)) (Eq.refl (F 8)), (fun i hi => (congrFun (Eq.refl (F 10)) i).trans (hF10 i hi)), (fun i hi => (congrFun (Eq.refl (F 11)) i).trans (hF11 i hi)), KC_cong hKC (Eq.refl (F 19)) (Eq.refl (F 20)), ((Eq.refl (V 7))).trans hE, PLC_cong hPL (Eq.refl (V 8))⟩
                  · have hc_ : inN (nI k0) ks = false := by rw [inN_nI (by omega) (by omega)]; exact decide_eq_false hk_
                    rw [if_neg hk_] at hq_
                    refine ⟨?_, rfl, ?_⟩
                    · simp only [hc_, cond_true, cond_false, nI_clamp (show k0 < 2 ^ 31 by omega)]
                      exact hq_
                    · exact ⟨⟨hV1, by omega⟩, ⟨hV2, by omega⟩, ⟨hV3, by omega⟩, ⟨hV4, by omega⟩, ⟨hV5, by omega⟩, ⟨hV6, by omega⟩, ⟨hV9, by omega⟩, ⟨sh, hV11, by omega⟩, ⟨hSo, bSo⟩, ⟨hHh, bHh⟩, ⟨hWd, bWd⟩, ⟨hLm, bLm⟩, ⟨hPr, bPr⟩, by omega, hGP, hSU, GC_cong hGC (Eq.refl (F 5)) (Eq.refl (F 6)) (Eq.refl (F 7)) (Eq.refl (F 8)), (fun i hi => (congrFun (Eq.refl (F 10)) i).trans (hF10 i hi)), (fun i hi => (congrFun (Eq.refl (F 11)) i).trans (hF11 i hi)), KC_cong hKC (Eq.refl (F 19)) (Eq.refl (F 20)), ((Eq.refl (V 7))).trans hE, PLC_cong hPL (Eq.refl (V 8))⟩) (hP) (hD) hS
def rm_X4_face : Room := { frames := 2, cells := 0, slots := 0, locals := 42 }
set_option maxHeartbeats 4000000 in
set_option maxRecDepth 100000 in
theorem c_X4_face (l : Launch) (dC : Nat → ClassId) (dI : Nat → Nat → Nat) (cI cZ cJ : ClassId) (h : Nat → Nat) (F : Nat → Nat → Int32) (V : Nat → Int32) (n : Nat) (hV1 : V 1 = nI n) (bV1 : n ≤ 40) (d : Nat) (hV2 : V 2 = nI d) (bV2 : d ≤ 20) (ks : Nat) (hV3 : V 3 = nI ks) (bV3 : ks ≤ 40) (nw : Nat) (hV4 : V 4 = nI nw) (bV4 : nw ≤ 23) (un : Nat) (hV5 : V 5 = nI un) (bV5 : un ≤ 200) (wm : Nat) (hV6 : V 6 = nI wm) (bV6 : wm ≤ 1) (pf : Nat) (hV9 : V 9 = nI pf) (bV9 : pf ≤ 24) (sh : Nat) (hV11 : V 11 = nI sh) (bV11 : sh ≤ 12) (So : Nat → Nat) (hSo : ∀ i, i < 40 → F 9 i = nI (So i)) (bSo : ∀ i, i < 40 → So i ≤ 90) (Hh : Nat → Nat) (hHh : ∀ i, i < 24 → F 12 i = nI (Hh i)) (bHh : ∀ i, i < 24 → Hh i ≤ 9) (Wd : Nat → Nat) (hWd : ∀ i, i < 24 → F 13 i = nI (Wd i)) (bWd : ∀ i, i < 24 → Wd i ≤ 99) (Lm : Nat → Nat) (hLm : ∀ i, i < 4 → F 14 i = nI (Lm i)) (bLm : ∀ i, i < 4 → Lm i ≤ 10000) (Pr : Nat → Nat) (hPr : ∀ i, i < 24 → F 23 i = nI (Pr i)) (bPr : ∀ i, i < 24 → Pr i ≤ 999) (p0 : Int32)  (X Y : Nat → Nat) (SX SY Kc Kp : Nat → Int32) (er : Int32) (rb : Nat → Bool) (hkn : ks ≤ n) (hGP : GP n X Y) (hSU : SUN SX SY) (hGC : GC n X Y F) (hF10 : ∀ i, i < 24 → F 10 i = SX i) (hF11 : ∀ i, i < 24 → F 11 i = SY i) (hKC : KC ks Kc Kp F) (hE : V 7 = er) (hPL : PLC pf rb V) : CtI l (dC, dI) vwCl (tys3 cI cZ cJ) yX4_face wsX4_face rm_X4_face [.ref (h 0), .int p0] (wC cI cZ h F V) (S := (Nat → Nat) × (Nat → Nat → Int32) × (Nat → Int32)) (fun r u => (r = (bif isW p0 0 3 then Kp p0.toNatClampNeg else (-1))) ∧ u.1 0 = h 0 ∧ VC n d ks nw un wm pf So Hh Wd Lm Pr X Y SX SY Kc Kp er rb u.2.1 u.2.2) (fun u => wC cI cZ u.1 u.2.1 u.2.2) 0 0 := by
  refine ct_I (cc := cX4_face) (maxL := 2) (ty := .int) (own := RX4) (by decide) rfl rfl (Nat.le_of_ble_eq_true rfl) (lv := [(0, .ref (h 0)), (1, .int p0)]) rfl ?_
  intro p e s m args below meth c A Q ls fx hK hP hD hA hl hret
  obtain ⟨hx, hb, hml, hown, hts⟩ := id fx
  have hS : va_S A s.heap s.heap [] := va_S.rf
  have hw0 := hts (.fieldLink RX4 21 "MirrorTower" "cells" "LMirrorTower$Face;") (by decide +kernel)
  have hin_X4 : ∀ w ∈ u_ws RX4 TX4 5, w ∈ wsX4_face := by decide +kernel
  obtain ⟨H, hH⟩ : ∃ H, H = s.heap := ⟨_, rfl⟩
  rw [← hH] at hP ⊢
  have hS : va_S A s.heap H [] := by rw [hH]; exact hS
  generalize ([] : List Loc) = locs at hS ⊢
  refine lv_iload_n hx hb dX4_face_0 rfl (lv_at hl 1 rfl) ?_
  refine cw_Si (As := [.int p0]) (rest := []) (c_X4_isCell l dC dI cI cZ cJ (wC cI cZ h F V) p0) fx (va_cwS 1 hts gX4_face_X4_isCell rfl rfl rfl (by decide +kernel) ⟨Nat.le_of_ble_eq_true rfl, Nat.le_of_ble_eq_true rfl⟩) hK hP hD hS hA rfl hl.1 rfl (Nat.le_of_ble_eq_true rfl) dX4_face_1 ⟨Nat.le_of_ble_eq_true rfl, Nat.le_of_ble_eq_true rfl⟩ (fun r_1 u_2 H locs hw_3 hP hD hS => ?_)
  have hP : va_P (dC, dI) vwCl (wC cI cZ h F V) H := hP
  have hD : va_D A (wC cI cZ h F V) := hD
  have hw_3 : r_1 = bI (isW p0 0 3) := hw_3
  refine lv_if_eq (tgt := 18) hx hb dX4_face_4 (by decide) (fun c_4 => ?_) (fun c_4 => ?_)
  · have c_4 : isW p0 0 3 = false := bI_f hw_3 c_4
    refine lv_iconst (v := (-1)) hx hb dX4_face_18 (by decide) ?_
    exact hret (-1) (h, F, V) H locs 19 ls rfl dX4_face_19 (by
                  have hc_ : isW p0 0 3 = false := by simp [c_4]
                  refine ⟨?_, rfl, ?_⟩
                  · (try simp only [hc_, cond_true, cond_false])
                    first | done | exact rfl
                  · (try simp only [hc_, cond_true, cond_false])
                    exact ⟨⟨hV1, by omega⟩, ⟨hV2, by omega⟩, ⟨hV3, by omega⟩, ⟨hV4, by omega⟩, ⟨hV5, by omega⟩, ⟨hV6, by omega⟩, ⟨hV9, by omega⟩, ⟨sh, hV11, by omega⟩, ⟨hSo, bSo⟩, ⟨hHh, bHh⟩, ⟨hWd, bWd⟩, ⟨hLm, bLm⟩, ⟨hPr, bPr⟩, by omega, hGP, hSU, GC_cong hGC (Eq.refl (F 5)) (Eq.refl (F 6)) (Eq.refl (F 7)) (Eq.refl (F 8)), (fun i hi => (congrFun (Eq.refl (F 10)) i).trans (hF10 i hi)), (fun i hi => (congrFun (Eq.refl (F 11)) i).trans (hF11 i hi)), KC_cong hKC (Eq.refl (F 19)) (Eq.refl (F 20)), ((Eq.refl (V 7))).trans hE, PLC_cong hPL (Eq.refl (V 8))⟩) (hP) (hD) hS
  · have c_4 : isW p0 0 3 = true := bI_t hw_3 c_4
    refine lv_aload_n hx hb dX4_face_7 rfl (lv_at hl 0 rfl) ?_
    refine va_get (D := (dC, dI)) (ci := 4) (v := .ref (h 2)) (C := RX4) (T := TX4) (N := 5) hx hb hts hin_X4 hown hK hP 0 rfl rfl 1 (by decide) hw0 (fun _ h9 => h9) rfl dX4_face_8 ?_
    refine lv_iload_n hx hb dX4_face_11 rfl (lv_at hl 1 rfl) ?_
    obtain ⟨k0, hk0, rfl⟩ := isW_nat (M := 3) (n := 3) (by decide) c_4
    refine cw_Vi (As := [.int (nI k0)]) (rest := []) (c_X0_keptPowerAt l dC dI cI cZ cJ h F V k0 (by omega)) fx (cwV 1 hts gX4_face_X0_keptPowerAt rfl rfl rfl (by decide +kernel) ⟨Nat.le_of_ble_eq_true rfl, Nat.le_of_ble_eq_true rfl⟩) hK hP hD hS hA 2 rfl rfl rfl rfl hl.1 rfl (Nat.le_of_ble_eq_true rfl) dX4_face_12 ⟨Nat.le_of_ble_eq_true rfl, Nat.le_of_ble_eq_true rfl⟩ (fun r_5 u_6 H locs hw_7 hP hD hS => ?_)
    have hP : va_P (dC, dI) vwCl (wC cI cZ h F V) H := hP
    have hD : va_D A (wC cI cZ h F V) := hD
    have hw_7 : r_5 = F 20 k0 := hw_7
    refine lv_goto (tgt := 19) hx hb dX4_face_15 (by decide) ?_
    exact hret r_5 (h, F, V) H locs 19 ls rfl dX4_face_19 (by
                  have hc_ : isW (nI k0) 0 3 = true := by simp [c_4]
                  refine ⟨?_, rfl, ?_⟩
                  · (try simp only [hc_, cond_true, cond_false, nI_clamp (show k0 < 2 ^ 31 by omega)])
                    first | done | exact (hw_7).trans (hKC.2 k0 (by omega))
                  · (try simp only [hc_, cond_true, cond_false, nI_clamp (show k0 < 2 ^ 31 by omega)])
                    exact ⟨⟨hV1, by omega⟩, ⟨hV2, by omega⟩, ⟨hV3, by omega⟩, ⟨hV4, by omega⟩, ⟨hV5, by omega⟩, ⟨hV6, by omega⟩, ⟨hV9, by omega⟩, ⟨sh, hV11, by omega⟩, ⟨hSo, bSo⟩, ⟨hHh, bHh⟩, ⟨hWd, bWd⟩, ⟨hLm, bLm⟩, ⟨hPr, bPr⟩, by omega, hGP, hSU, GC_cong hGC (Eq.refl (F 5)) (Eq.refl (F 6)) (Eq.refl (F 7)) (Eq.refl (F 8)), (fun i hi => (congrFun (Eq.refl (F 10)) i).trans (hF10 i hi)), (fun i hi => (congrFun (Eq.refl (F 11)) i).trans (hF11 i hi)), KC_cong hKC (Eq.refl (F 19)) (Eq.refl (F 20)), ((Eq.refl (V 7))).trans hE, PLC_cong hPL (Eq.refl (V 8))⟩) (hP) (hD) hS
def rm_X4_best : Room := { frames := 5, cells := 0, slots := 0, locals := 108 }
set_option maxHeartbeats 4000000 in
set_option maxRecDepth 100000 in
theorem c_X4_best (l : Launch) (dC : Nat → ClassId) (dI : Nat → Nat → Nat) (cI cZ cJ : ClassId) (h : Nat → Nat) (F : Nat → Nat → Int32) (V : Nat → Int32) (n : Nat) (hV1 : V 1 = nI n) (bV1 : n ≤ 40) (d : Nat) (hV2 : V 2 = nI d) (bV2 : d ≤ 20) (ks : Nat) (hV3 : V 3 = nI ks) (bV3 : ks ≤ 40) (nw : Nat) (hV4 : V 4 = nI nw) (bV4 : nw ≤ 23) (un : Nat) (hV5 : V 5 = nI un) (bV5 : un ≤ 200) (wm : Nat) (hV6 : V 6 = nI wm) (bV6 : wm ≤ 1) (pf : Nat) (hV9 : V 9 = nI pf) (bV9 : pf ≤ 24) (sh : Nat) (hV11 : V 11 = nI sh) (bV11 : sh ≤ 12) (So : Nat → Nat) (hSo : ∀ i, i < 40 → F 9 i = nI (So i)) (bSo : ∀ i, i < 40 → So i ≤ 90) (Hh : Nat → Nat) (hHh : ∀ i, i < 24 → F 12 i = nI (Hh i)) (bHh : ∀ i, i < 24 → Hh i ≤ 9) (Wd : Nat → Nat) (hWd : ∀ i, i < 24 → F 13 i = nI (Wd i)) (bWd : ∀ i, i < 24 → Wd i ≤ 99) (Lm : Nat → Nat) (hLm : ∀ i, i < 4 → F 14 i = nI (Lm i)) (bLm : ∀ i, i < 4 → Lm i ≤ 10000) (Pr : Nat → Nat) (hPr : ∀ i, i < 24 → F 23 i = nI (Pr i)) (bPr : ∀ i, i < 24 → Pr i ≤ 999) (p0 : Int32)  (X Y : Nat → Nat) (SX SY Kc Kp : Nat → Int32) (er : Int32) (rb : Nat → Bool) (hkn : ks ≤ n) (hGP : GP n X Y) (hSU : SUN SX SY) (hGC : GC n X Y F) (hF10 : ∀ i, i < 24 → F 10 i = SX i) (hF11 : ∀ i, i < 24 → F 11 i = SY i) (hKC : KC ks Kc Kp F) (hE : V 7 = er) (hPL : PLC pf rb V) : CtI l (dC, dI) vwCl (tys3 cI cZ cJ) yX4_best wsX4_best rm_X4_best [.ref (h 0), .int p0] (wC cI cZ h F V) (S := (Nat → Nat) × (Nat → Nat → Int32) × (Nat → Int32)) (fun r u => (True) ∧ u.1 0 = h 0 ∧ VC n d ks nw un wm pf So Hh Wd Lm Pr X Y SX SY Kc Kp er rb u.2.1 u.2.2) (fun u => wC cI cZ u.1 u.2.1 u.2.2) 0 0 := by
  refine ct_I (cc := cX4_best) (maxL := 2) (ty := .int) (own := RX4) (by decide) rfl rfl (Nat.le_of_ble_eq_true rfl) (lv := [(0, .ref (h 0)), (1, .int p0)]) rfl ?_
  intro p e s m args below meth c A Q ls fx hK hP hD hA hl hret
  obtain ⟨hx, hb, hml, hown, hts⟩ := id fx
  have hS : va_S A s.heap s.heap [] := va_S.rf
  have hw0 := hts (.fieldLink RX4 21 "MirrorTower" "cells" "LMirrorTower$Face;") (by decide +kernel)
  have hin_X4 : ∀ w ∈ u_ws RX4 TX4 5, w ∈ wsX4_best := by decide +kernel
  obtain ⟨H, hH⟩ : ∃ H, H = s.heap := ⟨_, rfl⟩
  rw [← hH] at hP ⊢
  have hS : va_S A s.heap H [] := by rw [hH]; exact hS
  generalize ([] : List Loc) = locs at hS ⊢
  refine lv_iload_n hx hb dX4_best_0 rfl (lv_at hl 1 rfl) ?_
  refine cw_Si (As := [.int p0]) (rest := []) (c_X4_isHour l dC dI cI cZ cJ (wC cI cZ h F V) p0) fx (va_cwS 1 hts gX4_best_X4_isHour rfl rfl rfl (by decide +kernel) ⟨Nat.le_of_ble_eq_true rfl, Nat.le_of_ble_eq_true rfl⟩) hK hP hD hS hA rfl hl.1 rfl (Nat.le_of_ble_eq_true rfl) dX4_best_1 ⟨Nat.le_of_ble_eq_true rfl, Nat.le_of_ble_eq_true rfl⟩ (fun r_1 u_2 H locs hw_3 hP hD hS => ?_)
  have hP : va_P (dC, dI) vwCl (wC cI cZ h F V) H := hP
  have hD : va_D A (wC cI cZ h F V) := hD
  have hw_3 : r_1 = bI (isW p0 0 23) := hw_3
  refine lv_if_ne (tgt := 13) hx hb dX4_best_4 (by decide) (fun c_4 => ?_) (fun c_4 => ?_)
  · have c_4 : isW p0 0 23 = true := bI_t hw_3 c_4
    refine lv_aload_n hx hb dX4_best_13 rfl (lv_at hl 0 rfl) ?_
    refine lv_aload_n hx hb dX4_best_14 rfl (lv_at hl 0 rfl) ?_
    refine va_get (D := (dC, dI)) (ci := 4) (v := .ref (h 2)) (C := RX4) (T := TX4) (N := 5) hx hb hts hin_X4 hown hK hP 0 rfl rfl 1 (by decide) hw0 (fun _ h9 => h9) rfl dX4_best_15 ?_
    refine lv_iload_n hx hb dX4_best_18 rfl (lv_at hl 1 rfl) ?_
    obtain ⟨k0, hk0, rfl⟩ := isW_nat (M := 23) (n := 23) (by decide) c_4
    refine cw_Vi (As := [.int (nI k0)]) (rest := [.ref (h 0)]) (c_X0_bestHeat l dC dI cI cZ cJ h F V n hV1 (by omega) d hV2 (by omega) So hSo bSo Hh hHh bHh Wd hWd bWd k0 (by omega)) fx (cwV 1 hts gX4_best_X0_bestHeat rfl rfl rfl (by decide +kernel) ⟨Nat.le_of_ble_eq_true rfl, Nat.le_of_ble_eq_true rfl⟩) hK hP hD hS hA 2 rfl rfl rfl rfl hl.1 rfl (Nat.le_of_ble_eq_true rfl) dX4_best_19 ⟨Nat.le_of_ble_eq_true rfl, Nat.le_of_ble_eq_true rfl⟩ (fun r_5 u_6 H locs hw_7 hP hD hS => ?_)
    obtain ⟨F_8, rfl⟩ : ∃ z, z = u_6 := ⟨_, rfl⟩
    have hf_9 : ∀ j, j ∉ ([15, 16, 21, 22] : List Nat) → F_8 j = F j := hw_7.2.1
    have hP : va_P (dC, dI) vwCl (wC cI cZ h F_8 V) H := hP
    have hD : va_D A (wC cI cZ h F_8 V) := hD
    have hN_10 : ∀ i, i < 40 → F_8 9 i = nI (So i) := by rw [hf_9 9 (by decide)]; exact hSo
    have hN_11 : ∀ i, i < 24 → F_8 12 i = nI (Hh i) := by rw [hf_9 12 (by decide)]; exact hHh
    have hN_12 : ∀ i, i < 24 → F_8 13 i = nI (Wd i) := by rw [hf_9 13 (by decide)]; exact hWd
    have hN_13 : ∀ i, i < 4 → F_8 14 i = nI (Lm i) := by rw [hf_9 14 (by decide)]; exact hLm
    have hN_14 : ∀ i, i < 24 → F_8 23 i = nI (Pr i) := by rw [hf_9 23 (by decide)]; exact hPr
    refine cw_Vi (As := [.int r_5]) (rest := []) (c_X4_granted l dC dI cI cZ cJ h F_8 V r_5) fx (cwV 1 hts gX4_best_X4_granted rfl rfl rfl (by decide +kernel) ⟨Nat.le_of_ble_eq_true rfl, Nat.le_of_ble_eq_true rfl⟩) hK hP hD hS hA 0 rfl rfl rfl rfl hl.1 rfl (Nat.le_of_ble_eq_true rfl) dX4_best_22 ⟨Nat.le_of_ble_eq_true rfl, Nat.le_of_ble_eq_true rfl⟩ (fun r_15 u_16 H locs hw_17 hP hD hS => ?_)
    have hP : va_P (dC, dI) vwCl (wC cI cZ h F_8 (va_up V 0 0)) H := hP
    have hD : va_D A (wC cI cZ h F_8 (va_up V 0 0)) := hD
    exact hret r_15 (h, F_8, va_up V 0 0) H locs 25 ls rfl dX4_best_25 (by
                  refine ⟨?_, rfl, ?_⟩
                  · (try dsimp only)
                    first | done | exact trivial
                  · (try dsimp only)
                    exact ⟨⟨hV1, by omega⟩, ⟨hV2, by omega⟩, ⟨hV3, by omega⟩, ⟨hV4, by omega⟩, ⟨hV5, by omega⟩, ⟨hV6, by omega⟩, ⟨hV9, by omega⟩, ⟨sh, hV11, by omega⟩, ⟨hN_10, bSo⟩, ⟨hN_11, bHh⟩, ⟨hN_12, bWd⟩, ⟨hN_13, bLm⟩, ⟨hN_14, bPr⟩, by omega, hGP, hSU, GC_cong hGC (hf_9 5 (by decide)) (hf_9 6 (by decide)) (hf_9 7 (by decide)) (hf_9 8 (by decide)), (fun i hi => (congrFun (hf_9 10 (by decide)) i).trans (hF10 i hi)), (fun i hi => (congrFun (hf_9 11 (by decide)) i).trans (hF11 i hi)), KC_cong hKC (hf_9 19 (by decide)) (hf_9 20 (by decide)), ((show (va_up V 0 0) 7 = V 7 from rfl)).trans hE, PLC_cong hPL (show (va_up V 0 0) 8 = V 8 from rfl)⟩) (hP) (hD) hS
  · have c_4 : isW p0 0 23 = false := bI_f hw_3 c_4
    refine lv_aload_n hx hb dX4_best_7 rfl (lv_at hl 0 rfl) ?_
    refine lv_iconst (v := 2) hx hb dX4_best_8 (by decide) ?_
    refine cw_Vi (As := [.int 2]) (rest := []) (c_X4_refused l dC dI cI cZ cJ h F V 2) fx (cwV 1 hts gX4_best_X4_refused rfl rfl rfl (by decide +kernel) ⟨Nat.le_of_ble_eq_true rfl, Nat.le_of_ble_eq_true rfl⟩) hK hP hD hS hA 0 rfl rfl rfl rfl hl.1 rfl (Nat.le_of_ble_eq_true rfl) dX4_best_9 ⟨Nat.le_of_ble_eq_true rfl, Nat.le_of_ble_eq_true rfl⟩ (fun r_18 u_19 H locs hw_20 hP hD hS => ?_)
    have hP : va_P (dC, dI) vwCl (wC cI cZ h F (va_up V 0 2)) H := hP
    have hD : va_D A (wC cI cZ h F (va_up V 0 2)) := hD
    obtain rfl : r_18 = (-1) := hw_20
    exact hret (-1) (h, F, va_up V 0 2) H locs 12 ls rfl dX4_best_12 (by
                  refine ⟨?_, rfl, ?_⟩
                  · (try dsimp only)
                    first | done | exact trivial
                  · (try dsimp only)
                    exact ⟨⟨hV1, by omega⟩, ⟨hV2, by omega⟩, ⟨hV3, by omega⟩, ⟨hV4, by omega⟩, ⟨hV5, by omega⟩, ⟨hV6, by omega⟩, ⟨hV9, by omega⟩, ⟨sh, hV11, by omega⟩, ⟨hSo, bSo⟩, ⟨hHh, bHh⟩, ⟨hWd, bWd⟩, ⟨hLm, bLm⟩, ⟨hPr, bPr⟩, by omega, hGP, hSU, GC_cong hGC (Eq.refl (F 5)) (Eq.refl (F 6)) (Eq.refl (F 7)) (Eq.refl (F 8)), (fun i hi => (congrFun (Eq.refl (F 10)) i).trans (hF10 i hi)), (fun i hi => (congrFun (Eq.refl (F 11)) i).trans (hF11 i hi)), KC_cong hKC (Eq.refl (F 19)) (Eq.refl (F 20)), ((show (va_up V 0 2) 7 = V 7 from rfl)).trans hE, PLC_cong hPL (show (va_up V 0 2) 8 = V 8 from rfl)⟩) (hP) (hD) hS
