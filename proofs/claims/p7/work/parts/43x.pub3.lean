def rm_X4_comes : Room := { frames := 5, cells := 0, slots := 0, locals := 109 }
set_option maxHeartbeats 4000000 in
set_option maxRecDepth 100000 in
theorem c_X4_comes (l : Launch) (dC : Nat → ClassId) (dI : Nat → Nat → Nat) (cI cZ cJ : ClassId) (h : Nat → Nat) (F : Nat → Nat → Int32) (V : Nat → Int32) (n : Nat) (hV1 : V 1 = nI n) (bV1 : n ≤ 40) (d : Nat) (hV2 : V 2 = nI d) (bV2 : d ≤ 20) (ks : Nat) (hV3 : V 3 = nI ks) (bV3 : ks ≤ 40) (nw : Nat) (hV4 : V 4 = nI nw) (bV4 : nw ≤ 23) (un : Nat) (hV5 : V 5 = nI un) (bV5 : un ≤ 200) (wm : Nat) (hV6 : V 6 = nI wm) (bV6 : wm ≤ 1) (pf : Nat) (hV9 : V 9 = nI pf) (bV9 : pf ≤ 24) (sh : Nat) (hV11 : V 11 = nI sh) (bV11 : sh ≤ 12) (So : Nat → Nat) (hSo : ∀ i, i < 40 → F 9 i = nI (So i)) (bSo : ∀ i, i < 40 → So i ≤ 90) (Hh : Nat → Nat) (hHh : ∀ i, i < 24 → F 12 i = nI (Hh i)) (bHh : ∀ i, i < 24 → Hh i ≤ 9) (Wd : Nat → Nat) (hWd : ∀ i, i < 24 → F 13 i = nI (Wd i)) (bWd : ∀ i, i < 24 → Wd i ≤ 99) (Lm : Nat → Nat) (hLm : ∀ i, i < 4 → F 14 i = nI (Lm i)) (bLm : ∀ i, i < 4 → Lm i ≤ 10000) (Pr : Nat → Nat) (hPr : ∀ i, i < 24 → F 23 i = nI (Pr i)) (bPr : ∀ i, i < 24 → Pr i ≤ 999) (p0 : Int32)  (X Y : Nat → Nat) (SX SY Kc Kp : Nat → Int32) (er : Int32) (rb : Nat → Bool) (hkn : ks ≤ n) (hGP : GP n X Y) (hSU : SUN SX SY) (hGC : GC n X Y F) (hF10 : ∀ i, i < 24 → F 10 i = SX i) (hF11 : ∀ i, i < 24 → F 11 i = SY i) (hKC : KC ks Kc Kp F) (hE : V 7 = er) (hPL : PLC pf rb V) : CtI l (dC, dI) vwCl (tys3 cI cZ cJ) yX4_comes wsX4_comes rm_X4_comes [.ref (h 0), .int p0] (wC cI cZ h F V) (S := (Nat → Nat) × (Nat → Nat → Int32) × (Nat → Int32)) (fun r u => (r = (bif isW p0 (nI nw) 23 then nI (htA (pwA X Y n SX SY Hh So Wd p0.toNatClampNeg ((p0.toNatClampNeg - nw) * d)) Lm n) else (-1))) ∧ u.1 0 = h 0 ∧ VC n d ks nw un wm pf So Hh Wd Lm Pr X Y SX SY Kc Kp er rb u.2.1 u.2.2) (fun u => wC cI cZ u.1 u.2.1 u.2.2) 0 0 := by
  refine ct_I (cc := cX4_comes) (maxL := 3) (ty := .int) (own := RX4) (by decide) rfl rfl (Nat.le_of_ble_eq_true rfl) (lv := [(0, .ref (h 0)), (1, .int p0)]) rfl ?_
  intro p e s m args below meth c A Q ls fx hK hP hD hA hl hret
  obtain ⟨hx, hb, hml, hown, hts⟩ := id fx
  have hS : va_S A s.heap s.heap [] := va_S.rf
  have hw0 := hts (.fieldLink RX4 30 "MirrorTower" "store" "LMirrorTower$Store;") (by decide +kernel)
  have hin_X4 : ∀ w ∈ u_ws RX4 TX4 5, w ∈ wsX4_comes := by decide +kernel
  have hw2 := hts (.fieldLink RX4 21 "MirrorTower" "cells" "LMirrorTower$Face;") (by decide +kernel)
  obtain ⟨H, hH⟩ : ∃ H, H = s.heap := ⟨_, rfl⟩
  rw [← hH] at hP ⊢
  have hS : va_S A s.heap H [] := by rw [hH]; exact hS
  generalize ([] : List Loc) = locs at hS ⊢
  refine lv_aload_n hx hb dX4_comes_0 rfl (lv_at hl 0 rfl) ?_
  refine va_get (D := (dC, dI)) (ci := 4) (v := .ref (h 3)) (C := RX4) (T := TX4) (N := 5) hx hb hts hin_X4 hown hK hP 0 rfl rfl 2 (by decide) hw0 (fun _ h9 => h9) rfl dX4_comes_1 ?_
  refine cw_Vi (As := []) (rest := []) (c_X3_hourNow l dC dI cI cZ cJ h F V) fx (cwV 0 hts gX4_comes_X3_hourNow rfl rfl rfl (by decide +kernel) ⟨Nat.le_of_ble_eq_true rfl, Nat.le_of_ble_eq_true rfl⟩) hK hP hD hS hA 3 rfl rfl rfl rfl hl.1 rfl (Nat.le_of_ble_eq_true rfl) dX4_comes_4 ⟨Nat.le_of_ble_eq_true rfl, Nat.le_of_ble_eq_true rfl⟩ (fun r_1 u_2 H locs hw_3 hP hD hS => ?_)
  have hP : va_P (dC, dI) vwCl (wC cI cZ h F V) H := hP
  have hD : va_D A (wC cI cZ h F V) := hD
  obtain rfl : r_1 = nI nw := Eq.trans hw_3 hV4
  refine lv_istore_n (lv' := [(2, .int (nI nw)), (0, .ref (h 0)), (1, .int p0)]) hx hb dX4_comes_7 rfl hl (by decide) rfl (fun ls hl => ?_)
  refine lv_iload_n hx hb dX4_comes_8 rfl (lv_at hl 2 rfl) ?_
  refine lv_iload_n hx hb dX4_comes_9 rfl (lv_at hl 0 rfl) ?_
  refine lv_bipush (v := 23) hx hb dX4_comes_10 (by decide) ?_
  refine cw_Si (As := [.int p0, .int (nI nw), .int 23]) (rest := []) (c_X4_isWithin l dC dI cI cZ cJ (wC cI cZ h F V) p0 (nI nw) 23) fx (va_cwS 3 hts gX4_comes_X4_isWithin rfl rfl rfl (by decide +kernel) ⟨Nat.le_of_ble_eq_true rfl, Nat.le_of_ble_eq_true rfl⟩) hK hP hD hS hA rfl hl.1 rfl (Nat.le_of_ble_eq_true rfl) dX4_comes_12 ⟨Nat.le_of_ble_eq_true rfl, Nat.le_of_ble_eq_true rfl⟩ (fun r_4 u_5 H locs hw_6 hP hD hS => ?_)
  have hP : va_P (dC, dI) vwCl (wC cI cZ h F V) H := hP
  have hD : va_D A (wC cI cZ h F V) := hD
  have hw_6 : r_4 = bI (isW p0 (nI nw) 23) := hw_6
  refine lv_if_ne (tgt := 20) hx hb dX4_comes_15 (by decide) (fun c_7 => ?_) (fun c_7 => ?_)
  · have c_7 : isW p0 (nI nw) 23 = true := bI_t hw_6 c_7
    refine lv_aload_n hx hb dX4_comes_20 rfl (lv_at hl 1 rfl) ?_
    refine va_get (D := (dC, dI)) (ci := 4) (v := .ref (h 2)) (C := RX4) (T := TX4) (N := 5) hx hb hts hin_X4 hown hK hP 0 rfl rfl 1 (by decide) hw2 (fun _ h9 => h9) rfl dX4_comes_21 ?_
    refine lv_iload_n hx hb dX4_comes_24 rfl (lv_at hl 2 rfl) ?_
    refine lv_iload_n hx hb dX4_comes_25 rfl (lv_at hl 2 rfl) ?_
    refine lv_iload_n hx hb dX4_comes_26 rfl (lv_at hl 0 rfl) ?_
    obtain ⟨k0, hk0, rfl⟩ := isW_now bV4 c_7
    refine lv_isub hx hb dX4_comes_27 ?_
    refine lv_topi (fun x_8 ex_8 => ?_)
    obtain rfl : x_8 = nI (k0 - nw) := ex_8.trans (pk_sub (a := k0) (b := nw) (by omega))
    refine cw_Vi (As := [.int (nI k0), .int (nI (k0 - nw))]) (rest := []) (c_X0_aimAll l dC dI cI cZ cJ h F V n hV1 (by omega) d hV2 (by omega) So hSo bSo Hh hHh bHh Wd hWd bWd Lm hLm bLm k0 (k0 - nw) (by omega) (by omega)) fx (cwV 2 hts gX4_comes_X0_aimAll rfl rfl rfl (by decide +kernel) ⟨Nat.le_of_ble_eq_true rfl, Nat.le_of_ble_eq_true rfl⟩) hK hP hD hS hA 2 rfl rfl rfl rfl hl.1 rfl (Nat.le_of_ble_eq_true rfl) dX4_comes_28 ⟨Nat.le_of_ble_eq_true rfl, Nat.le_of_ble_eq_true rfl⟩ (fun r_9 u_10 H locs hw_11 hP hD hS => ?_)
    obtain ⟨F_12, rfl⟩ : ∃ z, z = u_10 := ⟨_, rfl⟩
    have hf_13 : ∀ j, j ∉ ([15, 16, 17, 18] : List Nat) → F_12 j = F j := hw_11.2.1
    have hP : va_P (dC, dI) vwCl (wC cI cZ h F_12 V) H := hP
    have hD : va_D A (wC cI cZ h F_12 V) := hD
    have hN_14 : ∀ i, i < 40 → F_12 9 i = nI (So i) := by rw [hf_13 9 (by decide)]; exact hSo
    have hN_15 : ∀ i, i < 24 → F_12 12 i = nI (Hh i) := by rw [hf_13 12 (by decide)]; exact hHh
    have hN_16 : ∀ i, i < 24 → F_12 13 i = nI (Wd i) := by rw [hf_13 13 (by decide)]; exact hWd
    have hN_17 : ∀ i, i < 4 → F_12 14 i = nI (Lm i) := by rw [hf_13 14 (by decide)]; exact hLm
    have hN_18 : ∀ i, i < 24 → F_12 23 i = nI (Pr i) := by rw [hf_13 23 (by decide)]; exact hPr
    have hN_19 : ∀ i, i < 4 → F_12 18 i = nI ((alF F Hh So Wd Lm d n k0 (k0 - nw)) i) := hw_11.2.2.1
    have bN_20 : ∀ i, i < 4 → (alF F Hh So Wd Lm d n k0 (k0 - nw)) i ≤ 10000 := hw_11.2.2.2.1
    have hb_21 : ahF F Hh So Wd Lm d n k0 (k0 - nw) ≤ 4000 := ahF_le (by omega) (bHh k0 (by omega))
    obtain rfl : r_9 = nI (ahF F Hh So Wd Lm d n k0 (k0 - nw)) := hw_11.1
    exact hret (nI (ahF F Hh So Wd Lm d n k0 (k0 - nw))) (h, F_12, V) H locs 31 ls rfl dX4_comes_31 (by
                  have hc_ : isW (nI k0) (nI nw) 23 = true := by simp [c_7]
                  refine ⟨?_, rfl, ?_⟩
                  · (try simp only [hc_, cond_true, cond_false, nI_clamp (show k0 < 2 ^ 31 by omega)])
                    first | done | exact congrArg nI (ah_abs hGC hGP hSU hF10 hF11 (bHh k0 (by omega)) (by omega)).1
                  · (try simp only [hc_, cond_true, cond_false, nI_clamp (show k0 < 2 ^ 31 by omega)])
                    exact ⟨⟨hV1, by omega⟩, ⟨hV2, by omega⟩, ⟨hV3, by omega⟩, ⟨hV4, by omega⟩, ⟨hV5, by omega⟩, ⟨hV6, by omega⟩, ⟨hV9, by omega⟩, ⟨sh, hV11, by omega⟩, ⟨hN_14, bSo⟩, ⟨hN_15, bHh⟩, ⟨hN_16, bWd⟩, ⟨hN_17, bLm⟩, ⟨hN_18, bPr⟩, by omega, hGP, hSU, GC_cong hGC (hf_13 5 (by decide)) (hf_13 6 (by decide)) (hf_13 7 (by decide)) (hf_13 8 (by decide)), (fun i hi => (congrFun (hf_13 10 (by decide)) i).trans (hF10 i hi)), (fun i hi => (congrFun (hf_13 11 (by decide)) i).trans (hF11 i hi)), KC_cong hKC (hf_13 19 (by decide)) (hf_13 20 (by decide)), ((Eq.refl (V 7))).trans hE, PLC_cong hPL (Eq.refl (V 8))⟩) (hP) (hD) hS
  · have c_7 : isW p0 (nI nw) 23 = false := bI_f hw_6 c_7
    refine lv_iconst (v := (-1)) hx hb dX4_comes_18 (by decide) ?_
    exact hret (-1) (h, F, V) H locs 19 ls rfl dX4_comes_19 (by
                  have hc_ : isW p0 (nI nw) 23 = false := by simp [c_7]
                  refine ⟨?_, rfl, ?_⟩
                  · (try simp only [hc_, cond_true, cond_false])
                    first | done | exact rfl
                  · (try simp only [hc_, cond_true, cond_false])
                    exact ⟨⟨hV1, by omega⟩, ⟨hV2, by omega⟩, ⟨hV3, by omega⟩, ⟨hV4, by omega⟩, ⟨hV5, by omega⟩, ⟨hV6, by omega⟩, ⟨hV9, by omega⟩, ⟨sh, hV11, by omega⟩, ⟨hSo, bSo⟩, ⟨hHh, bHh⟩, ⟨hWd, bWd⟩, ⟨hLm, bLm⟩, ⟨hPr, bPr⟩, by omega, hGP, hSU, GC_cong hGC (Eq.refl (F 5)) (Eq.refl (F 6)) (Eq.refl (F 7)) (Eq.refl (F 8)), (fun i hi => (congrFun (Eq.refl (F 10)) i).trans (hF10 i hi)), (fun i hi => (congrFun (Eq.refl (F 11)) i).trans (hF11 i hi)), KC_cong hKC (Eq.refl (F 19)) (Eq.refl (F 20)), ((Eq.refl (V 7))).trans hE, PLC_cong hPL (Eq.refl (V 8))⟩) (hP) (hD) hS
def rm_X4_plan : Room := { frames := 7, cells := 0, slots := 0, locals := 153 }
set_option maxHeartbeats 4000000 in
set_option maxRecDepth 100000 in
theorem c_X4_plan (l : Launch) (dC : Nat → ClassId) (dI : Nat → Nat → Nat) (cI cZ cJ : ClassId) (h : Nat → Nat) (F : Nat → Nat → Int32) (V : Nat → Int32) (n : Nat) (hV1 : V 1 = nI n) (bV1 : n ≤ 40) (d : Nat) (hV2 : V 2 = nI d) (bV2 : d ≤ 20) (ks : Nat) (hV3 : V 3 = nI ks) (bV3 : ks ≤ 40) (nw : Nat) (hV4 : V 4 = nI nw) (bV4 : nw ≤ 23) (un : Nat) (hV5 : V 5 = nI un) (bV5 : un ≤ 200) (wm : Nat) (hV6 : V 6 = nI wm) (bV6 : wm ≤ 1) (pf : Nat) (hV9 : V 9 = nI pf) (bV9 : pf ≤ 24) (sh : Nat) (hV11 : V 11 = nI sh) (bV11 : sh ≤ 12) (So : Nat → Nat) (hSo : ∀ i, i < 40 → F 9 i = nI (So i)) (bSo : ∀ i, i < 40 → So i ≤ 90) (Hh : Nat → Nat) (hHh : ∀ i, i < 24 → F 12 i = nI (Hh i)) (bHh : ∀ i, i < 24 → Hh i ≤ 9) (Wd : Nat → Nat) (hWd : ∀ i, i < 24 → F 13 i = nI (Wd i)) (bWd : ∀ i, i < 24 → Wd i ≤ 99) (Lm : Nat → Nat) (hLm : ∀ i, i < 4 → F 14 i = nI (Lm i)) (bLm : ∀ i, i < 4 → Lm i ≤ 10000) (Pr : Nat → Nat) (hPr : ∀ i, i < 24 → F 23 i = nI (Pr i)) (bPr : ∀ i, i < 24 → Pr i ≤ 999)   (X Y : Nat → Nat) (SX SY Kc Kp : Nat → Int32) (er : Int32) (rb : Nat → Bool) (hkn : ks ≤ n) (hGP : GP n X Y) (hSU : SUN SX SY) (hGC : GC n X Y F) (hF10 : ∀ i, i < 24 → F 10 i = SX i) (hF11 : ∀ i, i < 24 → F 11 i = SY i) (hKC : KC ks Kc Kp F) (hE : V 7 = er) (hPL : PLC pf rb V) : CtI l (dC, dI) vwCl (tys3 cI cZ cJ) yX4_plan wsX4_plan rm_X4_plan [.ref (h 0)] (wC cI cZ h F V) (S := (Nat → Nat) × (Nat → Nat → Int32) × (Nat → Int32)) (fun r u => (r = rowf Pr (cmA X Y n SX SY Hh So Wd Lm d nw) (24 - nw) (2 * un + wm)) ∧ u.1 0 = h 0 ∧ VC n d ks nw un wm (nw) So Hh Wd Lm Pr X Y SX SY Kc Kp er (plR Pr (cmA X Y n SX SY Hh So Wd Lm d nw) nw un wm) u.2.1 u.2.2) (fun u => wC cI cZ u.1 u.2.1 u.2.2) 0 0 := by
  refine ct_I (cc := cX4_plan) (maxL := 1) (ty := .int) (own := RX4) (by decide) rfl rfl (Nat.le_of_ble_eq_true rfl) (lv := [(0, .ref (h 0))]) rfl ?_
  intro p e s m args below meth c A Q ls fx hK hP hD hA hl hret
  obtain ⟨hx, hb, hml, hown, hts⟩ := id fx
  have hS : va_S A s.heap s.heap [] := va_S.rf
  have hw0 := hts (.fieldLink RX4 30 "MirrorTower" "store" "LMirrorTower$Store;") (by decide +kernel)
  have hin_X4 : ∀ w ∈ u_ws RX4 TX4 5, w ∈ wsX4_plan := by decide +kernel
  obtain ⟨H, hH⟩ : ∃ H, H = s.heap := ⟨_, rfl⟩
  rw [← hH] at hP ⊢
  have hS : va_S A s.heap H [] := by rw [hH]; exact hS
  generalize ([] : List Loc) = locs at hS ⊢
  refine lv_aload_n hx hb dX4_plan_0 rfl (lv_at hl 0 rfl) ?_
  refine va_get (D := (dC, dI)) (ci := 4) (v := .ref (h 3)) (C := RX4) (T := TX4) (N := 5) hx hb hts hin_X4 hown hK hP 0 rfl rfl 2 (by decide) hw0 (fun _ h9 => h9) rfl dX4_plan_1 ?_
  refine cw_Vi (As := []) (rest := []) (c_X3_layPlan l dC dI cI cZ cJ h F V n hV1 (by omega) d hV2 (by omega) nw hV4 (by omega) un hV5 (by omega) wm hV6 (by omega) So hSo bSo Hh hHh bHh Wd hWd bWd Lm hLm bLm Pr hPr bPr) fx (cwV 0 hts gX4_plan_X3_layPlan rfl rfl rfl (by decide +kernel) ⟨Nat.le_of_ble_eq_true rfl, Nat.le_of_ble_eq_true rfl⟩) hK hP hD hS hA 3 rfl rfl rfl rfl hl.1 rfl (Nat.le_of_ble_eq_true rfl) dX4_plan_4 ⟨Nat.le_of_ble_eq_true rfl, Nat.le_of_ble_eq_true rfl⟩ (fun r_1 u_2 H locs hw_3 hP hD hS => ?_)
  obtain ⟨h_4, F_5, V_6⟩ := u_2
  have hq_7 : ∀ j, j ≠ 24 → j ≠ 25 → h_4 j = h j := hw_3.2.1
  have hq_8 : ∀ j, j ∉ ([15, 16, 17, 18, 24, 25, 26, 27, 28] : List Nat) → F_5 j = F j := hw_3.2.2.1
  have hq_9 : ∀ j, j ≠ 8 → j ≠ 9 → V_6 j = V j := hw_3.2.2.2.1
  have hq_10 : V_6 9 = nI nw := hw_3.2.2.2.2.1
  have hP : va_P (dC, dI) vwCl (wC cI cZ h_4 F_5 V_6) H := hP
  have hD : va_D A (wC cI cZ h_4 F_5 V_6) := hD
  have hN_11 : ∀ i, i < 40 → F_5 9 i = nI (So i) := by rw [hq_8 9 (by decide)]; exact hSo
  have hN_12 : ∀ i, i < 24 → F_5 12 i = nI (Hh i) := by rw [hq_8 12 (by decide)]; exact hHh
  have hN_13 : ∀ i, i < 24 → F_5 13 i = nI (Wd i) := by rw [hq_8 13 (by decide)]; exact hWd
  have hN_14 : ∀ i, i < 4 → F_5 14 i = nI (Lm i) := by rw [hq_8 14 (by decide)]; exact hLm
  have hN_15 : ∀ i, i < 24 → F_5 23 i = nI (Pr i) := by rw [hq_8 23 (by decide)]; exact hPr
  have hV_16 : V_6 1 = nI n := by rw [hq_9 1 (by decide) (by decide)]; exact hV1
  have hV_17 : V_6 2 = nI d := by rw [hq_9 2 (by decide) (by decide)]; exact hV2
  have hV_18 : V_6 3 = nI ks := by rw [hq_9 3 (by decide) (by decide)]; exact hV3
  have hV_19 : V_6 4 = nI nw := by rw [hq_9 4 (by decide) (by decide)]; exact hV4
  have hV_20 : V_6 5 = nI un := by rw [hq_9 5 (by decide) (by decide)]; exact hV5
  have hV_21 : V_6 6 = nI wm := by rw [hq_9 6 (by decide) (by decide)]; exact hV6
  have hV_22 : V_6 11 = nI sh := by rw [hq_9 11 (by decide) (by decide)]; exact hV11
  exact hret r_1 (h_4, F_5, V_6) H locs 7 ls rfl dX4_plan_7 (by
                have hcm_ : ∀ i, nw ≤ i → i < 24 → cmF F Hh So Wd Lm d n nw i = cmA X Y n SX SY Hh So Wd Lm d nw i := fun i _ h2 => cm_abs hGC hGP hSU hF10 hF11 bHh h2
                obtain ⟨C_, hC1_, hC2_⟩ := hw_3.2.2.2.2.2
                dsimp only at hC1_
                have hfp_ := (fc_pl bV6 hC2_ (24 - nw) (by omega)).2
                refine ⟨?_, hq_7 0 (by decide) (by decide), ?_⟩
                · (try dsimp only)
                  first | done | exact (hw_3.1).trans (congrFun (rowf_cong (24 - nw) (by omega) (fun i h1 h2 => hcm_ i (by omega) h2)) _)
                · (try dsimp only)
                  exact ⟨⟨hV_16, by omega⟩, ⟨hV_17, by omega⟩, ⟨hV_18, by omega⟩, ⟨hV_19, by omega⟩, ⟨hV_20, by omega⟩, ⟨hV_21, by omega⟩, ⟨hq_10, by omega⟩, ⟨sh, hV_22, by omega⟩, ⟨hN_11, bSo⟩, ⟨hN_12, bHh⟩, ⟨hN_13, bWd⟩, ⟨hN_14, bLm⟩, ⟨hN_15, bPr⟩, by omega, hGP, hSU, GC_cong hGC (hq_8 5 (by decide)) (hq_8 6 (by decide)) (hq_8 7 (by decide)) (hq_8 8 (by decide)), (fun i hi => (congrFun (hq_8 10 (by decide)) i).trans (hF10 i hi)), (fun i hi => (congrFun (hq_8 11 (by decide)) i).trans (hF11 i hi)), KC_cong hKC (hq_8 19 (by decide)) (hq_8 20 (by decide)), ((hq_9 7 (by decide) (by decide))).trans hE, (fun t h1 h2 => by rw [hC1_, hfp_ t h2, decide_eq_true (p := nw ≤ t ∧ t < nw + (24 - nw)) (by omega), Bool.true_and]; exact plR_cong hcm_ h1 h2)⟩) (hP) (hD) hS
def rm_X4_runs : Room := { frames := 2, cells := 0, slots := 0, locals := 42 }
set_option maxHeartbeats 4000000 in
set_option maxRecDepth 100000 in
theorem c_X4_runs (l : Launch) (dC : Nat → ClassId) (dI : Nat → Nat → Nat) (cI cZ cJ : ClassId) (h : Nat → Nat) (F : Nat → Nat → Int32) (V : Nat → Int32) (n : Nat) (hV1 : V 1 = nI n) (bV1 : n ≤ 40) (d : Nat) (hV2 : V 2 = nI d) (bV2 : d ≤ 20) (ks : Nat) (hV3 : V 3 = nI ks) (bV3 : ks ≤ 40) (nw : Nat) (hV4 : V 4 = nI nw) (bV4 : nw ≤ 23) (un : Nat) (hV5 : V 5 = nI un) (bV5 : un ≤ 200) (wm : Nat) (hV6 : V 6 = nI wm) (bV6 : wm ≤ 1) (pf : Nat) (hV9 : V 9 = nI pf) (bV9 : pf ≤ 24) (sh : Nat) (hV11 : V 11 = nI sh) (bV11 : sh ≤ 12) (So : Nat → Nat) (hSo : ∀ i, i < 40 → F 9 i = nI (So i)) (bSo : ∀ i, i < 40 → So i ≤ 90) (Hh : Nat → Nat) (hHh : ∀ i, i < 24 → F 12 i = nI (Hh i)) (bHh : ∀ i, i < 24 → Hh i ≤ 9) (Wd : Nat → Nat) (hWd : ∀ i, i < 24 → F 13 i = nI (Wd i)) (bWd : ∀ i, i < 24 → Wd i ≤ 99) (Lm : Nat → Nat) (hLm : ∀ i, i < 4 → F 14 i = nI (Lm i)) (bLm : ∀ i, i < 4 → Lm i ≤ 10000) (Pr : Nat → Nat) (hPr : ∀ i, i < 24 → F 23 i = nI (Pr i)) (bPr : ∀ i, i < 24 → Pr i ≤ 999) (p0 : Int32)  (X Y : Nat → Nat) (SX SY Kc Kp : Nat → Int32) (er : Int32) (rb : Nat → Bool) (hkn : ks ≤ n) (hGP : GP n X Y) (hSU : SUN SX SY) (hGC : GC n X Y F) (hF10 : ∀ i, i < 24 → F 10 i = SX i) (hF11 : ∀ i, i < 24 → F 11 i = SY i) (hKC : KC ks Kc Kp F) (hE : V 7 = er) (hPL : PLC pf rb V) : CtI l (dC, dI) vwCl (tys3 cI cZ cJ) yX4_runs wsX4_runs rm_X4_runs [.ref (h 0), .int p0] (wC cI cZ h F V) (S := (Nat → Nat) × (Nat → Nat → Int32) × (Nat → Int32)) (fun r u => (r = (bif isW p0 (nI pf) 23 then bI (rb p0.toNatClampNeg) else (-1))) ∧ u.1 0 = h 0 ∧ VC n d ks nw un wm pf So Hh Wd Lm Pr X Y SX SY Kc Kp er rb u.2.1 u.2.2) (fun u => wC cI cZ u.1 u.2.1 u.2.2) 0 0 := by
  refine ct_I (cc := cX4_runs) (maxL := 2) (ty := .int) (own := RX4) (by decide) rfl rfl (Nat.le_of_ble_eq_true rfl) (lv := [(0, .ref (h 0)), (1, .int p0)]) rfl ?_
  intro p e s m args below meth c A Q ls fx hK hP hD hA hl hret
  obtain ⟨hx, hb, hml, hown, hts⟩ := id fx
  have hS : va_S A s.heap s.heap [] := va_S.rf
  have hw0 := hts (.fieldLink RX4 30 "MirrorTower" "store" "LMirrorTower$Store;") (by decide +kernel)
  have hin_X4 : ∀ w ∈ u_ws RX4 TX4 5, w ∈ wsX4_runs := by decide +kernel
  obtain ⟨H, hH⟩ : ∃ H, H = s.heap := ⟨_, rfl⟩
  rw [← hH] at hP ⊢
  have hS : va_S A s.heap H [] := by rw [hH]; exact hS
  generalize ([] : List Loc) = locs at hS ⊢
  refine lv_iload_n hx hb dX4_runs_0 rfl (lv_at hl 1 rfl) ?_
  refine cw_Si (As := [.int p0]) (rest := []) (c_X4_isHour l dC dI cI cZ cJ (wC cI cZ h F V) p0) fx (va_cwS 1 hts gX4_runs_X4_isHour rfl rfl rfl (by decide +kernel) ⟨Nat.le_of_ble_eq_true rfl, Nat.le_of_ble_eq_true rfl⟩) hK hP hD hS hA rfl hl.1 rfl (Nat.le_of_ble_eq_true rfl) dX4_runs_1 ⟨Nat.le_of_ble_eq_true rfl, Nat.le_of_ble_eq_true rfl⟩ (fun r_1 u_2 H locs hw_3 hP hD hS => ?_)
  have hP : va_P (dC, dI) vwCl (wC cI cZ h F V) H := hP
  have hD : va_D A (wC cI cZ h F V) := hD
  have hw_3 : r_1 = bI (isW p0 0 23) := hw_3
  refine lv_if_eq (tgt := 18) hx hb dX4_runs_4 (by decide) (fun c_4 => ?_) (fun c_4 => ?_)
  · have c_4 : isW p0 0 23 = false := bI_f hw_3 c_4
    refine lv_iconst (v := (-1)) hx hb dX4_runs_18 (by decide) ?_
    exact hret (-1) (h, F, V) H locs 19 ls rfl dX4_runs_19 (by
                  have hz_ := runs_out bV9 c_4
                  have hc_ : isW p0 (nI pf) 23 = false := by simp [hz_, c_4]
                  refine ⟨?_, rfl, ?_⟩
                  · (try simp only [hc_, cond_true, cond_false])
                    first | done | exact rfl
                  · (try simp only [hc_, cond_true, cond_false])
                    exact ⟨⟨hV1, by omega⟩, ⟨hV2, by omega⟩, ⟨hV3, by omega⟩, ⟨hV4, by omega⟩, ⟨hV5, by omega⟩, ⟨hV6, by omega⟩, ⟨hV9, by omega⟩, ⟨sh, hV11, by omega⟩, ⟨hSo, bSo⟩, ⟨hHh, bHh⟩, ⟨hWd, bWd⟩, ⟨hLm, bLm⟩, ⟨hPr, bPr⟩, by omega, hGP, hSU, GC_cong hGC (Eq.refl (F 5)) (Eq.refl (F 6)) (Eq.refl (F 7)) (Eq.refl (F 8)), (fun i hi => (congrFun (Eq.refl (F 10)) i).trans (hF10 i hi)), (fun i hi => (congrFun (Eq.refl (F 11)) i).trans (hF11 i hi)), KC_cong hKC (Eq.refl (F 19)) (Eq.refl (F 20)), ((Eq.refl (V 7))).trans hE, PLC_cong hPL (Eq.refl (V 8))⟩) (hP) (hD) hS
  · have c_4 : isW p0 0 23 = true := bI_t hw_3 c_4
    refine lv_aload_n hx hb dX4_runs_7 rfl (lv_at hl 0 rfl) ?_
    refine va_get (D := (dC, dI)) (ci := 4) (v := .ref (h 3)) (C := RX4) (T := TX4) (N := 5) hx hb hts hin_X4 hown hK hP 0 rfl rfl 2 (by decide) hw0 (fun _ h9 => h9) rfl dX4_runs_8 ?_
    refine lv_iload_n hx hb dX4_runs_11 rfl (lv_at hl 1 rfl) ?_
    obtain ⟨k0, hk0, rfl⟩ := isW_nat (M := 23) (n := 23) (by decide) c_4
    refine cw_Vi (As := [.int (nI k0)]) (rest := []) (c_X3_plannedRun l dC dI cI cZ cJ h F V pf hV9 (by omega) k0 (by omega)) fx (cwV 1 hts gX4_runs_X3_plannedRun rfl rfl rfl (by decide +kernel) ⟨Nat.le_of_ble_eq_true rfl, Nat.le_of_ble_eq_true rfl⟩) hK hP hD hS hA 3 rfl rfl rfl rfl hl.1 rfl (Nat.le_of_ble_eq_true rfl) dX4_runs_12 ⟨Nat.le_of_ble_eq_true rfl, Nat.le_of_ble_eq_true rfl⟩ (fun r_5 u_6 H locs hw_7 hP hD hS => ?_)
    have hP : va_P (dC, dI) vwCl (wC cI cZ h F V) H := hP
    have hD : va_D A (wC cI cZ h F V) := hD
    have hw_7 : r_5 = if k0 < pf then (-1) else (V 8 >>> (nI k0 &&& 31)) &&& 1 := hw_7
    refine lv_goto (tgt := 19) hx hb dX4_runs_15 (by decide) ?_
    exact hret r_5 (h, F, V) H locs 19 ls rfl dX4_runs_19 (by
                  have hq_ := hw_7
                  by_cases hk_ : pf ≤ k0
                  · have hc_ : isW (nI k0) (nI pf) 23 = true := by rw [show (23 : Int32) = nI 23 from rfl, isW_nI (by omega) (by omega) (by omega)]; exact decide_eq_true (by omega)
                    rw [if_neg (by omega)] at hq_
                    refine ⟨?_, rfl, ?_⟩
                    · simp only [hc_, cond_true, cond_false, nI_clamp (show k0 < 2 ^ 31 by omega)]
                      exact hq_.trans (by rw [bit01, hPL k0 hk_ (by omega)])
                    · exact ⟨⟨hV1, by omega⟩, ⟨hV2, by omega⟩, ⟨hV3, by omega⟩, ⟨hV4, by omega⟩, ⟨hV5, by omega⟩, ⟨hV6, by omega⟩, ⟨hV9, by omega⟩, ⟨sh, hV11, by omega⟩, ⟨hSo, bSo⟩, ⟨hHh, bHh⟩, ⟨hWd, bWd⟩, ⟨hLm, bLm⟩, ⟨hPr, bPr⟩, by omega, hGP, hSU, GC_cong hGC (Eq.refl (F 5)) (Eq.refl (F 6)) (Eq.refl (F 7)) (Eq.refl (F 8)), (fun i hi => (congrFun (Eq.refl (F 10)) i).trans (hF10 i hi)), (fun i hi => (congrFun (Eq.refl (F 11)) i).trans (hF11 i hi)), KC_cong hKC (Eq.refl (F 19)) (Eq.refl (F 20)), ((Eq.refl (V 7))).trans hE, PLC_cong hPL (Eq.refl (V 8))⟩
                  · have hc_ : isW (nI k0) (nI pf) 23 = false := by rw [show (23 : Int32) = nI 23 from rfl, isW_nI (by omega) (by omega) (by omega)]; exact decide_eq_false (by omega)
                    rw [if_pos (by omega)] at hq_
                    refine ⟨?_, rfl, ?_⟩
                    · simp only [hc_, cond_true, cond_false, nI_clamp (show k0 < 2 ^ 31 by omega)]
                      exact hq_
                    · exact ⟨⟨hV1, by omega⟩, ⟨hV2, by omega⟩, ⟨hV3, by omega⟩, ⟨hV4, by omega⟩, ⟨hV5, by omega⟩, ⟨hV6, by omega⟩, ⟨hV9, by omega⟩, ⟨sh, hV11, by omega⟩, ⟨hSo, bSo⟩, ⟨hHh, bHh⟩, ⟨hWd, bWd⟩, ⟨hLm, bLm⟩, ⟨hPr, bPr⟩, by omega, hGP, hSU, GC_cong hGC (Eq.refl (F 5)) (Eq.refl (F 6)) (Eq.refl (F 7)) (Eq.refl (F 8)), (fun i hi => (congrFun (Eq.refl (F 10)) i).trans (hF10 i hi)), (fun i hi => (congrFun (Eq.refl (F 11)) i).trans (hF11 i hi)), KC_cong hKC (Eq.refl (F 19)) (Eq.refl (F 20)), ((Eq.refl (V 7))).trans hE, PLC_cong hPL (Eq.refl (V 8))⟩) (hP) (hD) hS
def rm_X4_step0 : Room := { frames := 6, cells := 0, slots := 0, locals := 133 }
set_option maxHeartbeats 4000000 in
set_option maxRecDepth 100000 in
theorem c_X4_step0 (l : Launch) (dC : Nat → ClassId) (dI : Nat → Nat → Nat) (cI cZ cJ : ClassId) (h : Nat → Nat) (F : Nat → Nat → Int32) (V : Nat → Int32) (n : Nat) (hV1 : V 1 = nI n) (bV1 : n ≤ 40) (d : Nat) (hV2 : V 2 = nI d) (bV2 : d ≤ 20) (ks : Nat) (hV3 : V 3 = nI ks) (bV3 : ks ≤ 40) (nw : Nat) (hV4 : V 4 = nI nw) (bV4 : nw ≤ 23) (un : Nat) (hV5 : V 5 = nI un) (bV5 : un ≤ 200) (wm : Nat) (hV6 : V 6 = nI wm) (bV6 : wm ≤ 1) (pf : Nat) (hV9 : V 9 = nI pf) (bV9 : pf ≤ 24) (sh : Nat) (hV11 : V 11 = nI sh) (bV11 : sh ≤ 12) (So : Nat → Nat) (hSo : ∀ i, i < 40 → F 9 i = nI (So i)) (bSo : ∀ i, i < 40 → So i ≤ 90) (Hh : Nat → Nat) (hHh : ∀ i, i < 24 → F 12 i = nI (Hh i)) (bHh : ∀ i, i < 24 → Hh i ≤ 9) (Wd : Nat → Nat) (hWd : ∀ i, i < 24 → F 13 i = nI (Wd i)) (bWd : ∀ i, i < 24 → Wd i ≤ 99) (Lm : Nat → Nat) (hLm : ∀ i, i < 4 → F 14 i = nI (Lm i)) (bLm : ∀ i, i < 4 → Lm i ≤ 10000) (Pr : Nat → Nat) (hPr : ∀ i, i < 24 → F 23 i = nI (Pr i)) (bPr : ∀ i, i < 24 → Pr i ≤ 999)   (X Y : Nat → Nat) (SX SY Kc Kp : Nat → Int32) (er : Int32) (rb : Nat → Bool) (hkn : ks ≤ n) (hGP : GP n X Y) (hSU : SUN SX SY) (hGC : GC n X Y F) (hF10 : ∀ i, i < 24 → F 10 i = SX i) (hF11 : ∀ i, i < 24 → F 11 i = SY i) (hKC : KC ks Kc Kp F) (hE : V 7 = er) (hPL : PLC pf rb V) : CtI l (dC, dI) vwCl (tys3 cI cZ cJ) yX4_step wsX4_step rm_X4_step0 [.ref (h 0), .int 0] (wC cI cZ h F V) (S := (Nat → Nat) × (Nat → Nat → Int32) × (Nat → Int32)) (fun r u => (r = 0) ∧ u.1 0 = h 0 ∧ VC n d ks ((nw + 1) % 24) (min 200 (un + htA (pwA X Y n SX SY Hh So Wd nw 0) Lm n / 100)) (0) pf (grow So d n) Hh Wd Lm Pr X Y SX SY Kc Kp (er + 0) rb u.2.1 u.2.2) (fun u => wC cI cZ u.1 u.2.1 u.2.2) 0 0 := by
  refine ct_I (cc := cX4_step) (maxL := 3) (ty := .int) (own := RX4) (by decide) rfl rfl (Nat.le_of_ble_eq_true rfl) (lv := [(0, .ref (h 0)), (1, .int 0)]) rfl ?_
  intro p e s m args below meth c A Q ls fx hK hP hD hA hl hret
  obtain ⟨hx, hb, hml, hown, hts⟩ := id fx
  have hS : va_S A s.heap s.heap [] := va_S.rf
  have hw0 := hts (.fieldLink RX4 30 "MirrorTower" "store" "LMirrorTower$Store;") (by decide +kernel)
  have hin_X4 : ∀ w ∈ u_ws RX4 TX4 5, w ∈ wsX4_step := by decide +kernel
  obtain ⟨H, hH⟩ : ∃ H, H = s.heap := ⟨_, rfl⟩
  rw [← hH] at hP ⊢
  have hS : va_S A s.heap H [] := by rw [hH]; exact hS
  generalize ([] : List Loc) = locs at hS ⊢
  refine lv_aload_n hx hb dX4_step_0 rfl (lv_at hl 0 rfl) ?_
  refine va_get (D := (dC, dI)) (ci := 4) (v := .ref (h 3)) (C := RX4) (T := TX4) (N := 5) hx hb hts hin_X4 hown hK hP 0 rfl rfl 2 (by decide) hw0 (fun _ h9 => h9) rfl dX4_step_1 ?_
  refine lv_iload_n hx hb dX4_step_4 rfl (lv_at hl 1 rfl) ?_
  refine cw_Vi (As := [.int 0]) (rest := []) (c_X3_passHour0 l dC dI cI cZ cJ h F V n hV1 (by omega) d hV2 (by omega) nw hV4 (by omega) un hV5 (by omega) wm hV6 (by omega) So hSo bSo Hh hHh bHh Wd hWd bWd Lm hLm bLm Pr hPr bPr) fx (cwV 1 hts gX4_step_X3_passHour rfl rfl rfl (by decide +kernel) ⟨Nat.le_of_ble_eq_true rfl, Nat.le_of_ble_eq_true rfl⟩) hK hP hD hS hA 3 rfl rfl rfl rfl hl.1 rfl (Nat.le_of_ble_eq_true rfl) dX4_step_5 ⟨Nat.le_of_ble_eq_true rfl, Nat.le_of_ble_eq_true rfl⟩ (fun r_1 u_2 H locs hw_3 hP hD hS => ?_)
  obtain ⟨F_4, rfl⟩ : ∃ z, z = u_2 := ⟨_, rfl⟩
  have hf_5 : ∀ j, j ∉ ([9, 15, 16, 17, 18] : List Nat) → F_4 j = F j := hw_3.2.1
  have hP : va_P (dC, dI) vwCl (wC cI cZ h F_4 (va_up (va_up (va_up (va_up V 5 (nI (min 200 (un + ahF F Hh So Wd Lm d n nw 0 / 100) - 0))) 6 0) 7 (V 7 + 0)) 4 (nI ((nw + 1) % 24)))) H := hP
  have hD : va_D A (wC cI cZ h F_4 (va_up (va_up (va_up (va_up V 5 (nI (min 200 (un + ahF F Hh So Wd Lm d n nw 0 / 100) - 0))) 6 0) 7 (V 7 + 0)) 4 (nI ((nw + 1) % 24)))) := hD
  have hN_6 : ∀ i, i < 24 → F_4 12 i = nI (Hh i) := by rw [hf_5 12 (by decide)]; exact hHh
  have hN_7 : ∀ i, i < 24 → F_4 13 i = nI (Wd i) := by rw [hf_5 13 (by decide)]; exact hWd
  have hN_8 : ∀ i, i < 4 → F_4 14 i = nI (Lm i) := by rw [hf_5 14 (by decide)]; exact hLm
  have hN_9 : ∀ i, i < 24 → F_4 23 i = nI (Pr i) := by rw [hf_5 23 (by decide)]; exact hPr
  have hN_10 : ∀ i, i < 40 → F_4 9 i = nI ((grow So d n) i) := hw_3.2.2.1
  have bN_11 : ∀ i, i < 40 → (grow So d n) i ≤ 90 := hw_3.2.2.2
  obtain rfl : r_1 = 0 := hw_3.1
  refine lv_istore_n (lv' := [(2, .int 0), (0, .ref (h 0)), (1, .int 0)]) hx hb dX4_step_8 rfl hl (by decide) rfl (fun ls hl => ?_)
  refine lv_iload_n hx hb dX4_step_9 rfl (lv_at hl 0 rfl) ?_
  refine lv_iconst (v := (-1)) hx hb dX4_step_10 (by decide) ?_
  refine lv_icmp_ne (tgt := 22) hx hb dX4_step_11 (by decide) (fun c_12 => ?_) (fun c_12 => ?_)
  · refine lv_aload_n hx hb dX4_step_22 rfl (lv_at hl 1 rfl) ?_
    refine lv_iload_n hx hb dX4_step_23 rfl (lv_at hl 0 rfl) ?_
    refine cw_Vi (As := [.int 0]) (rest := []) (c_X4_granted l dC dI cI cZ cJ h F_4 (va_up (va_up (va_up (va_up V 5 (nI (min 200 (un + ahF F Hh So Wd Lm d n nw 0 / 100) - 0))) 6 0) 7 (V 7 + 0)) 4 (nI ((nw + 1) % 24))) 0) fx (cwV 1 hts gX4_step_X4_granted rfl rfl rfl (by decide +kernel) ⟨Nat.le_of_ble_eq_true rfl, Nat.le_of_ble_eq_true rfl⟩) hK hP hD hS hA 0 rfl rfl rfl rfl hl.1 rfl (Nat.le_of_ble_eq_true rfl) dX4_step_24 ⟨Nat.le_of_ble_eq_true rfl, Nat.le_of_ble_eq_true rfl⟩ (fun r_13 u_14 H locs hw_15 hP hD hS => ?_)
    have hP : va_P (dC, dI) vwCl (wC cI cZ h F_4 (va_up (va_up (va_up (va_up (va_up V 5 (nI (min 200 (un + ahF F Hh So Wd Lm d n nw 0 / 100) - 0))) 6 0) 7 (V 7 + 0)) 4 (nI ((nw + 1) % 24))) 0 0)) H := hP
    have hD : va_D A (wC cI cZ h F_4 (va_up (va_up (va_up (va_up (va_up V 5 (nI (min 200 (un + ahF F Hh So Wd Lm d n nw 0 / 100) - 0))) 6 0) 7 (V 7 + 0)) 4 (nI ((nw + 1) % 24))) 0 0)) := hD
    obtain rfl : r_13 = 0 := hw_15
    exact hret 0 (h, F_4, va_up (va_up (va_up (va_up (va_up V 5 (nI (min 200 (un + ahF F Hh So Wd Lm d n nw 0 / 100) - 0))) 6 0) 7 (V 7 + 0)) 4 (nI ((nw + 1) % 24))) 0 0) H locs 27 ls rfl dX4_step_27 (by
                  have x1_ := (ah_abs (S := So) (W := Wd) (Lm := Lm) (d := d) (k := 0) hGC hGP hSU hF10 hF11 (bHh nw (by omega)) (show nw < 24 by omega)).1
                  rw [Nat.zero_mul] at x1_
                  rw [← x1_]
                  refine ⟨?_, rfl, ?_⟩
                  · (try dsimp only)
                    first | done | exact rfl
                  · (try dsimp only)
                    exact ⟨⟨hV1, by omega⟩, ⟨hV2, by omega⟩, ⟨hV3, by omega⟩, ⟨rfl, by omega⟩, ⟨rfl, by omega⟩, ⟨rfl, by omega⟩, ⟨hV9, by omega⟩, ⟨sh, hV11, by omega⟩, ⟨hN_10, bN_11⟩, ⟨hN_6, bHh⟩, ⟨hN_7, bWd⟩, ⟨hN_8, bLm⟩, ⟨hN_9, bPr⟩, by omega, hGP, hSU, GC_cong hGC (hf_5 5 (by decide)) (hf_5 6 (by decide)) (hf_5 7 (by decide)) (hf_5 8 (by decide)), (fun i hi => (congrFun (hf_5 10 (by decide)) i).trans (hF10 i hi)), (fun i hi => (congrFun (hf_5 11 (by decide)) i).trans (hF11 i hi)), KC_cong hKC (hf_5 19 (by decide)) (hf_5 20 (by decide)), congrArg (fun z => z + 0) hE, PLC_cong hPL (show (va_up (va_up (va_up (va_up (va_up V 5 (nI (min 200 (un + ahF F Hh So Wd Lm d n nw 0 / 100) - 0))) 6 0) 7 (V 7 + 0)) 4 (nI ((nw + 1) % 24))) 0 0) 8 = V 8 from rfl)⟩) (hP) (hD) hS
  · exact absurd c_12 (by decide)
def rm_X4_earned : Room := { frames := 1, cells := 0, slots := 0, locals := 20 }
set_option maxHeartbeats 4000000 in
set_option maxRecDepth 100000 in
theorem c_X4_earned (l : Launch) (dC : Nat → ClassId) (dI : Nat → Nat → Nat) (cI cZ cJ : ClassId) (h : Nat → Nat) (F : Nat → Nat → Int32) (V : Nat → Int32) (n : Nat) (hV1 : V 1 = nI n) (bV1 : n ≤ 40) (d : Nat) (hV2 : V 2 = nI d) (bV2 : d ≤ 20) (ks : Nat) (hV3 : V 3 = nI ks) (bV3 : ks ≤ 40) (nw : Nat) (hV4 : V 4 = nI nw) (bV4 : nw ≤ 23) (un : Nat) (hV5 : V 5 = nI un) (bV5 : un ≤ 200) (wm : Nat) (hV6 : V 6 = nI wm) (bV6 : wm ≤ 1) (pf : Nat) (hV9 : V 9 = nI pf) (bV9 : pf ≤ 24) (sh : Nat) (hV11 : V 11 = nI sh) (bV11 : sh ≤ 12) (So : Nat → Nat) (hSo : ∀ i, i < 40 → F 9 i = nI (So i)) (bSo : ∀ i, i < 40 → So i ≤ 90) (Hh : Nat → Nat) (hHh : ∀ i, i < 24 → F 12 i = nI (Hh i)) (bHh : ∀ i, i < 24 → Hh i ≤ 9) (Wd : Nat → Nat) (hWd : ∀ i, i < 24 → F 13 i = nI (Wd i)) (bWd : ∀ i, i < 24 → Wd i ≤ 99) (Lm : Nat → Nat) (hLm : ∀ i, i < 4 → F 14 i = nI (Lm i)) (bLm : ∀ i, i < 4 → Lm i ≤ 10000) (Pr : Nat → Nat) (hPr : ∀ i, i < 24 → F 23 i = nI (Pr i)) (bPr : ∀ i, i < 24 → Pr i ≤ 999)   (X Y : Nat → Nat) (SX SY Kc Kp : Nat → Int32) (er : Int32) (rb : Nat → Bool) (hkn : ks ≤ n) (hGP : GP n X Y) (hSU : SUN SX SY) (hGC : GC n X Y F) (hF10 : ∀ i, i < 24 → F 10 i = SX i) (hF11 : ∀ i, i < 24 → F 11 i = SY i) (hKC : KC ks Kc Kp F) (hE : V 7 = er) (hPL : PLC pf rb V) : CtI l (dC, dI) vwCl (tys3 cI cZ cJ) yX4_earned wsX4_earned rm_X4_earned [.ref (h 0)] (wC cI cZ h F V) (S := (Nat → Nat) × (Nat → Nat → Int32) × (Nat → Int32)) (fun r u => (r = er) ∧ u.1 0 = h 0 ∧ VC n d ks nw un wm pf So Hh Wd Lm Pr X Y SX SY Kc Kp er rb u.2.1 u.2.2) (fun u => wC cI cZ u.1 u.2.1 u.2.2) 0 0 := by
  refine ct_I (cc := cX4_earned) (maxL := 1) (ty := .int) (own := RX4) (by decide) rfl rfl (Nat.le_of_ble_eq_true rfl) (lv := [(0, .ref (h 0))]) rfl ?_
  intro p e s m args below meth c A Q ls fx hK hP hD hA hl hret
  obtain ⟨hx, hb, hml, hown, hts⟩ := id fx
  have hS : va_S A s.heap s.heap [] := va_S.rf
  have hw0 := hts (.fieldLink RX4 30 "MirrorTower" "store" "LMirrorTower$Store;") (by decide +kernel)
  have hin_X4 : ∀ w ∈ u_ws RX4 TX4 5, w ∈ wsX4_earned := by decide +kernel
  obtain ⟨H, hH⟩ : ∃ H, H = s.heap := ⟨_, rfl⟩
  rw [← hH] at hP ⊢
  have hS : va_S A s.heap H [] := by rw [hH]; exact hS
  generalize ([] : List Loc) = locs at hS ⊢
  refine lv_aload_n hx hb dX4_earned_0 rfl (lv_at hl 0 rfl) ?_
  refine va_get (D := (dC, dI)) (ci := 4) (v := .ref (h 3)) (C := RX4) (T := TX4) (N := 5) hx hb hts hin_X4 hown hK hP 0 rfl rfl 2 (by decide) hw0 (fun _ h9 => h9) rfl dX4_earned_1 ?_
  refine cw_Vi (As := []) (rest := []) (c_X3_earnedInAll l dC dI cI cZ cJ h F V) fx (cwV 0 hts gX4_earned_X3_earnedInAll rfl rfl rfl (by decide +kernel) ⟨Nat.le_of_ble_eq_true rfl, Nat.le_of_ble_eq_true rfl⟩) hK hP hD hS hA 3 rfl rfl rfl rfl hl.1 rfl (Nat.le_of_ble_eq_true rfl) dX4_earned_4 ⟨Nat.le_of_ble_eq_true rfl, Nat.le_of_ble_eq_true rfl⟩ (fun r_1 u_2 H locs hw_3 hP hD hS => ?_)
  have hP : va_P (dC, dI) vwCl (wC cI cZ h F V) H := hP
  have hD : va_D A (wC cI cZ h F V) := hD
  have hw_3 : r_1 = V 7 := hw_3
  subst hw_3
  exact hret (V 7) (h, F, V) H locs 7 ls rfl dX4_earned_7 (by
                refine ⟨?_, rfl, ?_⟩
                · (try dsimp only)
                  first | done | exact hE
                · (try dsimp only)
                  exact ⟨⟨hV1, by omega⟩, ⟨hV2, by omega⟩, ⟨hV3, by omega⟩, ⟨hV4, by omega⟩, ⟨hV5, by omega⟩, ⟨hV6, by omega⟩, ⟨hV9, by omega⟩, ⟨sh, hV11, by omega⟩, ⟨hSo, bSo⟩, ⟨hHh, bHh⟩, ⟨hWd, bWd⟩, ⟨hLm, bLm⟩, ⟨hPr, bPr⟩, by omega, hGP, hSU, GC_cong hGC (Eq.refl (F 5)) (Eq.refl (F 6)) (Eq.refl (F 7)) (Eq.refl (F 8)), (fun i hi => (congrFun (Eq.refl (F 10)) i).trans (hF10 i hi)), (fun i hi => (congrFun (Eq.refl (F 11)) i).trans (hF11 i hi)), KC_cong hKC (Eq.refl (F 19)) (Eq.refl (F 20)), ((Eq.refl (V 7))).trans hE, PLC_cong hPL (Eq.refl (V 8))⟩) (hP) (hD) hS
def rm_X4_shot : Room := { frames := 2, cells := 0, slots := 0, locals := 46 }
set_option maxHeartbeats 4000000 in
set_option maxRecDepth 100000 in
theorem c_X4_shot (l : Launch) (dC : Nat → ClassId) (dI : Nat → Nat → Nat) (cI cZ cJ : ClassId) (h : Nat → Nat) (F : Nat → Nat → Int32) (V : Nat → Int32) (n : Nat) (hV1 : V 1 = nI n) (bV1 : n ≤ 40) (d : Nat) (hV2 : V 2 = nI d) (bV2 : d ≤ 20) (ks : Nat) (hV3 : V 3 = nI ks) (bV3 : ks ≤ 40) (nw : Nat) (hV4 : V 4 = nI nw) (bV4 : nw ≤ 23) (un : Nat) (hV5 : V 5 = nI un) (bV5 : un ≤ 200) (wm : Nat) (hV6 : V 6 = nI wm) (bV6 : wm ≤ 1) (pf : Nat) (hV9 : V 9 = nI pf) (bV9 : pf ≤ 24) (sh : Nat) (hV11 : V 11 = nI sh) (bV11 : sh ≤ 12) (So : Nat → Nat) (hSo : ∀ i, i < 40 → F 9 i = nI (So i)) (bSo : ∀ i, i < 40 → So i ≤ 90) (Hh : Nat → Nat) (hHh : ∀ i, i < 24 → F 12 i = nI (Hh i)) (bHh : ∀ i, i < 24 → Hh i ≤ 9) (Wd : Nat → Nat) (hWd : ∀ i, i < 24 → F 13 i = nI (Wd i)) (bWd : ∀ i, i < 24 → Wd i ≤ 99) (Lm : Nat → Nat) (hLm : ∀ i, i < 4 → F 14 i = nI (Lm i)) (bLm : ∀ i, i < 4 → Lm i ≤ 10000) (Pr : Nat → Nat) (hPr : ∀ i, i < 24 → F 23 i = nI (Pr i)) (bPr : ∀ i, i < 24 → Pr i ≤ 999) (p0 p1 p2 : Int32)  (X Y : Nat → Nat) (SX SY Kc Kp : Nat → Int32) (er : Int32) (rb : Nat → Bool) (hkn : ks ≤ n) (hGP : GP n X Y) (hSU : SUN SX SY) (hGC : GC n X Y F) (hF10 : ∀ i, i < 24 → F 10 i = SX i) (hF11 : ∀ i, i < 24 → F 11 i = SY i) (hKC : KC ks Kc Kp F) (hE : V 7 = er) (hPL : PLC pf rb V) : CtI l (dC, dI) vwCl (tys3 cI cZ cJ) yX4_shot wsX4_shot rm_X4_shot [.ref (h 0), .int p0, .int p1, .int p2] (wC cI cZ h F V) (S := (Nat → Nat) × (Nat → Nat → Int32) × (Nat → Int32)) (fun r u => (True) ∧ u.1 0 = h 0 ∧ VC n d ks nw un wm pf So Hh Wd Lm Pr X Y SX SY Kc Kp er rb u.2.1 u.2.2) (fun u => wC cI cZ u.1 u.2.1 u.2.2) 0 0 := by
  refine ct_I (cc := cX4_shot) (maxL := 6) (ty := .int) (own := RX4) (by decide) rfl rfl (Nat.le_of_ble_eq_true rfl) (lv := [(0, .ref (h 0)), (1, .int p0), (2, .int p1), (3, .int p2)]) rfl ?_
  intro p e s m args below meth c A Q ls fx hK hP hD hA hl hret
  obtain ⟨hx, hb, hml, hown, hts⟩ := id fx
  have hS : va_S A s.heap s.heap [] := va_S.rf
  have hw0 := hts (.constantLong RX4 153 (4294967295)) (by decide +kernel)
  have hw1 := hts (.methodLink RX4 161 Lib.Math.min.name) (by decide +kernel)
  have hw2 := hts (.static Lib.Math.min.name) (by decide +kernel)
  have hw3 := hts (.initialized "java/lang/Math") (by decide +kernel)
  have hw4 := hts (.code Lib.Math.min.name Lib.Math.min.code 2 (some .int)) (by decide +kernel)
  have hw5 := hts (.fieldLink RX4 10 "MirrorTower" "field" "LMirrorTower$Field;") (by decide +kernel)
  have hin_X4 : ∀ w ∈ u_ws RX4 TX4 5, w ∈ wsX4_shot := by decide +kernel
  have hw7 := hts (.fieldLink RX4 37 "MirrorTower" "shots" "LMirrorTower$Shots;") (by decide +kernel)
  obtain ⟨H, hH⟩ : ∃ H, H = s.heap := ⟨_, rfl⟩
  rw [← hH] at hP ⊢
  have hS : va_S A s.heap H [] := by rw [hH]; exact hS
  generalize ([] : List Loc) = locs at hS ⊢
  refine lv_iload_n hx hb dX4_shot_0 rfl (lv_at hl 2 rfl) ?_
  refine lv_i2l hx hb dX4_shot_1 rfl ?_
  refine lv_bipush (v := 32) hx hb dX4_shot_2 (by decide) ?_
  refine lv_lshl hx hb dX4_shot_4 rfl ?_
  refine lv_topl (fun z_1 ez_1 => ?_)
  refine lv_iload_n hx hb dX4_shot_5 rfl (lv_at hl 1 rfl) ?_
  refine lv_i2l hx hb dX4_shot_6 rfl ?_
  refine lv_ldc2 hx hb hown hw0 dX4_shot_7 ?_
  refine lv_land hx hb dX4_shot_10 ?_
  refine lv_topl (fun z_2 ez_2 => ?_)
  refine lv_lor hx hb dX4_shot_11 ?_
  refine lv_topl (fun z_3 ez_3 => ?_)
  refine lv_lstore (lv' := [(4, .long z_3), (0, .ref (h 0)), (1, .int p0), (2, .int p1), (3, .int p2)]) hx hb dX4_shot_12 hl (by decide) rfl (fun ls hl => ?_)
  refine lv_iload_n hx hb dX4_shot_14 rfl (lv_at hl 4 rfl) ?_
  refine lv_iconst (v := 0) hx hb dX4_shot_15 (by decide) ?_
  refine lv_bipush (v := 40) hx hb dX4_shot_16 (by decide) ?_
  refine lv_lload hx hb dX4_shot_18 (lv_at hl 0 rfl) ?_
  refine cw_Si (As := [.long z_3]) (rest := [.int 40, .int 0, .int p2]) (c_J13_bitCount_95d88 l dC dI cI cZ cJ (wC cI cZ h F V) z_3) fx (va_cwS 1 hts gX4_shot_J13_bitCount_95d88 rfl rfl rfl (by decide +kernel) ⟨Nat.le_of_ble_eq_true rfl, Nat.le_of_ble_eq_true rfl⟩) hK hP hD hS hA rfl hl.1 rfl (Nat.le_of_ble_eq_true rfl) dX4_shot_20 ⟨Nat.le_of_ble_eq_true rfl, Nat.le_of_ble_eq_true rfl⟩ (fun r_4 u_5 H locs hw_6 hP hD hS => ?_)
  have hP : va_P (dC, dI) vwCl (wC cI cZ h F V) H := hP
  have hD : va_D A (wC cI cZ h F V) := hD
  refine va_mmin hx hb (hml.trans hl.1.symm) hown hw1 hw2 hw3 hw4 (Nat.le_of_ble_eq_true rfl) (Nat.le_of_ble_eq_true rfl) (Nat.le_of_ble_eq_true rfl) (Nat.le_of_ble_eq_true rfl) dX4_shot_23 ?_
  refine lv_topi (fun x_7 ex_7 => ?_)
  refine cw_Si (As := [.int p2, .int 0, .int x_7]) (rest := []) (c_X4_isWithin l dC dI cI cZ cJ (wC cI cZ h F V) p2 0 x_7) fx (va_cwS 3 hts gX4_shot_X4_isWithin rfl rfl rfl (by decide +kernel) ⟨Nat.le_of_ble_eq_true rfl, Nat.le_of_ble_eq_true rfl⟩) hK hP hD hS hA rfl hl.1 rfl (Nat.le_of_ble_eq_true rfl) dX4_shot_26 ⟨Nat.le_of_ble_eq_true rfl, Nat.le_of_ble_eq_true rfl⟩ (fun r_8 u_9 H locs hw_10 hP hD hS => ?_)
  have hP : va_P (dC, dI) vwCl (wC cI cZ h F V) H := hP
  have hD : va_D A (wC cI cZ h F V) := hD
  have hw_10 : r_8 = bI (isW p2 0 x_7) := hw_10
  refine lv_if_ne (tgt := 38) hx hb dX4_shot_29 (by decide) (fun c_11 => ?_) (fun c_11 => ?_)
  · have c_11 : isW p2 0 x_7 = true := bI_t hw_10 c_11
    refine lv_lload hx hb dX4_shot_38 (lv_at hl 0 rfl) ?_
    refine lv_lconst (v := 0) hx hb dX4_shot_40 (by decide) ?_
    refine W.lcmp hx hb dX4_shot_41 ?_
    refine lv_if_eq (tgt := 60) hx hb dX4_shot_42 (by decide) (fun c_12 => ?_) (fun c_12 => ?_)
    · have c_12 : eqI (lg_cmp z_3 0) 0 = true := decide_eq_true c_12
      refine lv_aload_n hx hb dX4_shot_60 rfl (lv_at hl 1 rfl) ?_
      refine lv_iconst (v := 4) hx hb dX4_shot_61 (by decide) ?_
      refine cw_Vi (As := [.int 4]) (rest := []) (c_X4_refused l dC dI cI cZ cJ h F V 4) fx (cwV 1 hts gX4_shot_X4_refused rfl rfl rfl (by decide +kernel) ⟨Nat.le_of_ble_eq_true rfl, Nat.le_of_ble_eq_true rfl⟩) hK hP hD hS hA 0 rfl rfl rfl rfl hl.1 rfl (Nat.le_of_ble_eq_true rfl) dX4_shot_62 ⟨Nat.le_of_ble_eq_true rfl, Nat.le_of_ble_eq_true rfl⟩ (fun r_13 u_14 H locs hw_15 hP hD hS => ?_)
      have hP : va_P (dC, dI) vwCl (wC cI cZ h F (va_up V 0 4)) H := hP
      have hD : va_D A (wC cI cZ h F (va_up V 0 4)) := hD
      obtain rfl : r_13 = (-1) := hw_15
      exact hret (-1) (h, F, va_up V 0 4) H locs 65 ls rfl dX4_shot_65 (by
                    refine ⟨?_, rfl, ?_⟩
                    · (try dsimp only)
                      first | done | exact trivial
                    · (try dsimp only)
                      exact ⟨⟨hV1, by omega⟩, ⟨hV2, by omega⟩, ⟨hV3, by omega⟩, ⟨hV4, by omega⟩, ⟨hV5, by omega⟩, ⟨hV6, by omega⟩, ⟨hV9, by omega⟩, ⟨sh, hV11, by omega⟩, ⟨hSo, bSo⟩, ⟨hHh, bHh⟩, ⟨hWd, bWd⟩, ⟨hLm, bLm⟩, ⟨hPr, bPr⟩, by omega, hGP, hSU, GC_cong hGC (Eq.refl (F 5)) (Eq.refl (F 6)) (Eq.refl (F 7)) (Eq.refl (F 8)), (fun i hi => (congrFun (Eq.refl (F 10)) i).trans (hF10 i hi)), (fun i hi => (congrFun (Eq.refl (F 11)) i).trans (hF11 i hi)), KC_cong hKC (Eq.refl (F 19)) (Eq.refl (F 20)), ((show (va_up V 0 4) 7 = V 7 from rfl)).trans hE, PLC_cong hPL (show (va_up V 0 4) 8 = V 8 from rfl)⟩) (hP) (hD) hS
    · have c_12 : eqI (lg_cmp z_3 0) 0 = false := decide_eq_false c_12
      refine lv_lload hx hb dX4_shot_45 (lv_at hl 0 rfl) ?_
      refine lv_aload_n hx hb dX4_shot_47 rfl (lv_at hl 1 rfl) ?_
      refine va_get (D := (dC, dI)) (ci := 4) (v := .ref (h 1)) (C := RX4) (T := TX4) (N := 5) hx hb hts hin_X4 hown hK hP 0 rfl rfl 0 (by decide) hw5 (fun _ h9 => h9) rfl dX4_shot_48 ?_
      refine cw_Vi (As := []) (rest := [.long z_3]) (c_X1_size l dC dI cI cZ cJ h F V) fx (cwV 0 hts gX4_shot_X1_size rfl rfl rfl (by decide +kernel) ⟨Nat.le_of_ble_eq_true rfl, Nat.le_of_ble_eq_true rfl⟩) hK hP hD hS hA 1 rfl rfl rfl rfl hl.1 rfl (Nat.le_of_ble_eq_true rfl) dX4_shot_51 ⟨Nat.le_of_ble_eq_true rfl, Nat.le_of_ble_eq_true rfl⟩ (fun r_16 u_17 H locs hw_18 hP hD hS => ?_)
      have hP : va_P (dC, dI) vwCl (wC cI cZ h F V) H := hP
      have hD : va_D A (wC cI cZ h F V) := hD
      obtain rfl : r_16 = nI n := Eq.trans hw_18 hV1
      refine lv_lushr hx hb dX4_shot_54 rfl ?_
      refine lv_topl (fun z_19 ez_19 => ?_)
      refine lv_lconst (v := 0) hx hb dX4_shot_55 (by decide) ?_
      refine W.lcmp hx hb dX4_shot_56 ?_
      refine lv_if_eq (tgt := 66) hx hb dX4_shot_57 (by decide) (fun c_20 => ?_) (fun c_20 => ?_)
      · have c_20 : eqI (lg_cmp z_19 0) 0 = true := decide_eq_true c_20
        refine lv_aload_n hx hb dX4_shot_66 rfl (lv_at hl 1 rfl) ?_
        refine va_get (D := (dC, dI)) (ci := 4) (v := .ref (h 4)) (C := RX4) (T := TX4) (N := 5) hx hb hts hin_X4 hown hK hP 0 rfl rfl 3 (by decide) hw7 (fun _ h9 => h9) rfl dX4_shot_67 ?_
        refine cw_Vi (As := []) (rest := []) (c_X2_size l dC dI cI cZ cJ h F V) fx (cwV 0 hts gX4_shot_X2_size rfl rfl rfl (by decide +kernel) ⟨Nat.le_of_ble_eq_true rfl, Nat.le_of_ble_eq_true rfl⟩) hK hP hD hS hA 4 rfl rfl rfl rfl hl.1 rfl (Nat.le_of_ble_eq_true rfl) dX4_shot_70 ⟨Nat.le_of_ble_eq_true rfl, Nat.le_of_ble_eq_true rfl⟩ (fun r_21 u_22 H locs hw_23 hP hD hS => ?_)
        have hP : va_P (dC, dI) vwCl (wC cI cZ h F V) H := hP
        have hD : va_D A (wC cI cZ h F V) := hD
        obtain rfl : r_21 = nI sh := Eq.trans hw_23 hV11
        refine lv_bipush (v := 12) hx hb dX4_shot_73 (by decide) ?_
        refine lv_icmp_lt (tgt := 84) hx hb dX4_shot_75 (by decide) (fun c_24 => ?_) (fun c_24 => ?_)
        · have c_24 : sh < 12 := (nI_ltI (a := sh) (b := 12) (by omega) (by omega)).mp c_24
          refine lv_aload_n hx hb dX4_shot_84 rfl (lv_at hl 1 rfl) ?_
          refine lv_aload_n hx hb dX4_shot_85 rfl (lv_at hl 1 rfl) ?_
          refine va_get (D := (dC, dI)) (ci := 4) (v := .ref (h 4)) (C := RX4) (T := TX4) (N := 5) hx hb hts hin_X4 hown hK hP 0 rfl rfl 3 (by decide) hw7 (fun _ h9 => h9) rfl dX4_shot_86 ?_
          refine lv_lload hx hb dX4_shot_89 (lv_at hl 0 rfl) ?_
          refine lv_iload_n hx hb dX4_shot_91 rfl (lv_at hl 4 rfl) ?_
          refine cw_Vi (As := [.long z_3, .int p2]) (rest := [.ref (h 0)]) (c_X2_note l dC dI cI cZ cJ h F V sh hV11 (by omega) z_3 p2) fx (cwV 2 hts gX4_shot_X2_note rfl rfl rfl (by decide +kernel) ⟨Nat.le_of_ble_eq_true rfl, Nat.le_of_ble_eq_true rfl⟩) hK hP hD hS hA 4 rfl rfl rfl rfl hl.1 rfl (Nat.le_of_ble_eq_true rfl) dX4_shot_92 ⟨Nat.le_of_ble_eq_true rfl, Nat.le_of_ble_eq_true rfl⟩ (fun r_25 u_26 H locs hw_27 hP hD hS => ?_)
          obtain ⟨F_28, V_29⟩ := u_26
          have hf_30 : ∀ j, j ∉ ([29] : List Nat) → F_28 j = F j := hw_27.2.1
          have hv_31 : ∀ j, j ≠ 10 → j ≠ 11 → V_29 j = V j := hw_27.2.2.1
          have hV_32 : V_29 11 = nI (sh + 1) := hw_27.2.2.2
          have hP : va_P (dC, dI) vwCl (wC cI cZ h F_28 V_29) H := hP
          have hD : va_D A (wC cI cZ h F_28 V_29) := hD
          have hN_33 : ∀ i, i < 40 → F_28 9 i = nI (So i) := by rw [hf_30 9 (by decide)]; exact hSo
          have hN_34 : ∀ i, i < 24 → F_28 12 i = nI (Hh i) := by rw [hf_30 12 (by decide)]; exact hHh
          have hN_35 : ∀ i, i < 24 → F_28 13 i = nI (Wd i) := by rw [hf_30 13 (by decide)]; exact hWd
          have hN_36 : ∀ i, i < 4 → F_28 14 i = nI (Lm i) := by rw [hf_30 14 (by decide)]; exact hLm
          have hN_37 : ∀ i, i < 24 → F_28 23 i = nI (Pr i) := by rw [hf_30 23 (by decide)]; exact hPr
          have hV_38 : V_29 1 = nI n := by rw [hv_31 1 (by decide) (by decide)]; exact hV1
          have hV_39 : V_29 2 = nI d := by rw [hv_31 2 (by decide) (by decide)]; exact hV2
          have hV_40 : V_29 3 = nI ks := by rw [hv_31 3 (by decide) (by decide)]; exact hV3
          have hV_41 : V_29 4 = nI nw := by rw [hv_31 4 (by decide) (by decide)]; exact hV4
          have hV_42 : V_29 5 = nI un := by rw [hv_31 5 (by decide) (by decide)]; exact hV5
          have hV_43 : V_29 6 = nI wm := by rw [hv_31 6 (by decide) (by decide)]; exact hV6
          have hV_44 : V_29 9 = nI pf := by rw [hv_31 9 (by decide) (by decide)]; exact hV9
          obtain rfl : r_25 = nI (sh) := hw_27.1
          refine cw_Vi (As := [.int (nI sh)]) (rest := []) (c_X4_granted l dC dI cI cZ cJ h F_28 V_29 (nI sh)) fx (cwV 1 hts gX4_shot_X4_granted rfl rfl rfl (by decide +kernel) ⟨Nat.le_of_ble_eq_true rfl, Nat.le_of_ble_eq_true rfl⟩) hK hP hD hS hA 0 rfl rfl rfl rfl hl.1 rfl (Nat.le_of_ble_eq_true rfl) dX4_shot_95 ⟨Nat.le_of_ble_eq_true rfl, Nat.le_of_ble_eq_true rfl⟩ (fun r_45 u_46 H locs hw_47 hP hD hS => ?_)
          have hP : va_P (dC, dI) vwCl (wC cI cZ h F_28 (va_up V_29 0 0)) H := hP
          have hD : va_D A (wC cI cZ h F_28 (va_up V_29 0 0)) := hD
          obtain rfl : r_45 = nI sh := hw_47
          exact hret (nI sh) (h, F_28, va_up V_29 0 0) H locs 98 ls rfl dX4_shot_98 (by
                        refine ⟨?_, rfl, ?_⟩
                        · (try dsimp only)
                          first | done | exact trivial
                        · (try dsimp only)
                          exact ⟨⟨hV_38, by omega⟩, ⟨hV_39, by omega⟩, ⟨hV_40, by omega⟩, ⟨hV_41, by omega⟩, ⟨hV_42, by omega⟩, ⟨hV_43, by omega⟩, ⟨hV_44, by omega⟩, ⟨(sh + 1), hV_32, by omega⟩, ⟨hN_33, bSo⟩, ⟨hN_34, bHh⟩, ⟨hN_35, bWd⟩, ⟨hN_36, bLm⟩, ⟨hN_37, bPr⟩, by omega, hGP, hSU, GC_cong hGC (hf_30 5 (by decide)) (hf_30 6 (by decide)) (hf_30 7 (by decide)) (hf_30 8 (by decide)), (fun i hi => (congrFun (hf_30 10 (by decide)) i).trans (hF10 i hi)), (fun i hi => (congrFun (hf_30 11 (by decide)) i).trans (hF11 i hi)), KC_cong hKC (hf_30 19 (by decide)) (hf_30 20 (by decide)), ((Eq.trans (show (va_up V_29 0 0) 7 = V_29 7 from rfl) (hv_31 7 (by decide) (by decide)))).trans hE, PLC_cong hPL (Eq.trans (show (va_up V_29 0 0) 8 = V_29 8 from rfl) (hv_31 8 (by decide) (by decide)))⟩) (hP) (hD) hS
        · have c_24 : ¬ sh < 12 := fun h => c_24 ((nI_ltI (a := sh) (b := 12) (by omega) (by omega)).mpr h)
          refine lv_aload_n hx hb dX4_shot_78 rfl (lv_at hl 1 rfl) ?_
          refine lv_iconst (v := 3) hx hb dX4_shot_79 (by decide) ?_
          refine cw_Vi (As := [.int 3]) (rest := []) (c_X4_refused l dC dI cI cZ cJ h F V 3) fx (cwV 1 hts gX4_shot_X4_refused rfl rfl rfl (by decide +kernel) ⟨Nat.le_of_ble_eq_true rfl, Nat.le_of_ble_eq_true rfl⟩) hK hP hD hS hA 0 rfl rfl rfl rfl hl.1 rfl (Nat.le_of_ble_eq_true rfl) dX4_shot_80 ⟨Nat.le_of_ble_eq_true rfl, Nat.le_of_ble_eq_true rfl⟩ (fun r_48 u_49 H locs hw_50 hP hD hS => ?_)
          have hP : va_P (dC, dI) vwCl (wC cI cZ h F (va_up V 0 3)) H := hP
          have hD : va_D A (wC cI cZ h F (va_up V 0 3)) := hD
          obtain rfl : r_48 = (-1) := hw_50
          exact hret (-1) (h, F, va_up V 0 3) H locs 83 ls rfl dX4_shot_83 (by
                        refine ⟨?_, rfl, ?_⟩
                        · (try dsimp only)
                          first | done | exact trivial
                        · (try dsimp only)
                          exact ⟨⟨hV1, by omega⟩, ⟨hV2, by omega⟩, ⟨hV3, by omega⟩, ⟨hV4, by omega⟩, ⟨hV5, by omega⟩, ⟨hV6, by omega⟩, ⟨hV9, by omega⟩, ⟨sh, hV11, by omega⟩, ⟨hSo, bSo⟩, ⟨hHh, bHh⟩, ⟨hWd, bWd⟩, ⟨hLm, bLm⟩, ⟨hPr, bPr⟩, by omega, hGP, hSU, GC_cong hGC (Eq.refl (F 5)) (Eq.refl (F 6)) (Eq.refl (F 7)) (Eq.refl (F 8)), (fun i hi => (congrFun (Eq.refl (F 10)) i).trans (hF10 i hi)), (fun i hi => (congrFun (Eq.refl (F 11)) i).trans (hF11 i hi)), KC_cong hKC (Eq.refl (F 19)) (Eq.refl (F 20)), ((show (va_up V 0 3) 7 = V 7 from rfl)).trans hE, PLC_cong hPL (show (va_up V 0 3) 8 = V 8 from rfl)⟩) (hP) (hD) hS
      · have c_20 : eqI (lg_cmp z_19 0) 0 = false := decide_eq_false c_20
        refine lv_aload_n hx hb dX4_shot_60 rfl (lv_at hl 1 rfl) ?_
        refine lv_iconst (v := 4) hx hb dX4_shot_61 (by decide) ?_
        refine cw_Vi (As := [.int 4]) (rest := []) (c_X4_refused l dC dI cI cZ cJ h F V 4) fx (cwV 1 hts gX4_shot_X4_refused rfl rfl rfl (by decide +kernel) ⟨Nat.le_of_ble_eq_true rfl, Nat.le_of_ble_eq_true rfl⟩) hK hP hD hS hA 0 rfl rfl rfl rfl hl.1 rfl (Nat.le_of_ble_eq_true rfl) dX4_shot_62 ⟨Nat.le_of_ble_eq_true rfl, Nat.le_of_ble_eq_true rfl⟩ (fun r_51 u_52 H locs hw_53 hP hD hS => ?_)
        have hP : va_P (dC, dI) vwCl (wC cI cZ h F (va_up V 0 4)) H := hP
        have hD : va_D A (wC cI cZ h F (va_up V 0 4)) := hD
        obtain rfl : r_51 = (-1) := hw_53
        exact hret (-1) (h, F, va_up V 0 4) H locs 65 ls rfl dX4_shot_65 (by
                      refine ⟨?_, rfl, ?_⟩
                      · (try dsimp only)
                        first | done | exact trivial
                      · (try dsimp only)
                        exact ⟨⟨hV1, by omega⟩, ⟨hV2, by omega⟩, ⟨hV3, by omega⟩, ⟨hV4, by omega⟩, ⟨hV5, by omega⟩, ⟨hV6, by omega⟩, ⟨hV9, by omega⟩, ⟨sh, hV11, by omega⟩, ⟨hSo, bSo⟩, ⟨hHh, bHh⟩, ⟨hWd, bWd⟩, ⟨hLm, bLm⟩, ⟨hPr, bPr⟩, by omega, hGP, hSU, GC_cong hGC (Eq.refl (F 5)) (Eq.refl (F 6)) (Eq.refl (F 7)) (Eq.refl (F 8)), (fun i hi => (congrFun (Eq.refl (F 10)) i).trans (hF10 i hi)), (fun i hi => (congrFun (Eq.refl (F 11)) i).trans (hF11 i hi)), KC_cong hKC (Eq.refl (F 19)) (Eq.refl (F 20)), ((show (va_up V 0 4) 7 = V 7 from rfl)).trans hE, PLC_cong hPL (show (va_up V 0 4) 8 = V 8 from rfl)⟩) (hP) (hD) hS
  · have c_11 : isW p2 0 x_7 = false := bI_f hw_10 c_11
    refine lv_aload_n hx hb dX4_shot_32 rfl (lv_at hl 1 rfl) ?_
    refine lv_iconst (v := 2) hx hb dX4_shot_33 (by decide) ?_
    refine cw_Vi (As := [.int 2]) (rest := []) (c_X4_refused l dC dI cI cZ cJ h F V 2) fx (cwV 1 hts gX4_shot_X4_refused rfl rfl rfl (by decide +kernel) ⟨Nat.le_of_ble_eq_true rfl, Nat.le_of_ble_eq_true rfl⟩) hK hP hD hS hA 0 rfl rfl rfl rfl hl.1 rfl (Nat.le_of_ble_eq_true rfl) dX4_shot_34 ⟨Nat.le_of_ble_eq_true rfl, Nat.le_of_ble_eq_true rfl⟩ (fun r_54 u_55 H locs hw_56 hP hD hS => ?_)
    have hP : va_P (dC, dI) vwCl (wC cI cZ h F (va_up V 0 2)) H := hP
    have hD : va_D A (wC cI cZ h F (va_up V 0 2)) := hD
    obtain rfl : r_54 = (-1) := hw_56
    exact hret (-1) (h, F, va_up V 0 2) H locs 37 ls rfl dX4_shot_37 (by
                  refine ⟨?_, rfl, ?_⟩
                  · (try dsimp only)
                    first | done | exact trivial
                  · (try dsimp only)
                    exact ⟨⟨hV1, by omega⟩, ⟨hV2, by omega⟩, ⟨hV3, by omega⟩, ⟨hV4, by omega⟩, ⟨hV5, by omega⟩, ⟨hV6, by omega⟩, ⟨hV9, by omega⟩, ⟨sh, hV11, by omega⟩, ⟨hSo, bSo⟩, ⟨hHh, bHh⟩, ⟨hWd, bWd⟩, ⟨hLm, bLm⟩, ⟨hPr, bPr⟩, by omega, hGP, hSU, GC_cong hGC (Eq.refl (F 5)) (Eq.refl (F 6)) (Eq.refl (F 7)) (Eq.refl (F 8)), (fun i hi => (congrFun (Eq.refl (F 10)) i).trans (hF10 i hi)), (fun i hi => (congrFun (Eq.refl (F 11)) i).trans (hF11 i hi)), KC_cong hKC (Eq.refl (F 19)) (Eq.refl (F 20)), ((show (va_up V 0 2) 7 = V 7 from rfl)).trans hE, PLC_cong hPL (show (va_up V 0 2) 8 = V 8 from rfl)⟩) (hP) (hD) hS
def rm_X4_forget : Room := { frames := 2, cells := 0, slots := 0, locals := 44 }
set_option maxHeartbeats 4000000 in
set_option maxRecDepth 100000 in
theorem c_X4_forget (l : Launch) (dC : Nat → ClassId) (dI : Nat → Nat → Nat) (cI cZ cJ : ClassId) (h : Nat → Nat) (F : Nat → Nat → Int32) (V : Nat → Int32) (n : Nat) (hV1 : V 1 = nI n) (bV1 : n ≤ 40) (d : Nat) (hV2 : V 2 = nI d) (bV2 : d ≤ 20) (ks : Nat) (hV3 : V 3 = nI ks) (bV3 : ks ≤ 40) (nw : Nat) (hV4 : V 4 = nI nw) (bV4 : nw ≤ 23) (un : Nat) (hV5 : V 5 = nI un) (bV5 : un ≤ 200) (wm : Nat) (hV6 : V 6 = nI wm) (bV6 : wm ≤ 1) (pf : Nat) (hV9 : V 9 = nI pf) (bV9 : pf ≤ 24) (sh : Nat) (hV11 : V 11 = nI sh) (bV11 : sh ≤ 12) (So : Nat → Nat) (hSo : ∀ i, i < 40 → F 9 i = nI (So i)) (bSo : ∀ i, i < 40 → So i ≤ 90) (Hh : Nat → Nat) (hHh : ∀ i, i < 24 → F 12 i = nI (Hh i)) (bHh : ∀ i, i < 24 → Hh i ≤ 9) (Wd : Nat → Nat) (hWd : ∀ i, i < 24 → F 13 i = nI (Wd i)) (bWd : ∀ i, i < 24 → Wd i ≤ 99) (Lm : Nat → Nat) (hLm : ∀ i, i < 4 → F 14 i = nI (Lm i)) (bLm : ∀ i, i < 4 → Lm i ≤ 10000) (Pr : Nat → Nat) (hPr : ∀ i, i < 24 → F 23 i = nI (Pr i)) (bPr : ∀ i, i < 24 → Pr i ≤ 999)   (X Y : Nat → Nat) (SX SY Kc Kp : Nat → Int32) (er : Int32) (rb : Nat → Bool) (hkn : ks ≤ n) (hGP : GP n X Y) (hSU : SUN SX SY) (hGC : GC n X Y F) (hF10 : ∀ i, i < 24 → F 10 i = SX i) (hF11 : ∀ i, i < 24 → F 11 i = SY i) (hKC : KC ks Kc Kp F) (hE : V 7 = er) (hPL : PLC pf rb V) : CtI l (dC, dI) vwCl (tys3 cI cZ cJ) yX4_forget wsX4_forget rm_X4_forget [.ref (h 0)] (wC cI cZ h F V) (S := (Nat → Nat) × (Nat → Nat → Int32) × (Nat → Int32)) (fun r u => (True) ∧ u.1 0 = h 0 ∧ VC n d ks nw un wm pf So Hh Wd Lm Pr X Y SX SY Kc Kp er rb u.2.1 u.2.2) (fun u => wC cI cZ u.1 u.2.1 u.2.2) 0 0 := by
  refine ct_I (cc := cX4_forget) (maxL := 1) (ty := .int) (own := RX4) (by decide) rfl rfl (Nat.le_of_ble_eq_true rfl) (lv := [(0, .ref (h 0))]) rfl ?_
  intro p e s m args below meth c A Q ls fx hK hP hD hA hl hret
  obtain ⟨hx, hb, hml, hown, hts⟩ := id fx
  have hS : va_S A s.heap s.heap [] := va_S.rf
  have hw0 := hts (.fieldLink RX4 37 "MirrorTower" "shots" "LMirrorTower$Shots;") (by decide +kernel)
  have hin_X4 : ∀ w ∈ u_ws RX4 TX4 5, w ∈ wsX4_forget := by decide +kernel
  obtain ⟨H, hH⟩ : ∃ H, H = s.heap := ⟨_, rfl⟩
  rw [← hH] at hP ⊢
  have hS : va_S A s.heap H [] := by rw [hH]; exact hS
  generalize ([] : List Loc) = locs at hS ⊢
  refine lv_aload_n hx hb dX4_forget_0 rfl (lv_at hl 0 rfl) ?_
  refine va_get (D := (dC, dI)) (ci := 4) (v := .ref (h 4)) (C := RX4) (T := TX4) (N := 5) hx hb hts hin_X4 hown hK hP 0 rfl rfl 3 (by decide) hw0 (fun _ h9 => h9) rfl dX4_forget_1 ?_
  refine cw_Vi (As := []) (rest := []) (c_X2_drop l dC dI cI cZ cJ h F V sh hV11 (by omega)) fx (cwV 0 hts gX4_forget_X2_drop rfl rfl rfl (by decide +kernel) ⟨Nat.le_of_ble_eq_true rfl, Nat.le_of_ble_eq_true rfl⟩) hK hP hD hS hA 4 rfl rfl rfl rfl hl.1 rfl (Nat.le_of_ble_eq_true rfl) dX4_forget_4 ⟨Nat.le_of_ble_eq_true rfl, Nat.le_of_ble_eq_true rfl⟩ (fun r_1 u_2 H locs hw_3 hP hD hS => ?_)
  obtain ⟨F_4, rfl⟩ : ∃ z, z = u_2 := ⟨_, rfl⟩
  have hf_5 : ∀ j, j ∉ ([29] : List Nat) → F_4 j = F j := hw_3.2.1
  have hP : va_P (dC, dI) vwCl (wC cI cZ h F_4 (va_up (va_up V 10 0) 11 0)) H := hP
  have hD : va_D A (wC cI cZ h F_4 (va_up (va_up V 10 0) 11 0)) := hD
  have hN_6 : ∀ i, i < 40 → F_4 9 i = nI (So i) := by rw [hf_5 9 (by decide)]; exact hSo
  have hN_7 : ∀ i, i < 24 → F_4 12 i = nI (Hh i) := by rw [hf_5 12 (by decide)]; exact hHh
  have hN_8 : ∀ i, i < 24 → F_4 13 i = nI (Wd i) := by rw [hf_5 13 (by decide)]; exact hWd
  have hN_9 : ∀ i, i < 4 → F_4 14 i = nI (Lm i) := by rw [hf_5 14 (by decide)]; exact hLm
  have hN_10 : ∀ i, i < 24 → F_4 23 i = nI (Pr i) := by rw [hf_5 23 (by decide)]; exact hPr
  exact hret r_1 (h, F_4, va_up (va_up V 10 0) 11 0) H locs 7 ls rfl dX4_forget_7 (by
                refine ⟨?_, rfl, ?_⟩
                · (try dsimp only)
                  first | done | exact trivial
                · (try dsimp only)
                  exact ⟨⟨hV1, by omega⟩, ⟨hV2, by omega⟩, ⟨hV3, by omega⟩, ⟨hV4, by omega⟩, ⟨hV5, by omega⟩, ⟨hV6, by omega⟩, ⟨hV9, by omega⟩, ⟨0, rfl, by omega⟩, ⟨hN_6, bSo⟩, ⟨hN_7, bHh⟩, ⟨hN_8, bWd⟩, ⟨hN_9, bLm⟩, ⟨hN_10, bPr⟩, by omega, hGP, hSU, GC_cong hGC (hf_5 5 (by decide)) (hf_5 6 (by decide)) (hf_5 7 (by decide)) (hf_5 8 (by decide)), (fun i hi => (congrFun (hf_5 10 (by decide)) i).trans (hF10 i hi)), (fun i hi => (congrFun (hf_5 11 (by decide)) i).trans (hF11 i hi)), KC_cong hKC (hf_5 19 (by decide)) (hf_5 20 (by decide)), ((show (va_up (va_up V 10 0) 11 0) 7 = V 7 from rfl)).trans hE, PLC_cong hPL (show (va_up (va_up V 10 0) 11 0) 8 = V 8 from rfl)⟩) (hP) (hD) hS
def rm_X4_agree : Room := { frames := 3, cells := 0, slots := 0, locals := 67 }
set_option maxHeartbeats 4000000 in
set_option maxRecDepth 100000 in
theorem c_X4_agree (l : Launch) (dC : Nat → ClassId) (dI : Nat → Nat → Nat) (cI cZ cJ : ClassId) (h : Nat → Nat) (F : Nat → Nat → Int32) (V : Nat → Int32) (n : Nat) (hV1 : V 1 = nI n) (bV1 : n ≤ 40) (d : Nat) (hV2 : V 2 = nI d) (bV2 : d ≤ 20) (ks : Nat) (hV3 : V 3 = nI ks) (bV3 : ks ≤ 40) (nw : Nat) (hV4 : V 4 = nI nw) (bV4 : nw ≤ 23) (un : Nat) (hV5 : V 5 = nI un) (bV5 : un ≤ 200) (wm : Nat) (hV6 : V 6 = nI wm) (bV6 : wm ≤ 1) (pf : Nat) (hV9 : V 9 = nI pf) (bV9 : pf ≤ 24) (sh : Nat) (hV11 : V 11 = nI sh) (bV11 : sh ≤ 12) (So : Nat → Nat) (hSo : ∀ i, i < 40 → F 9 i = nI (So i)) (bSo : ∀ i, i < 40 → So i ≤ 90) (Hh : Nat → Nat) (hHh : ∀ i, i < 24 → F 12 i = nI (Hh i)) (bHh : ∀ i, i < 24 → Hh i ≤ 9) (Wd : Nat → Nat) (hWd : ∀ i, i < 24 → F 13 i = nI (Wd i)) (bWd : ∀ i, i < 24 → Wd i ≤ 99) (Lm : Nat → Nat) (hLm : ∀ i, i < 4 → F 14 i = nI (Lm i)) (bLm : ∀ i, i < 4 → Lm i ≤ 10000) (Pr : Nat → Nat) (hPr : ∀ i, i < 24 → F 23 i = nI (Pr i)) (bPr : ∀ i, i < 24 → Pr i ≤ 999)   (X Y : Nat → Nat) (SX SY Kc Kp : Nat → Int32) (er : Int32) (rb : Nat → Bool) (hkn : ks ≤ n) (hGP : GP n X Y) (hSU : SUN SX SY) (hGC : GC n X Y F) (hF10 : ∀ i, i < 24 → F 10 i = SX i) (hF11 : ∀ i, i < 24 → F 11 i = SY i) (hKC : KC ks Kc Kp F) (hE : V 7 = er) (hPL : PLC pf rb V) : CtI l (dC, dI) vwCl (tys3 cI cZ cJ) yX4_agree wsX4_agree rm_X4_agree [.ref (h 0)] (wC cI cZ h F V) (S := (Nat → Nat) × (Nat → Nat → Int32) × (Nat → Int32)) (fun r u => (True) ∧ u.1 0 = h 0 ∧ VC n d ks nw un wm pf So Hh Wd Lm Pr X Y SX SY Kc Kp er rb u.2.1 u.2.2) (fun u => wC cI cZ u.1 u.2.1 u.2.2) 0 0 := by
  refine ct_I (cc := cX4_agree) (maxL := 1) (ty := .int) (own := RX4) (by decide) rfl rfl (Nat.le_of_ble_eq_true rfl) (lv := [(0, .ref (h 0))]) rfl ?_
  intro p e s m args below meth c A Q ls fx hK hP hD hA hl hret
  obtain ⟨hx, hb, hml, hown, hts⟩ := id fx
  have hS : va_S A s.heap s.heap [] := va_S.rf
  have hw0 := hts (.fieldLink RX4 37 "MirrorTower" "shots" "LMirrorTower$Shots;") (by decide +kernel)
  have hin_X4 : ∀ w ∈ u_ws RX4 TX4 5, w ∈ wsX4_agree := by decide +kernel
  have hw2 := hts (.fieldLink RX4 10 "MirrorTower" "field" "LMirrorTower$Field;") (by decide +kernel)
  obtain ⟨H, hH⟩ : ∃ H, H = s.heap := ⟨_, rfl⟩
  rw [← hH] at hP ⊢
  have hS : va_S A s.heap H [] := by rw [hH]; exact hS
  generalize ([] : List Loc) = locs at hS ⊢
  refine lv_aload_n hx hb dX4_agree_0 rfl (lv_at hl 0 rfl) ?_
  refine va_get (D := (dC, dI)) (ci := 4) (v := .ref (h 4)) (C := RX4) (T := TX4) (N := 5) hx hb hts hin_X4 hown hK hP 0 rfl rfl 3 (by decide) hw0 (fun _ h9 => h9) rfl dX4_agree_1 ?_
  refine lv_aload_n hx hb dX4_agree_4 rfl (lv_at hl 0 rfl) ?_
  refine va_get (D := (dC, dI)) (ci := 4) (v := .ref (h 1)) (C := RX4) (T := TX4) (N := 5) hx hb hts hin_X4 hown hK hP 0 rfl rfl 0 (by decide) hw2 (fun _ h9 => h9) rfl dX4_agree_5 ?_
  refine cw_Vi (As := []) (rest := [.ref (h 4)]) (c_X1_size l dC dI cI cZ cJ h F V) fx (cwV 0 hts gX4_agree_X1_size rfl rfl rfl (by decide +kernel) ⟨Nat.le_of_ble_eq_true rfl, Nat.le_of_ble_eq_true rfl⟩) hK hP hD hS hA 1 rfl rfl rfl rfl hl.1 rfl (Nat.le_of_ble_eq_true rfl) dX4_agree_8 ⟨Nat.le_of_ble_eq_true rfl, Nat.le_of_ble_eq_true rfl⟩ (fun r_1 u_2 H locs hw_3 hP hD hS => ?_)
  have hP : va_P (dC, dI) vwCl (wC cI cZ h F V) H := hP
  have hD : va_D A (wC cI cZ h F V) := hD
  obtain rfl : r_1 = nI n := Eq.trans hw_3 hV1
  refine cw_Vi (As := [.int (nI n)]) (rest := []) (c_X2_setsOf l dC dI cI cZ cJ h F V n (by omega)) fx (cwV 1 hts gX4_agree_X2_setsOf rfl rfl rfl (by decide +kernel) ⟨Nat.le_of_ble_eq_true rfl, Nat.le_of_ble_eq_true rfl⟩) hK hP hD hS hA 4 rfl rfl rfl rfl hl.1 rfl (Nat.le_of_ble_eq_true rfl) dX4_agree_11 ⟨Nat.le_of_ble_eq_true rfl, Nat.le_of_ble_eq_true rfl⟩ (fun r_4 u_5 H locs hw_6 hP hD hS => ?_)
  obtain ⟨F_7, V_8⟩ := u_5
  have hf_9 : ∀ j, j ∉ ([30] : List Nat) → F_7 j = F j := hw_6.1
  have hv_10 : ∀ j, j ≠ 12 → V_8 j = V j := hw_6.2
  have hP : va_P (dC, dI) vwCl (wC cI cZ h F_7 V_8) H := hP
  have hD : va_D A (wC cI cZ h F_7 V_8) := hD
  have hN_11 : ∀ i, i < 40 → F_7 9 i = nI (So i) := by rw [hf_9 9 (by decide)]; exact hSo
  have hN_12 : ∀ i, i < 24 → F_7 12 i = nI (Hh i) := by rw [hf_9 12 (by decide)]; exact hHh
  have hN_13 : ∀ i, i < 24 → F_7 13 i = nI (Wd i) := by rw [hf_9 13 (by decide)]; exact hWd
  have hN_14 : ∀ i, i < 4 → F_7 14 i = nI (Lm i) := by rw [hf_9 14 (by decide)]; exact hLm
  have hN_15 : ∀ i, i < 24 → F_7 23 i = nI (Pr i) := by rw [hf_9 23 (by decide)]; exact hPr
  have hV_16 : V_8 1 = nI n := by rw [hv_10 1 (by decide)]; exact hV1
  have hV_17 : V_8 2 = nI d := by rw [hv_10 2 (by decide)]; exact hV2
  have hV_18 : V_8 3 = nI ks := by rw [hv_10 3 (by decide)]; exact hV3
  have hV_19 : V_8 4 = nI nw := by rw [hv_10 4 (by decide)]; exact hV4
  have hV_20 : V_8 5 = nI un := by rw [hv_10 5 (by decide)]; exact hV5
  have hV_21 : V_8 6 = nI wm := by rw [hv_10 6 (by decide)]; exact hV6
  have hV_22 : V_8 9 = nI pf := by rw [hv_10 9 (by decide)]; exact hV9
  have hV_23 : V_8 11 = nI sh := by rw [hv_10 11 (by decide)]; exact hV11
  exact hret r_4 (h, F_7, V_8) H locs 14 ls rfl dX4_agree_14 (by
                refine ⟨?_, rfl, ?_⟩
                · (try dsimp only)
                  first | done | exact trivial
                · (try dsimp only)
                  exact ⟨⟨hV_16, by omega⟩, ⟨hV_17, by omega⟩, ⟨hV_18, by omega⟩, ⟨hV_19, by omega⟩, ⟨hV_20, by omega⟩, ⟨hV_21, by omega⟩, ⟨hV_22, by omega⟩, ⟨sh, hV_23, by omega⟩, ⟨hN_11, bSo⟩, ⟨hN_12, bHh⟩, ⟨hN_13, bWd⟩, ⟨hN_14, bLm⟩, ⟨hN_15, bPr⟩, by omega, hGP, hSU, GC_cong hGC (hf_9 5 (by decide)) (hf_9 6 (by decide)) (hf_9 7 (by decide)) (hf_9 8 (by decide)), (fun i hi => (congrFun (hf_9 10 (by decide)) i).trans (hF10 i hi)), (fun i hi => (congrFun (hf_9 11 (by decide)) i).trans (hF11 i hi)), KC_cong hKC (hf_9 19 (by decide)) (hf_9 20 (by decide)), ((hv_10 7 (by decide))).trans hE, PLC_cong hPL (hv_10 8 (by decide))⟩) (hP) (hD) hS
def rm_X4_stuck : Room := { frames := 3, cells := 0, slots := 0, locals := 68 }
set_option maxHeartbeats 4000000 in
set_option maxRecDepth 100000 in
theorem c_X4_stuck (l : Launch) (dC : Nat → ClassId) (dI : Nat → Nat → Nat) (cI cZ cJ : ClassId) (h : Nat → Nat) (F : Nat → Nat → Int32) (V : Nat → Int32) (n : Nat) (hV1 : V 1 = nI n) (bV1 : n ≤ 40) (d : Nat) (hV2 : V 2 = nI d) (bV2 : d ≤ 20) (ks : Nat) (hV3 : V 3 = nI ks) (bV3 : ks ≤ 40) (nw : Nat) (hV4 : V 4 = nI nw) (bV4 : nw ≤ 23) (un : Nat) (hV5 : V 5 = nI un) (bV5 : un ≤ 200) (wm : Nat) (hV6 : V 6 = nI wm) (bV6 : wm ≤ 1) (pf : Nat) (hV9 : V 9 = nI pf) (bV9 : pf ≤ 24) (sh : Nat) (hV11 : V 11 = nI sh) (bV11 : sh ≤ 12) (So : Nat → Nat) (hSo : ∀ i, i < 40 → F 9 i = nI (So i)) (bSo : ∀ i, i < 40 → So i ≤ 90) (Hh : Nat → Nat) (hHh : ∀ i, i < 24 → F 12 i = nI (Hh i)) (bHh : ∀ i, i < 24 → Hh i ≤ 9) (Wd : Nat → Nat) (hWd : ∀ i, i < 24 → F 13 i = nI (Wd i)) (bWd : ∀ i, i < 24 → Wd i ≤ 99) (Lm : Nat → Nat) (hLm : ∀ i, i < 4 → F 14 i = nI (Lm i)) (bLm : ∀ i, i < 4 → Lm i ≤ 10000) (Pr : Nat → Nat) (hPr : ∀ i, i < 24 → F 23 i = nI (Pr i)) (bPr : ∀ i, i < 24 → Pr i ≤ 999) (p0 : Int32)  (X Y : Nat → Nat) (SX SY Kc Kp : Nat → Int32) (er : Int32) (rb : Nat → Bool) (hkn : ks ≤ n) (hGP : GP n X Y) (hSU : SUN SX SY) (hGC : GC n X Y F) (hF10 : ∀ i, i < 24 → F 10 i = SX i) (hF11 : ∀ i, i < 24 → F 11 i = SY i) (hKC : KC ks Kc Kp F) (hE : V 7 = er) (hPL : PLC pf rb V) : CtI l (dC, dI) vwCl (tys3 cI cZ cJ) yX4_stuck wsX4_stuck rm_X4_stuck [.ref (h 0), .int p0] (wC cI cZ h F V) (S := (Nat → Nat) × (Nat → Nat → Int32) × (Nat → Int32)) (fun r u => (True) ∧ u.1 0 = h 0 ∧ VC n d ks nw un wm pf So Hh Wd Lm Pr X Y SX SY Kc Kp er rb u.2.1 u.2.2) (fun u => wC cI cZ u.1 u.2.1 u.2.2) 0 0 := by
  refine ct_I (cc := cX4_stuck) (maxL := 2) (ty := .int) (own := RX4) (by decide) rfl rfl (Nat.le_of_ble_eq_true rfl) (lv := [(0, .ref (h 0)), (1, .int p0)]) rfl ?_
  intro p e s m args below meth c A Q ls fx hK hP hD hA hl hret
  obtain ⟨hx, hb, hml, hown, hts⟩ := id fx
  have hS : va_S A s.heap s.heap [] := va_S.rf
  have hw0 := hts (.fieldLink RX4 37 "MirrorTower" "shots" "LMirrorTower$Shots;") (by decide +kernel)
  have hin_X4 : ∀ w ∈ u_ws RX4 TX4 5, w ∈ wsX4_stuck := by decide +kernel
  have hw2 := hts (.fieldLink RX4 10 "MirrorTower" "field" "LMirrorTower$Field;") (by decide +kernel)
  obtain ⟨H, hH⟩ : ∃ H, H = s.heap := ⟨_, rfl⟩
  rw [← hH] at hP ⊢
  have hS : va_S A s.heap H [] := by rw [hH]; exact hS
  generalize ([] : List Loc) = locs at hS ⊢
  refine lv_aload_n hx hb dX4_stuck_0 rfl (lv_at hl 0 rfl) ?_
  refine lv_iload_n hx hb dX4_stuck_1 rfl (lv_at hl 1 rfl) ?_
  refine cw_Vi (As := [.int p0]) (rest := []) (c_X4_isMirror l dC dI cI cZ cJ h F V n hV1 (by omega) p0) fx (cwV 1 hts gX4_stuck_X4_isMirror rfl rfl rfl (by decide +kernel) ⟨Nat.le_of_ble_eq_true rfl, Nat.le_of_ble_eq_true rfl⟩) hK hP hD hS hA 0 rfl rfl rfl rfl hl.1 rfl (Nat.le_of_ble_eq_true rfl) dX4_stuck_2 ⟨Nat.le_of_ble_eq_true rfl, Nat.le_of_ble_eq_true rfl⟩ (fun r_1 u_2 H locs hw_3 hP hD hS => ?_)
  have hP : va_P (dC, dI) vwCl (wC cI cZ h F V) H := hP
  have hD : va_D A (wC cI cZ h F V) := hD
  have hw_3 : r_1 = bI (isW p0 0 (nI n - 1)) := hw_3
  refine lv_if_eq (tgt := 26) hx hb dX4_stuck_5 (by decide) (fun c_4 => ?_) (fun c_4 => ?_)
  · have c_4 : isW p0 0 (nI n - 1) = false := bI_f hw_3 c_4
    refine lv_iconst (v := (-1)) hx hb dX4_stuck_26 (by decide) ?_
    exact hret (-1) (h, F, V) H locs 27 ls rfl dX4_stuck_27 (by
                  refine ⟨?_, rfl, ?_⟩
                  · (try dsimp only)
                    first | done | exact trivial
                  · (try dsimp only)
                    exact ⟨⟨hV1, by omega⟩, ⟨hV2, by omega⟩, ⟨hV3, by omega⟩, ⟨hV4, by omega⟩, ⟨hV5, by omega⟩, ⟨hV6, by omega⟩, ⟨hV9, by omega⟩, ⟨sh, hV11, by omega⟩, ⟨hSo, bSo⟩, ⟨hHh, bHh⟩, ⟨hWd, bWd⟩, ⟨hLm, bLm⟩, ⟨hPr, bPr⟩, by omega, hGP, hSU, GC_cong hGC (Eq.refl (F 5)) (Eq.refl (F 6)) (Eq.refl (F 7)) (Eq.refl (F 8)), (fun i hi => (congrFun (Eq.refl (F 10)) i).trans (hF10 i hi)), (fun i hi => (congrFun (Eq.refl (F 11)) i).trans (hF11 i hi)), KC_cong hKC (Eq.refl (F 19)) (Eq.refl (F 20)), ((Eq.refl (V 7))).trans hE, PLC_cong hPL (Eq.refl (V 8))⟩) (hP) (hD) hS
  · have c_4 : isW p0 0 (nI n - 1) = true := bI_t hw_3 c_4
    refine lv_aload_n hx hb dX4_stuck_8 rfl (lv_at hl 0 rfl) ?_
    refine va_get (D := (dC, dI)) (ci := 4) (v := .ref (h 4)) (C := RX4) (T := TX4) (N := 5) hx hb hts hin_X4 hown hK hP 0 rfl rfl 3 (by decide) hw0 (fun _ h9 => h9) rfl dX4_stuck_9 ?_
    refine lv_iload_n hx hb dX4_stuck_12 rfl (lv_at hl 1 rfl) ?_
    refine lv_aload_n hx hb dX4_stuck_13 rfl (lv_at hl 0 rfl) ?_
    refine va_get (D := (dC, dI)) (ci := 4) (v := .ref (h 1)) (C := RX4) (T := TX4) (N := 5) hx hb hts hin_X4 hown hK hP 0 rfl rfl 0 (by decide) hw2 (fun _ h9 => h9) rfl dX4_stuck_14 ?_
    refine cw_Vi (As := []) (rest := [.int p0, .ref (h 4)]) (c_X1_size l dC dI cI cZ cJ h F V) fx (cwV 0 hts gX4_stuck_X1_size rfl rfl rfl (by decide +kernel) ⟨Nat.le_of_ble_eq_true rfl, Nat.le_of_ble_eq_true rfl⟩) hK hP hD hS hA 1 rfl rfl rfl rfl hl.1 rfl (Nat.le_of_ble_eq_true rfl) dX4_stuck_17 ⟨Nat.le_of_ble_eq_true rfl, Nat.le_of_ble_eq_true rfl⟩ (fun r_5 u_6 H locs hw_7 hP hD hS => ?_)
    have hP : va_P (dC, dI) vwCl (wC cI cZ h F V) H := hP
    have hD : va_D A (wC cI cZ h F V) := hD
    obtain rfl : r_5 = nI n := Eq.trans hw_7 hV1
    obtain ⟨k0, hk0, rfl⟩ := isW_mir bV1 c_4
    refine cw_Vi (As := [.int (nI k0), .int (nI n)]) (rest := []) (c_X2_verdictOn l dC dI cI cZ cJ h F V k0 n (by omega) (by omega)) fx (cwV 2 hts gX4_stuck_X2_verdictOn rfl rfl rfl (by decide +kernel) ⟨Nat.le_of_ble_eq_true rfl, Nat.le_of_ble_eq_true rfl⟩) hK hP hD hS hA 4 rfl rfl rfl rfl hl.1 rfl (Nat.le_of_ble_eq_true rfl) dX4_stuck_20 ⟨Nat.le_of_ble_eq_true rfl, Nat.le_of_ble_eq_true rfl⟩ (fun r_8 u_9 H locs hw_10 hP hD hS => ?_)
    obtain ⟨F_11, V_12⟩ := u_9
    have hf_13 : ∀ j, j ∉ ([30] : List Nat) → F_11 j = F j := hw_10.1
    have hv_14 : ∀ j, j ≠ 12 → V_12 j = V j := hw_10.2
    have hP : va_P (dC, dI) vwCl (wC cI cZ h F_11 V_12) H := hP
    have hD : va_D A (wC cI cZ h F_11 V_12) := hD
    have hN_15 : ∀ i, i < 40 → F_11 9 i = nI (So i) := by rw [hf_13 9 (by decide)]; exact hSo
    have hN_16 : ∀ i, i < 24 → F_11 12 i = nI (Hh i) := by rw [hf_13 12 (by decide)]; exact hHh
    have hN_17 : ∀ i, i < 24 → F_11 13 i = nI (Wd i) := by rw [hf_13 13 (by decide)]; exact hWd
    have hN_18 : ∀ i, i < 4 → F_11 14 i = nI (Lm i) := by rw [hf_13 14 (by decide)]; exact hLm
    have hN_19 : ∀ i, i < 24 → F_11 23 i = nI (Pr i) := by rw [hf_13 23 (by decide)]; exact hPr
    have hV_20 : V_12 1 = nI n := by rw [hv_14 1 (by decide)]; exact hV1
    have hV_21 : V_12 2 = nI d := by rw [hv_14 2 (by decide)]; exact hV2
    have hV_22 : V_12 3 = nI ks := by rw [hv_14 3 (by decide)]; exact hV3
    have hV_23 : V_12 4 = nI nw := by rw [hv_14 4 (by decide)]; exact hV4
    have hV_24 : V_12 5 = nI un := by rw [hv_14 5 (by decide)]; exact hV5
    have hV_25 : V_12 6 = nI wm := by rw [hv_14 6 (by decide)]; exact hV6
    have hV_26 : V_12 9 = nI pf := by rw [hv_14 9 (by decide)]; exact hV9
    have hV_27 : V_12 11 = nI sh := by rw [hv_14 11 (by decide)]; exact hV11
    refine lv_goto (tgt := 27) hx hb dX4_stuck_23 (by decide) ?_
    exact hret r_8 (h, F_11, V_12) H locs 27 ls rfl dX4_stuck_27 (by
                  refine ⟨?_, rfl, ?_⟩
                  · (try dsimp only)
                    first | done | exact trivial
                  · (try dsimp only)
                    exact ⟨⟨hV_20, by omega⟩, ⟨hV_21, by omega⟩, ⟨hV_22, by omega⟩, ⟨hV_23, by omega⟩, ⟨hV_24, by omega⟩, ⟨hV_25, by omega⟩, ⟨hV_26, by omega⟩, ⟨sh, hV_27, by omega⟩, ⟨hN_15, bSo⟩, ⟨hN_16, bHh⟩, ⟨hN_17, bWd⟩, ⟨hN_18, bLm⟩, ⟨hN_19, bPr⟩, by omega, hGP, hSU, GC_cong hGC (hf_13 5 (by decide)) (hf_13 6 (by decide)) (hf_13 7 (by decide)) (hf_13 8 (by decide)), (fun i hi => (congrFun (hf_13 10 (by decide)) i).trans (hF10 i hi)), (fun i hi => (congrFun (hf_13 11 (by decide)) i).trans (hF11 i hi)), KC_cong hKC (hf_13 19 (by decide)) (hf_13 20 (by decide)), ((hv_14 7 (by decide))).trans hE, PLC_cong hPL (hv_14 8 (by decide))⟩) (hP) (hD) hS
def rm_X4_unsure : Room := { frames := 3, cells := 0, slots := 0, locals := 69 }
set_option maxHeartbeats 4000000 in
set_option maxRecDepth 100000 in
theorem c_X4_unsure (l : Launch) (dC : Nat → ClassId) (dI : Nat → Nat → Nat) (cI cZ cJ : ClassId) (h : Nat → Nat) (F : Nat → Nat → Int32) (V : Nat → Int32) (n : Nat) (hV1 : V 1 = nI n) (bV1 : n ≤ 40) (d : Nat) (hV2 : V 2 = nI d) (bV2 : d ≤ 20) (ks : Nat) (hV3 : V 3 = nI ks) (bV3 : ks ≤ 40) (nw : Nat) (hV4 : V 4 = nI nw) (bV4 : nw ≤ 23) (un : Nat) (hV5 : V 5 = nI un) (bV5 : un ≤ 200) (wm : Nat) (hV6 : V 6 = nI wm) (bV6 : wm ≤ 1) (pf : Nat) (hV9 : V 9 = nI pf) (bV9 : pf ≤ 24) (sh : Nat) (hV11 : V 11 = nI sh) (bV11 : sh ≤ 12) (So : Nat → Nat) (hSo : ∀ i, i < 40 → F 9 i = nI (So i)) (bSo : ∀ i, i < 40 → So i ≤ 90) (Hh : Nat → Nat) (hHh : ∀ i, i < 24 → F 12 i = nI (Hh i)) (bHh : ∀ i, i < 24 → Hh i ≤ 9) (Wd : Nat → Nat) (hWd : ∀ i, i < 24 → F 13 i = nI (Wd i)) (bWd : ∀ i, i < 24 → Wd i ≤ 99) (Lm : Nat → Nat) (hLm : ∀ i, i < 4 → F 14 i = nI (Lm i)) (bLm : ∀ i, i < 4 → Lm i ≤ 10000) (Pr : Nat → Nat) (hPr : ∀ i, i < 24 → F 23 i = nI (Pr i)) (bPr : ∀ i, i < 24 → Pr i ≤ 999)   (X Y : Nat → Nat) (SX SY Kc Kp : Nat → Int32) (er : Int32) (rb : Nat → Bool) (hkn : ks ≤ n) (hGP : GP n X Y) (hSU : SUN SX SY) (hGC : GC n X Y F) (hF10 : ∀ i, i < 24 → F 10 i = SX i) (hF11 : ∀ i, i < 24 → F 11 i = SY i) (hKC : KC ks Kc Kp F) (hE : V 7 = er) (hPL : PLC pf rb V) : CtI l (dC, dI) vwCl (tys3 cI cZ cJ) yX4_unsure wsX4_unsure rm_X4_unsure [.ref (h 0)] (wC cI cZ h F V) (S := (Nat → Nat) × (Nat → Nat → Int32) × (Nat → Int32)) (fun r u => (True) ∧ u.1 0 = h 0 ∧ VC n d ks nw un wm pf So Hh Wd Lm Pr X Y SX SY Kc Kp er rb u.2.1 u.2.2) (fun u => wC cI cZ u.1 u.2.1 u.2.2) 0 0 := by
  refine ct_I (cc := cX4_unsure) (maxL := 1) (ty := .int) (own := RX4) (by decide) rfl rfl (Nat.le_of_ble_eq_true rfl) (lv := [(0, .ref (h 0))]) rfl ?_
  intro p e s m args below meth c A Q ls fx hK hP hD hA hl hret
  obtain ⟨hx, hb, hml, hown, hts⟩ := id fx
  have hS : va_S A s.heap s.heap [] := va_S.rf
  have hw0 := hts (.fieldLink RX4 37 "MirrorTower" "shots" "LMirrorTower$Shots;") (by decide +kernel)
  have hin_X4 : ∀ w ∈ u_ws RX4 TX4 5, w ∈ wsX4_unsure := by decide +kernel
  have hw2 := hts (.fieldLink RX4 10 "MirrorTower" "field" "LMirrorTower$Field;") (by decide +kernel)
  obtain ⟨H, hH⟩ : ∃ H, H = s.heap := ⟨_, rfl⟩
  rw [← hH] at hP ⊢
  have hS : va_S A s.heap H [] := by rw [hH]; exact hS
  generalize ([] : List Loc) = locs at hS ⊢
  refine lv_aload_n hx hb dX4_unsure_0 rfl (lv_at hl 0 rfl) ?_
  refine va_get (D := (dC, dI)) (ci := 4) (v := .ref (h 4)) (C := RX4) (T := TX4) (N := 5) hx hb hts hin_X4 hown hK hP 0 rfl rfl 3 (by decide) hw0 (fun _ h9 => h9) rfl dX4_unsure_1 ?_
  refine lv_aload_n hx hb dX4_unsure_4 rfl (lv_at hl 0 rfl) ?_
  refine va_get (D := (dC, dI)) (ci := 4) (v := .ref (h 1)) (C := RX4) (T := TX4) (N := 5) hx hb hts hin_X4 hown hK hP 0 rfl rfl 0 (by decide) hw2 (fun _ h9 => h9) rfl dX4_unsure_5 ?_
  refine cw_Vi (As := []) (rest := [.ref (h 4)]) (c_X1_size l dC dI cI cZ cJ h F V) fx (cwV 0 hts gX4_unsure_X1_size rfl rfl rfl (by decide +kernel) ⟨Nat.le_of_ble_eq_true rfl, Nat.le_of_ble_eq_true rfl⟩) hK hP hD hS hA 1 rfl rfl rfl rfl hl.1 rfl (Nat.le_of_ble_eq_true rfl) dX4_unsure_8 ⟨Nat.le_of_ble_eq_true rfl, Nat.le_of_ble_eq_true rfl⟩ (fun r_1 u_2 H locs hw_3 hP hD hS => ?_)
  have hP : va_P (dC, dI) vwCl (wC cI cZ h F V) H := hP
  have hD : va_D A (wC cI cZ h F V) := hD
  obtain rfl : r_1 = nI n := Eq.trans hw_3 hV1
  refine cw_Vi (As := [.int (nI n)]) (rest := []) (c_X2_unsureOf l dC dI cI cZ cJ h F V n (by omega)) fx (cwV 1 hts gX4_unsure_X2_unsureOf rfl rfl rfl (by decide +kernel) ⟨Nat.le_of_ble_eq_true rfl, Nat.le_of_ble_eq_true rfl⟩) hK hP hD hS hA 4 rfl rfl rfl rfl hl.1 rfl (Nat.le_of_ble_eq_true rfl) dX4_unsure_11 ⟨Nat.le_of_ble_eq_true rfl, Nat.le_of_ble_eq_true rfl⟩ (fun r_4 u_5 H locs hw_6 hP hD hS => ?_)
  obtain ⟨F_7, V_8⟩ := u_5
  have hf_9 : ∀ j, j ∉ ([30] : List Nat) → F_7 j = F j := hw_6.1
  have hv_10 : ∀ j, j ≠ 12 → V_8 j = V j := hw_6.2
  have hP : va_P (dC, dI) vwCl (wC cI cZ h F_7 V_8) H := hP
  have hD : va_D A (wC cI cZ h F_7 V_8) := hD
  have hN_11 : ∀ i, i < 40 → F_7 9 i = nI (So i) := by rw [hf_9 9 (by decide)]; exact hSo
  have hN_12 : ∀ i, i < 24 → F_7 12 i = nI (Hh i) := by rw [hf_9 12 (by decide)]; exact hHh
  have hN_13 : ∀ i, i < 24 → F_7 13 i = nI (Wd i) := by rw [hf_9 13 (by decide)]; exact hWd
  have hN_14 : ∀ i, i < 4 → F_7 14 i = nI (Lm i) := by rw [hf_9 14 (by decide)]; exact hLm
  have hN_15 : ∀ i, i < 24 → F_7 23 i = nI (Pr i) := by rw [hf_9 23 (by decide)]; exact hPr
  have hV_16 : V_8 1 = nI n := by rw [hv_10 1 (by decide)]; exact hV1
  have hV_17 : V_8 2 = nI d := by rw [hv_10 2 (by decide)]; exact hV2
  have hV_18 : V_8 3 = nI ks := by rw [hv_10 3 (by decide)]; exact hV3
  have hV_19 : V_8 4 = nI nw := by rw [hv_10 4 (by decide)]; exact hV4
  have hV_20 : V_8 5 = nI un := by rw [hv_10 5 (by decide)]; exact hV5
  have hV_21 : V_8 6 = nI wm := by rw [hv_10 6 (by decide)]; exact hV6
  have hV_22 : V_8 9 = nI pf := by rw [hv_10 9 (by decide)]; exact hV9
  have hV_23 : V_8 11 = nI sh := by rw [hv_10 11 (by decide)]; exact hV11
  exact hret r_4 (h, F_7, V_8) H locs 14 ls rfl dX4_unsure_14 (by
                refine ⟨?_, rfl, ?_⟩
                · (try dsimp only)
                  first | done | exact trivial
                · (try dsimp only)
                  exact ⟨⟨hV_16, by omega⟩, ⟨hV_17, by omega⟩, ⟨hV_18, by omega⟩, ⟨hV_19, by omega⟩, ⟨hV_20, by omega⟩, ⟨hV_21, by omega⟩, ⟨hV_22, by omega⟩, ⟨sh, hV_23, by omega⟩, ⟨hN_11, bSo⟩, ⟨hN_12, bHh⟩, ⟨hN_13, bWd⟩, ⟨hN_14, bLm⟩, ⟨hN_15, bPr⟩, by omega, hGP, hSU, GC_cong hGC (hf_9 5 (by decide)) (hf_9 6 (by decide)) (hf_9 7 (by decide)) (hf_9 8 (by decide)), (fun i hi => (congrFun (hf_9 10 (by decide)) i).trans (hF10 i hi)), (fun i hi => (congrFun (hf_9 11 (by decide)) i).trans (hF11 i hi)), KC_cong hKC (hf_9 19 (by decide)) (hf_9 20 (by decide)), ((hv_10 7 (by decide))).trans hE, PLC_cong hPL (hv_10 8 (by decide))⟩) (hP) (hD) hS
def rm_X4_count : Room := { frames := 1, cells := 0, slots := 0, locals := 22 }
set_option maxHeartbeats 4000000 in
set_option maxRecDepth 100000 in
theorem c_X4_count (l : Launch) (dC : Nat → ClassId) (dI : Nat → Nat → Nat) (cI cZ cJ : ClassId) (h : Nat → Nat) (F : Nat → Nat → Int32) (V : Nat → Int32) (n : Nat) (hV1 : V 1 = nI n) (bV1 : n ≤ 40) (d : Nat) (hV2 : V 2 = nI d) (bV2 : d ≤ 20) (ks : Nat) (hV3 : V 3 = nI ks) (bV3 : ks ≤ 40) (nw : Nat) (hV4 : V 4 = nI nw) (bV4 : nw ≤ 23) (un : Nat) (hV5 : V 5 = nI un) (bV5 : un ≤ 200) (wm : Nat) (hV6 : V 6 = nI wm) (bV6 : wm ≤ 1) (pf : Nat) (hV9 : V 9 = nI pf) (bV9 : pf ≤ 24) (sh : Nat) (hV11 : V 11 = nI sh) (bV11 : sh ≤ 12) (So : Nat → Nat) (hSo : ∀ i, i < 40 → F 9 i = nI (So i)) (bSo : ∀ i, i < 40 → So i ≤ 90) (Hh : Nat → Nat) (hHh : ∀ i, i < 24 → F 12 i = nI (Hh i)) (bHh : ∀ i, i < 24 → Hh i ≤ 9) (Wd : Nat → Nat) (hWd : ∀ i, i < 24 → F 13 i = nI (Wd i)) (bWd : ∀ i, i < 24 → Wd i ≤ 99) (Lm : Nat → Nat) (hLm : ∀ i, i < 4 → F 14 i = nI (Lm i)) (bLm : ∀ i, i < 4 → Lm i ≤ 10000) (Pr : Nat → Nat) (hPr : ∀ i, i < 24 → F 23 i = nI (Pr i)) (bPr : ∀ i, i < 24 → Pr i ≤ 999) (p0 : Int32)  (X Y : Nat → Nat) (SX SY Kc Kp : Nat → Int32) (er : Int32) (rb : Nat → Bool) (hkn : ks ≤ n) (hGP : GP n X Y) (hSU : SUN SX SY) (hGC : GC n X Y F) (hF10 : ∀ i, i < 24 → F 10 i = SX i) (hF11 : ∀ i, i < 24 → F 11 i = SY i) (hKC : KC ks Kc Kp F) (hE : V 7 = er) (hPL : PLC pf rb V) : CtI l (dC, dI) vwCl (tys3 cI cZ cJ) yX4_count wsX4_count rm_X4_count [.ref (h 0), .int p0] (wC cI cZ h F V) (S := (Nat → Nat) × (Nat → Nat → Int32) × (Nat → Int32)) (fun r u => (True) ∧ u.1 0 = h 0 ∧ VC n d ks nw un wm pf So Hh Wd Lm Pr X Y SX SY Kc Kp er rb u.2.1 u.2.2) (fun u => wC cI cZ u.1 u.2.1 u.2.2) 0 0 := by
  refine ct_I (cc := cX4_count) (maxL := 2) (ty := .int) (own := RX4) (by decide) rfl rfl (Nat.le_of_ble_eq_true rfl) (lv := [(0, .ref (h 0)), (1, .int p0)]) rfl ?_
  intro p e s m args below meth c A Q ls fx hK hP hD hA hl hret
  obtain ⟨hx, hb, hml, hown, hts⟩ := id fx
  have hS : va_S A s.heap s.heap [] := va_S.rf
  have hw0 := hts (.fieldLink RX4 10 "MirrorTower" "field" "LMirrorTower$Field;") (by decide +kernel)
  have hin_X4 : ∀ w ∈ u_ws RX4 TX4 5, w ∈ wsX4_count := by decide +kernel
  have hw2 := hts (.fieldLink RX4 30 "MirrorTower" "store" "LMirrorTower$Store;") (by decide +kernel)
  have hw3 := hts (.fieldLink RX4 37 "MirrorTower" "shots" "LMirrorTower$Shots;") (by decide +kernel)
  obtain ⟨H, hH⟩ : ∃ H, H = s.heap := ⟨_, rfl⟩
  rw [← hH] at hP ⊢
  have hS : va_S A s.heap H [] := by rw [hH]; exact hS
  generalize ([] : List Loc) = locs at hS ⊢
  refine lv_iload_n hx hb dX4_count_0 rfl (lv_at hl 1 rfl) ?_
  rcases tsw p0 0 5 (by decide) with c_1 | c_1
  · refine lv_tableOut (tgt := 96) hx hb dX4_count_1 c_1 (by decide) ?_
    refine lv_iconst (v := (-1)) hx hb dX4_count_96 (by decide) ?_
    exact hret (-1) (h, F, V) H locs 97 ls rfl dX4_count_97 (by
                  refine ⟨?_, rfl, ?_⟩
                  · (try dsimp only)
                    first | done | exact trivial
                  · (try dsimp only)
                    exact ⟨⟨hV1, by omega⟩, ⟨hV2, by omega⟩, ⟨hV3, by omega⟩, ⟨hV4, by omega⟩, ⟨hV5, by omega⟩, ⟨hV6, by omega⟩, ⟨hV9, by omega⟩, ⟨sh, hV11, by omega⟩, ⟨hSo, bSo⟩, ⟨hHh, bHh⟩, ⟨hWd, bWd⟩, ⟨hLm, bLm⟩, ⟨hPr, bPr⟩, by omega, hGP, hSU, GC_cong hGC (Eq.refl (F 5)) (Eq.refl (F 6)) (Eq.refl (F 7)) (Eq.refl (F 8)), (fun i hi => (congrFun (Eq.refl (F 10)) i).trans (hF10 i hi)), (fun i hi => (congrFun (Eq.refl (F 11)) i).trans (hF11 i hi)), KC_cong hKC (Eq.refl (F 19)) (Eq.refl (F 20)), ((Eq.refl (V 7))).trans hE, PLC_cong hPL (Eq.refl (V 8))⟩) (hP) (hD) hS
  · obtain ⟨j_, hj_, c_1⟩ := c_1
    match j_, hj_, c_1 with
    | 0, _, c_1 =>
      refine lv_tableIn (tgt := 40) (off := 39) hx hb dX4_count_1 (by rw [c_1]; decide) (by rw [c_1]; decide) (by rw [c_1]; rfl) (by decide) ?_
      refine lv_aload_n hx hb dX4_count_40 rfl (lv_at hl 0 rfl) ?_
      refine va_get (D := (dC, dI)) (ci := 4) (v := .ref (h 1)) (C := RX4) (T := TX4) (N := 5) hx hb hts hin_X4 hown hK hP 0 rfl rfl 0 (by decide) hw0 (fun _ h9 => h9) rfl dX4_count_41 ?_
      refine cw_Vi (As := []) (rest := []) (c_X1_size l dC dI cI cZ cJ h F V) fx (cwV 0 hts gX4_count_X1_size rfl rfl rfl (by decide +kernel) ⟨Nat.le_of_ble_eq_true rfl, Nat.le_of_ble_eq_true rfl⟩) hK hP hD hS hA 1 rfl rfl rfl rfl hl.1 rfl (Nat.le_of_ble_eq_true rfl) dX4_count_44 ⟨Nat.le_of_ble_eq_true rfl, Nat.le_of_ble_eq_true rfl⟩ (fun r_2 u_3 H locs hw_4 hP hD hS => ?_)
      have hP : va_P (dC, dI) vwCl (wC cI cZ h F V) H := hP
      have hD : va_D A (wC cI cZ h F V) := hD
      obtain rfl : r_2 = nI n := Eq.trans hw_4 hV1
      exact hret (nI n) (h, F, V) H locs 47 ls rfl dX4_count_47 (by
                    refine ⟨?_, rfl, ?_⟩
                    · (try dsimp only)
                      first | done | exact trivial
                    · (try dsimp only)
                      exact ⟨⟨hV1, by omega⟩, ⟨hV2, by omega⟩, ⟨hV3, by omega⟩, ⟨hV4, by omega⟩, ⟨hV5, by omega⟩, ⟨hV6, by omega⟩, ⟨hV9, by omega⟩, ⟨sh, hV11, by omega⟩, ⟨hSo, bSo⟩, ⟨hHh, bHh⟩, ⟨hWd, bWd⟩, ⟨hLm, bLm⟩, ⟨hPr, bPr⟩, by omega, hGP, hSU, GC_cong hGC (Eq.refl (F 5)) (Eq.refl (F 6)) (Eq.refl (F 7)) (Eq.refl (F 8)), (fun i hi => (congrFun (Eq.refl (F 10)) i).trans (hF10 i hi)), (fun i hi => (congrFun (Eq.refl (F 11)) i).trans (hF11 i hi)), KC_cong hKC (Eq.refl (F 19)) (Eq.refl (F 20)), ((Eq.refl (V 7))).trans hE, PLC_cong hPL (Eq.refl (V 8))⟩) (hP) (hD) hS
    | 1, _, c_1 =>
      refine lv_tableIn (tgt := 48) (off := 47) hx hb dX4_count_1 (by rw [c_1]; decide) (by rw [c_1]; decide) (by rw [c_1]; rfl) (by decide) ?_
      refine lv_aload_n hx hb dX4_count_48 rfl (lv_at hl 0 rfl) ?_
      refine va_get (D := (dC, dI)) (ci := 4) (v := .ref (h 3)) (C := RX4) (T := TX4) (N := 5) hx hb hts hin_X4 hown hK hP 0 rfl rfl 2 (by decide) hw2 (fun _ h9 => h9) rfl dX4_count_49 ?_
      refine cw_Vi (As := []) (rest := []) (c_X3_hourNow l dC dI cI cZ cJ h F V) fx (cwV 0 hts gX4_count_X3_hourNow rfl rfl rfl (by decide +kernel) ⟨Nat.le_of_ble_eq_true rfl, Nat.le_of_ble_eq_true rfl⟩) hK hP hD hS hA 3 rfl rfl rfl rfl hl.1 rfl (Nat.le_of_ble_eq_true rfl) dX4_count_52 ⟨Nat.le_of_ble_eq_true rfl, Nat.le_of_ble_eq_true rfl⟩ (fun r_5 u_6 H locs hw_7 hP hD hS => ?_)
      have hP : va_P (dC, dI) vwCl (wC cI cZ h F V) H := hP
      have hD : va_D A (wC cI cZ h F V) := hD
      obtain rfl : r_5 = nI nw := Eq.trans hw_7 hV4
      exact hret (nI nw) (h, F, V) H locs 55 ls rfl dX4_count_55 (by
                    refine ⟨?_, rfl, ?_⟩
                    · (try dsimp only)
                      first | done | exact trivial
                    · (try dsimp only)
                      exact ⟨⟨hV1, by omega⟩, ⟨hV2, by omega⟩, ⟨hV3, by omega⟩, ⟨hV4, by omega⟩, ⟨hV5, by omega⟩, ⟨hV6, by omega⟩, ⟨hV9, by omega⟩, ⟨sh, hV11, by omega⟩, ⟨hSo, bSo⟩, ⟨hHh, bHh⟩, ⟨hWd, bWd⟩, ⟨hLm, bLm⟩, ⟨hPr, bPr⟩, by omega, hGP, hSU, GC_cong hGC (Eq.refl (F 5)) (Eq.refl (F 6)) (Eq.refl (F 7)) (Eq.refl (F 8)), (fun i hi => (congrFun (Eq.refl (F 10)) i).trans (hF10 i hi)), (fun i hi => (congrFun (Eq.refl (F 11)) i).trans (hF11 i hi)), KC_cong hKC (Eq.refl (F 19)) (Eq.refl (F 20)), ((Eq.refl (V 7))).trans hE, PLC_cong hPL (Eq.refl (V 8))⟩) (hP) (hD) hS
    | 2, _, c_1 =>
      refine lv_tableIn (tgt := 56) (off := 55) hx hb dX4_count_1 (by rw [c_1]; decide) (by rw [c_1]; decide) (by rw [c_1]; rfl) (by decide) ?_
      refine lv_aload_n hx hb dX4_count_56 rfl (lv_at hl 0 rfl) ?_
      refine va_get (D := (dC, dI)) (ci := 4) (v := .ref (h 3)) (C := RX4) (T := TX4) (N := 5) hx hb hts hin_X4 hown hK hP 0 rfl rfl 2 (by decide) hw2 (fun _ h9 => h9) rfl dX4_count_57 ?_
      refine cw_Vi (As := []) (rest := []) (c_X3_unitsHeld l dC dI cI cZ cJ h F V) fx (cwV 0 hts gX4_count_X3_unitsHeld rfl rfl rfl (by decide +kernel) ⟨Nat.le_of_ble_eq_true rfl, Nat.le_of_ble_eq_true rfl⟩) hK hP hD hS hA 3 rfl rfl rfl rfl hl.1 rfl (Nat.le_of_ble_eq_true rfl) dX4_count_60 ⟨Nat.le_of_ble_eq_true rfl, Nat.le_of_ble_eq_true rfl⟩ (fun r_8 u_9 H locs hw_10 hP hD hS => ?_)
      have hP : va_P (dC, dI) vwCl (wC cI cZ h F V) H := hP
      have hD : va_D A (wC cI cZ h F V) := hD
      obtain rfl : r_8 = nI un := Eq.trans hw_10 hV5
      exact hret (nI un) (h, F, V) H locs 63 ls rfl dX4_count_63 (by
                    refine ⟨?_, rfl, ?_⟩
                    · (try dsimp only)
                      first | done | exact trivial
                    · (try dsimp only)
                      exact ⟨⟨hV1, by omega⟩, ⟨hV2, by omega⟩, ⟨hV3, by omega⟩, ⟨hV4, by omega⟩, ⟨hV5, by omega⟩, ⟨hV6, by omega⟩, ⟨hV9, by omega⟩, ⟨sh, hV11, by omega⟩, ⟨hSo, bSo⟩, ⟨hHh, bHh⟩, ⟨hWd, bWd⟩, ⟨hLm, bLm⟩, ⟨hPr, bPr⟩, by omega, hGP, hSU, GC_cong hGC (Eq.refl (F 5)) (Eq.refl (F 6)) (Eq.refl (F 7)) (Eq.refl (F 8)), (fun i hi => (congrFun (Eq.refl (F 10)) i).trans (hF10 i hi)), (fun i hi => (congrFun (Eq.refl (F 11)) i).trans (hF11 i hi)), KC_cong hKC (Eq.refl (F 19)) (Eq.refl (F 20)), ((Eq.refl (V 7))).trans hE, PLC_cong hPL (Eq.refl (V 8))⟩) (hP) (hD) hS
    | 3, _, c_1 =>
      refine lv_tableIn (tgt := 64) (off := 63) hx hb dX4_count_1 (by rw [c_1]; decide) (by rw [c_1]; decide) (by rw [c_1]; rfl) (by decide) ?_
      refine lv_aload_n hx hb dX4_count_64 rfl (lv_at hl 0 rfl) ?_
      refine va_get (D := (dC, dI)) (ci := 4) (v := .ref (h 3)) (C := RX4) (T := TX4) (N := 5) hx hb hts hin_X4 hown hK hP 0 rfl rfl 2 (by decide) hw2 (fun _ h9 => h9) rfl dX4_count_65 ?_
      refine cw_Vi (As := []) (rest := []) (c_X3_isWarm l dC dI cI cZ cJ h F V wm hV6 (by omega)) fx (cwV 0 hts gX4_count_X3_isWarm rfl rfl rfl (by decide +kernel) ⟨Nat.le_of_ble_eq_true rfl, Nat.le_of_ble_eq_true rfl⟩) hK hP hD hS hA 3 rfl rfl rfl rfl hl.1 rfl (Nat.le_of_ble_eq_true rfl) dX4_count_68 ⟨Nat.le_of_ble_eq_true rfl, Nat.le_of_ble_eq_true rfl⟩ (fun r_11 u_12 H locs hw_13 hP hD hS => ?_)
      have hP : va_P (dC, dI) vwCl (wC cI cZ h F V) H := hP
      have hD : va_D A (wC cI cZ h F V) := hD
      obtain rfl : r_11 = nI wm := hw_13
      refine lv_if_eq (tgt := 78) hx hb dX4_count_71 (by decide) (fun c_14 => ?_) (fun c_14 => ?_)
      · have c_14 : wm = 0 := (nI_eq (a := wm) (b := 0) (by omega) (by omega)).mp c_14
        refine lv_iconst (v := 0) hx hb dX4_count_78 (by decide) ?_
        exact hret 0 (h, F, V) H locs 79 ls rfl dX4_count_79 (by
                      refine ⟨?_, rfl, ?_⟩
                      · (try dsimp only)
                        first | done | exact trivial
                      · (try dsimp only)
                        exact ⟨⟨hV1, by omega⟩, ⟨hV2, by omega⟩, ⟨hV3, by omega⟩, ⟨hV4, by omega⟩, ⟨hV5, by omega⟩, ⟨hV6, by omega⟩, ⟨hV9, by omega⟩, ⟨sh, hV11, by omega⟩, ⟨hSo, bSo⟩, ⟨hHh, bHh⟩, ⟨hWd, bWd⟩, ⟨hLm, bLm⟩, ⟨hPr, bPr⟩, by omega, hGP, hSU, GC_cong hGC (Eq.refl (F 5)) (Eq.refl (F 6)) (Eq.refl (F 7)) (Eq.refl (F 8)), (fun i hi => (congrFun (Eq.refl (F 10)) i).trans (hF10 i hi)), (fun i hi => (congrFun (Eq.refl (F 11)) i).trans (hF11 i hi)), KC_cong hKC (Eq.refl (F 19)) (Eq.refl (F 20)), ((Eq.refl (V 7))).trans hE, PLC_cong hPL (Eq.refl (V 8))⟩) (hP) (hD) hS
      · have c_14 : ¬ wm = 0 := fun h => c_14 ((nI_eq (a := wm) (b := 0) (by omega) (by omega)).mpr h)
        refine lv_iconst (v := 1) hx hb dX4_count_74 (by decide) ?_
        refine lv_goto (tgt := 79) hx hb dX4_count_75 (by decide) ?_
        exact hret 1 (h, F, V) H locs 79 ls rfl dX4_count_79 (by
                      refine ⟨?_, rfl, ?_⟩
                      · (try dsimp only)
                        first | done | exact trivial
                      · (try dsimp only)
                        exact ⟨⟨hV1, by omega⟩, ⟨hV2, by omega⟩, ⟨hV3, by omega⟩, ⟨hV4, by omega⟩, ⟨hV5, by omega⟩, ⟨hV6, by omega⟩, ⟨hV9, by omega⟩, ⟨sh, hV11, by omega⟩, ⟨hSo, bSo⟩, ⟨hHh, bHh⟩, ⟨hWd, bWd⟩, ⟨hLm, bLm⟩, ⟨hPr, bPr⟩, by omega, hGP, hSU, GC_cong hGC (Eq.refl (F 5)) (Eq.refl (F 6)) (Eq.refl (F 7)) (Eq.refl (F 8)), (fun i hi => (congrFun (Eq.refl (F 10)) i).trans (hF10 i hi)), (fun i hi => (congrFun (Eq.refl (F 11)) i).trans (hF11 i hi)), KC_cong hKC (Eq.refl (F 19)) (Eq.refl (F 20)), ((Eq.refl (V 7))).trans hE, PLC_cong hPL (Eq.refl (V 8))⟩) (hP) (hD) hS
    | 4, _, c_1 =>
      refine lv_tableIn (tgt := 80) (off := 79) hx hb dX4_count_1 (by rw [c_1]; decide) (by rw [c_1]; decide) (by rw [c_1]; rfl) (by decide) ?_
      refine lv_aload_n hx hb dX4_count_80 rfl (lv_at hl 0 rfl) ?_
      refine va_get (D := (dC, dI)) (ci := 4) (v := .ref (h 4)) (C := RX4) (T := TX4) (N := 5) hx hb hts hin_X4 hown hK hP 0 rfl rfl 3 (by decide) hw3 (fun _ h9 => h9) rfl dX4_count_81 ?_
      refine cw_Vi (As := []) (rest := []) (c_X2_size l dC dI cI cZ cJ h F V) fx (cwV 0 hts gX4_count_X2_size rfl rfl rfl (by decide +kernel) ⟨Nat.le_of_ble_eq_true rfl, Nat.le_of_ble_eq_true rfl⟩) hK hP hD hS hA 4 rfl rfl rfl rfl hl.1 rfl (Nat.le_of_ble_eq_true rfl) dX4_count_84 ⟨Nat.le_of_ble_eq_true rfl, Nat.le_of_ble_eq_true rfl⟩ (fun r_15 u_16 H locs hw_17 hP hD hS => ?_)
      have hP : va_P (dC, dI) vwCl (wC cI cZ h F V) H := hP
      have hD : va_D A (wC cI cZ h F V) := hD
      obtain rfl : r_15 = nI sh := Eq.trans hw_17 hV11
      exact hret (nI sh) (h, F, V) H locs 87 ls rfl dX4_count_87 (by
                    refine ⟨?_, rfl, ?_⟩
                    · (try dsimp only)
                      first | done | exact trivial
                    · (try dsimp only)
                      exact ⟨⟨hV1, by omega⟩, ⟨hV2, by omega⟩, ⟨hV3, by omega⟩, ⟨hV4, by omega⟩, ⟨hV5, by omega⟩, ⟨hV6, by omega⟩, ⟨hV9, by omega⟩, ⟨sh, hV11, by omega⟩, ⟨hSo, bSo⟩, ⟨hHh, bHh⟩, ⟨hWd, bWd⟩, ⟨hLm, bLm⟩, ⟨hPr, bPr⟩, by omega, hGP, hSU, GC_cong hGC (Eq.refl (F 5)) (Eq.refl (F 6)) (Eq.refl (F 7)) (Eq.refl (F 8)), (fun i hi => (congrFun (Eq.refl (F 10)) i).trans (hF10 i hi)), (fun i hi => (congrFun (Eq.refl (F 11)) i).trans (hF11 i hi)), KC_cong hKC (Eq.refl (F 19)) (Eq.refl (F 20)), ((Eq.refl (V 7))).trans hE, PLC_cong hPL (Eq.refl (V 8))⟩) (hP) (hD) hS
    | 5, _, c_1 =>
      refine lv_tableIn (tgt := 88) (off := 87) hx hb dX4_count_1 (by rw [c_1]; decide) (by rw [c_1]; decide) (by rw [c_1]; rfl) (by decide) ?_
      refine lv_aload_n hx hb dX4_count_88 rfl (lv_at hl 0 rfl) ?_
      refine va_get (D := (dC, dI)) (ci := 4) (v := .ref (h 1)) (C := RX4) (T := TX4) (N := 5) hx hb hts hin_X4 hown hK hP 0 rfl rfl 0 (by decide) hw0 (fun _ h9 => h9) rfl dX4_count_89 ?_
      refine cw_Vi (As := []) (rest := []) (c_X1_soilInAll l dC dI cI cZ cJ h F V n hV1 (by omega) So hSo bSo) fx (cwV 0 hts gX4_count_X1_soilInAll rfl rfl rfl (by decide +kernel) ⟨Nat.le_of_ble_eq_true rfl, Nat.le_of_ble_eq_true rfl⟩) hK hP hD hS hA 1 rfl rfl rfl rfl hl.1 rfl (Nat.le_of_ble_eq_true rfl) dX4_count_92 ⟨Nat.le_of_ble_eq_true rfl, Nat.le_of_ble_eq_true rfl⟩ (fun r_18 u_19 H locs hw_20 hP hD hS => ?_)
      have hP : va_P (dC, dI) vwCl (wC cI cZ h F V) H := hP
      have hD : va_D A (wC cI cZ h F V) := hD
      obtain rfl : r_18 = nI (sumN So n) := hw_20
      exact hret (nI (sumN So n)) (h, F, V) H locs 95 ls rfl dX4_count_95 (by
                    refine ⟨?_, rfl, ?_⟩
                    · (try dsimp only)
                      first | done | exact trivial
                    · (try dsimp only)
                      exact ⟨⟨hV1, by omega⟩, ⟨hV2, by omega⟩, ⟨hV3, by omega⟩, ⟨hV4, by omega⟩, ⟨hV5, by omega⟩, ⟨hV6, by omega⟩, ⟨hV9, by omega⟩, ⟨sh, hV11, by omega⟩, ⟨hSo, bSo⟩, ⟨hHh, bHh⟩, ⟨hWd, bWd⟩, ⟨hLm, bLm⟩, ⟨hPr, bPr⟩, by omega, hGP, hSU, GC_cong hGC (Eq.refl (F 5)) (Eq.refl (F 6)) (Eq.refl (F 7)) (Eq.refl (F 8)), (fun i hi => (congrFun (Eq.refl (F 10)) i).trans (hF10 i hi)), (fun i hi => (congrFun (Eq.refl (F 11)) i).trans (hF11 i hi)), KC_cong hKC (Eq.refl (F 19)) (Eq.refl (F 20)), ((Eq.refl (V 7))).trans hE, PLC_cong hPL (Eq.refl (V 8))⟩) (hP) (hD) hS
    | j_ + 6, hj_, _ => exact absurd hj_ (by omega)
def rm_X4_trouble : Room := { frames := 0, cells := 0, slots := 0, locals := 0 }
set_option maxHeartbeats 4000000 in
set_option maxRecDepth 100000 in
theorem c_X4_trouble (l : Launch) (dC : Nat → ClassId) (dI : Nat → Nat → Nat) (cI cZ cJ : ClassId) (h : Nat → Nat) (F : Nat → Nat → Int32) (V : Nat → Int32) (n : Nat) (hV1 : V 1 = nI n) (bV1 : n ≤ 40) (d : Nat) (hV2 : V 2 = nI d) (bV2 : d ≤ 20) (ks : Nat) (hV3 : V 3 = nI ks) (bV3 : ks ≤ 40) (nw : Nat) (hV4 : V 4 = nI nw) (bV4 : nw ≤ 23) (un : Nat) (hV5 : V 5 = nI un) (bV5 : un ≤ 200) (wm : Nat) (hV6 : V 6 = nI wm) (bV6 : wm ≤ 1) (pf : Nat) (hV9 : V 9 = nI pf) (bV9 : pf ≤ 24) (sh : Nat) (hV11 : V 11 = nI sh) (bV11 : sh ≤ 12) (So : Nat → Nat) (hSo : ∀ i, i < 40 → F 9 i = nI (So i)) (bSo : ∀ i, i < 40 → So i ≤ 90) (Hh : Nat → Nat) (hHh : ∀ i, i < 24 → F 12 i = nI (Hh i)) (bHh : ∀ i, i < 24 → Hh i ≤ 9) (Wd : Nat → Nat) (hWd : ∀ i, i < 24 → F 13 i = nI (Wd i)) (bWd : ∀ i, i < 24 → Wd i ≤ 99) (Lm : Nat → Nat) (hLm : ∀ i, i < 4 → F 14 i = nI (Lm i)) (bLm : ∀ i, i < 4 → Lm i ≤ 10000) (Pr : Nat → Nat) (hPr : ∀ i, i < 24 → F 23 i = nI (Pr i)) (bPr : ∀ i, i < 24 → Pr i ≤ 999)   (X Y : Nat → Nat) (SX SY Kc Kp : Nat → Int32) (er : Int32) (rb : Nat → Bool) (hkn : ks ≤ n) (hGP : GP n X Y) (hSU : SUN SX SY) (hGC : GC n X Y F) (hF10 : ∀ i, i < 24 → F 10 i = SX i) (hF11 : ∀ i, i < 24 → F 11 i = SY i) (hKC : KC ks Kc Kp F) (hE : V 7 = er) (hPL : PLC pf rb V) : CtI l (dC, dI) vwCl (tys3 cI cZ cJ) yX4_trouble wsX4_trouble rm_X4_trouble [.ref (h 0)] (wC cI cZ h F V) (S := (Nat → Nat) × (Nat → Nat → Int32) × (Nat → Int32)) (fun r u => (True) ∧ u.1 0 = h 0 ∧ VC n d ks nw un wm pf So Hh Wd Lm Pr X Y SX SY Kc Kp er rb u.2.1 u.2.2) (fun u => wC cI cZ u.1 u.2.1 u.2.2) 0 0 := by
  refine ct_I (cc := cX4_trouble) (maxL := 1) (ty := .int) (own := RX4) (by decide) rfl rfl (Nat.le_of_ble_eq_true rfl) (lv := [(0, .ref (h 0))]) rfl ?_
  intro p e s m args below meth c A Q ls fx hK hP hD hA hl hret
  obtain ⟨hx, hb, hml, hown, hts⟩ := id fx
  have hS : va_S A s.heap s.heap [] := va_S.rf
  have hw0 := hts (.fieldLink RX4 41 "MirrorTower" "trouble" "I") (by decide +kernel)
  have hin_X4 : ∀ w ∈ u_ws RX4 TX4 5, w ∈ wsX4_trouble := by decide +kernel
  obtain ⟨H, hH⟩ : ∃ H, H = s.heap := ⟨_, rfl⟩
  rw [← hH] at hP ⊢
  have hS : va_S A s.heap H [] := by rw [hH]; exact hS
  generalize ([] : List Loc) = locs at hS ⊢
  refine lv_aload_n hx hb dX4_trouble_0 rfl (lv_at hl 0 rfl) ?_
  refine va_get (D := (dC, dI)) (ci := 4) (v := .int (V 0)) (C := RX4) (T := TX4) (N := 5) hx hb hts hin_X4 hown hK hP 0 rfl rfl 4 (by decide) hw0 (fun _ h9 => h9) rfl dX4_trouble_1 ?_
  exact hret (V 0) (h, F, V) H locs 4 ls rfl dX4_trouble_4 (by
                refine ⟨?_, rfl, ?_⟩
                · (try dsimp only)
                  first | done | exact trivial
                · (try dsimp only)
                  exact ⟨⟨hV1, by omega⟩, ⟨hV2, by omega⟩, ⟨hV3, by omega⟩, ⟨hV4, by omega⟩, ⟨hV5, by omega⟩, ⟨hV6, by omega⟩, ⟨hV9, by omega⟩, ⟨sh, hV11, by omega⟩, ⟨hSo, bSo⟩, ⟨hHh, bHh⟩, ⟨hWd, bWd⟩, ⟨hLm, bLm⟩, ⟨hPr, bPr⟩, by omega, hGP, hSU, GC_cong hGC (Eq.refl (F 5)) (Eq.refl (F 6)) (Eq.refl (F 7)) (Eq.refl (F 8)), (fun i hi => (congrFun (Eq.refl (F 10)) i).trans (hF10 i hi)), (fun i hi => (congrFun (Eq.refl (F 11)) i).trans (hF11 i hi)), KC_cong hKC (Eq.refl (F 19)) (Eq.refl (F 20)), ((Eq.refl (V 7))).trans hE, PLC_cong hPL (Eq.refl (V 8))⟩) (hP) (hD) hS
