def rm_X4_step1 : Room := { frames := 6, cells := 0, slots := 0, locals := 133 }
set_option maxHeartbeats 4000000 in
set_option maxRecDepth 100000 in
theorem c_X4_step1 (l : Launch) (dC : Nat → ClassId) (dI : Nat → Nat → Nat) (cI cZ cJ : ClassId) (h : Nat → Nat) (F : Nat → Nat → Int32) (V : Nat → Int32) (n : Nat) (hV1 : V 1 = nI n) (bV1 : n ≤ 40) (d : Nat) (hV2 : V 2 = nI d) (bV2 : d ≤ 20) (ks : Nat) (hV3 : V 3 = nI ks) (bV3 : ks ≤ 40) (nw : Nat) (hV4 : V 4 = nI nw) (bV4 : nw ≤ 23) (un : Nat) (hV5 : V 5 = nI un) (bV5 : un ≤ 200) (wm : Nat) (hV6 : V 6 = nI wm) (bV6 : wm ≤ 1) (pf : Nat) (hV9 : V 9 = nI pf) (bV9 : pf ≤ 24) (sh : Nat) (hV11 : V 11 = nI sh) (bV11 : sh ≤ 12) (So : Nat → Nat) (hSo : ∀ i, i < 40 → F 9 i = nI (So i)) (bSo : ∀ i, i < 40 → So i ≤ 90) (Hh : Nat → Nat) (hHh : ∀ i, i < 24 → F 12 i = nI (Hh i)) (bHh : ∀ i, i < 24 → Hh i ≤ 9) (Wd : Nat → Nat) (hWd : ∀ i, i < 24 → F 13 i = nI (Wd i)) (bWd : ∀ i, i < 24 → Wd i ≤ 99) (Lm : Nat → Nat) (hLm : ∀ i, i < 4 → F 14 i = nI (Lm i)) (bLm : ∀ i, i < 4 → Lm i ≤ 10000) (Pr : Nat → Nat) (hPr : ∀ i, i < 24 → F 23 i = nI (Pr i)) (bPr : ∀ i, i < 24 → Pr i ≤ 999)   (X Y : Nat → Nat) (SX SY Kc Kp : Nat → Int32) (er : Int32) (rb : Nat → Bool) (hkn : ks ≤ n) (hGP : GP n X Y) (hSU : SUN SX SY) (hGC : GC n X Y F) (hF10 : ∀ i, i < 24 → F 10 i = SX i) (hF11 : ∀ i, i < 24 → F 11 i = SY i) (hKC : KC ks Kc Kp F) (hE : V 7 = er) (hPL : PLC pf rb V) : CtI l (dC, dI) vwCl (tys3 cI cZ cJ) yX4_step wsX4_step rm_X4_step1 [.ref (h 0), .int 1] (wC cI cZ h F V) (S := (Nat → Nat) × (Nat → Nat → Int32) × (Nat → Int32)) (fun r u => (r = (bif decide (7 - 2 * wm ≤ min 200 (un + htA (pwA X Y n SX SY Hh So Wd nw 0) Lm n / 100)) then nI (5 * Pr nw) else (-1))) ∧ u.1 0 = h 0 ∧ VC n d ks (bif decide (7 - 2 * wm ≤ min 200 (un + htA (pwA X Y n SX SY Hh So Wd nw 0) Lm n / 100)) then (nw + 1) % 24 else nw) (bif decide (7 - 2 * wm ≤ min 200 (un + htA (pwA X Y n SX SY Hh So Wd nw 0) Lm n / 100)) then (min 200 (un + htA (pwA X Y n SX SY Hh So Wd nw 0) Lm n / 100)) - (7 - 2 * wm) else un) (bif decide (7 - 2 * wm ≤ min 200 (un + htA (pwA X Y n SX SY Hh So Wd nw 0) Lm n / 100)) then 1 else wm) pf (bif decide (7 - 2 * wm ≤ min 200 (un + htA (pwA X Y n SX SY Hh So Wd nw 0) Lm n / 100)) then grow So d n else So) Hh Wd Lm Pr X Y SX SY Kc Kp (bif decide (7 - 2 * wm ≤ min 200 (un + htA (pwA X Y n SX SY Hh So Wd nw 0) Lm n / 100)) then er + nI (5 * Pr nw) else er) rb u.2.1 u.2.2) (fun u => wC cI cZ u.1 u.2.1 u.2.2) 0 0 := by
  refine ct_I (cc := cX4_step) (maxL := 3) (ty := .int) (own := RX4) (by decide) rfl rfl (Nat.le_of_ble_eq_true rfl) (lv := [(0, .ref (h 0)), (1, .int 1)]) rfl ?_
  intro p e s m args below meth c A Q ls fx hK hP hD hA hl hret
  obtain ⟨hx, hb, hml, hown, hts⟩ := id fx
  have hS : va_S A s.heap s.heap [] := va_S.rf
  have hw0 := hts (.fieldLink RX4 30 "MirrorTower" "store" "LMirrorTower$Store;") (by decide +kernel)
  have hin_X4 : ∀ w ∈ u_ws RX4 TX4 5, w ∈ wsX4_step := by decide +kernel
  obtain ⟨H, hH⟩ : ∃ H, H = s.heap := ⟨_, rfl⟩
  rw [← hH] at hP ⊢
  have hS : va_S A s.heap H [] := by rw [hH]; exact hS
  generalize ([] : List Loc) = locs at hS ⊢
  refine lv_aload_n hx hb dX4_step_0 rfl (lv_at hl 0 rfl) ?_
  refine va_get (D := (dC, dI)) (ci := 4) (v := .ref (h 3)) (C := RX4) (T := TX4) (N := 5) hx hb hts hin_X4 hown hK hP 0 rfl rfl 2 (by decide) hw0 (fun _ h9 => h9) rfl dX4_step_1 ?_
  refine lv_iload_n hx hb dX4_step_4 rfl (lv_at hl 1 rfl) ?_
  refine cw_Vi (As := [.int 1]) (rest := []) (c_X3_passHour1 l dC dI cI cZ cJ h F V n hV1 (by omega) d hV2 (by omega) nw hV4 (by omega) un hV5 (by omega) wm hV6 (by omega) So hSo bSo Hh hHh bHh Wd hWd bWd Lm hLm bLm Pr hPr bPr) fx (cwV 1 hts gX4_step_X3_passHour rfl rfl rfl (by decide +kernel) ⟨Nat.le_of_ble_eq_true rfl, Nat.le_of_ble_eq_true rfl⟩) hK hP hD hS hA 3 rfl rfl rfl rfl hl.1 rfl (Nat.le_of_ble_eq_true rfl) dX4_step_5 ⟨Nat.le_of_ble_eq_true rfl, Nat.le_of_ble_eq_true rfl⟩ (fun r_1 u_2 H locs hw_3 hP hD hS => ?_)
  rcases hw_3 with hw_3 | hw_3
  · obtain ⟨F_4, V_5⟩ := u_2
    obtain ⟨hlt_, hr_, hv_, hf_⟩ := hw_3
    obtain rfl : r_1 = (-1) := hr_
    have hv_ : V_5 = V := hv_
    have hf_6 : ∀ j, j ∉ ([15, 16, 17, 18] : List Nat) → F_4 j = F j := hf_
    have hP : va_P (dC, dI) vwCl (wC cI cZ h F_4 V_5) H := hP
    have hD : va_D A (wC cI cZ h F_4 V_5) := hD
    rw [hv_] at hP hD
    have hN_7 : ∀ i, i < 40 → F_4 9 i = nI (So i) := by rw [hf_6 9 (by decide)]; exact hSo
    have hN_8 : ∀ i, i < 24 → F_4 12 i = nI (Hh i) := by rw [hf_6 12 (by decide)]; exact hHh
    have hN_9 : ∀ i, i < 24 → F_4 13 i = nI (Wd i) := by rw [hf_6 13 (by decide)]; exact hWd
    have hN_10 : ∀ i, i < 4 → F_4 14 i = nI (Lm i) := by rw [hf_6 14 (by decide)]; exact hLm
    have hN_11 : ∀ i, i < 24 → F_4 23 i = nI (Pr i) := by rw [hf_6 23 (by decide)]; exact hPr
    refine lv_istore_n (lv' := [(2, .int (-1)), (0, .ref (h 0)), (1, .int 1)]) hx hb dX4_step_8 rfl hl (by decide) rfl (fun ls hl => ?_)
    refine lv_iload_n hx hb dX4_step_9 rfl (lv_at hl 0 rfl) ?_
    refine lv_iconst (v := (-1)) hx hb dX4_step_10 (by decide) ?_
    refine lv_icmp_ne (tgt := 22) hx hb dX4_step_11 (by decide) (fun c_12 => ?_) (fun c_12 => ?_)
    · exact absurd c_12 (by decide)
    · refine lv_aload_n hx hb dX4_step_14 rfl (lv_at hl 1 rfl) ?_
      refine lv_iconst (v := 2) hx hb dX4_step_15 (by decide) ?_
      refine cw_Vi (As := [.int 2]) (rest := []) (c_X4_refused l dC dI cI cZ cJ h F_4 V 2) fx (cwV 1 hts gX4_step_X4_refused rfl rfl rfl (by decide +kernel) ⟨Nat.le_of_ble_eq_true rfl, Nat.le_of_ble_eq_true rfl⟩) hK hP hD hS hA 0 rfl rfl rfl rfl hl.1 rfl (Nat.le_of_ble_eq_true rfl) dX4_step_16 ⟨Nat.le_of_ble_eq_true rfl, Nat.le_of_ble_eq_true rfl⟩ (fun r_13 u_14 H locs hw_15 hP hD hS => ?_)
      have hP : va_P (dC, dI) vwCl (wC cI cZ h F_4 (va_up V 0 2)) H := hP
      have hD : va_D A (wC cI cZ h F_4 (va_up V 0 2)) := hD
      obtain rfl : r_13 = (-1) := hw_15
      refine lv_goto (tgt := 27) hx hb dX4_step_19 (by decide) ?_
      exact hret (-1) (h, F_4, va_up V 0 2) H locs 27 ls rfl dX4_step_27 (by
                    have x1_ := (ah_abs (S := So) (W := Wd) (Lm := Lm) (d := d) (k := 0) hGC hGP hSU hF10 hF11 (bHh nw (by omega)) (show nw < 24 by omega)).1
                    rw [Nat.zero_mul] at x1_
                    rw [← x1_]
                    have hc_ : decide (7 - 2 * wm ≤ min 200 (un + ahF F Hh So Wd Lm d n nw 0 / 100)) = false := decide_eq_false (by omega)
                    refine ⟨?_, rfl, ?_⟩
                    · (try simp only [hc_, cond_true, cond_false])
                      first | done | exact rfl
                    · (try simp only [hc_, cond_true, cond_false])
                      exact ⟨⟨hV1, by omega⟩, ⟨hV2, by omega⟩, ⟨hV3, by omega⟩, ⟨hV4, by omega⟩, ⟨hV5, by omega⟩, ⟨hV6, by omega⟩, ⟨hV9, by omega⟩, ⟨sh, hV11, by omega⟩, ⟨hN_7, bSo⟩, ⟨hN_8, bHh⟩, ⟨hN_9, bWd⟩, ⟨hN_10, bLm⟩, ⟨hN_11, bPr⟩, by omega, hGP, hSU, GC_cong hGC (hf_6 5 (by decide)) (hf_6 6 (by decide)) (hf_6 7 (by decide)) (hf_6 8 (by decide)), (fun i hi => (congrFun (hf_6 10 (by decide)) i).trans (hF10 i hi)), (fun i hi => (congrFun (hf_6 11 (by decide)) i).trans (hF11 i hi)), KC_cong hKC (hf_6 19 (by decide)) (hf_6 20 (by decide)), ((show (va_up V 0 2) 7 = V 7 from rfl)).trans hE, PLC_cong hPL (show (va_up V 0 2) 8 = V 8 from rfl)⟩) (hP) (hD) hS
  · obtain ⟨F_16, V_17⟩ := u_2
    obtain ⟨hlt_, hr_, hv_, hf_, hg_, hb_⟩ := hw_3
    obtain rfl : r_1 = nI (5 * Pr nw) := hr_
    obtain rfl : V_17 = va_up (va_up (va_up (va_up V 5 (nI (min 200 (un + ahF F Hh So Wd Lm d n nw 0 / 100) - (7 - 2 * wm)))) 6 1) 7 (V 7 + nI (5 * Pr nw))) 4 (nI ((nw + 1) % 24)) := hv_
    have hf_18 : ∀ j, j ∉ ([9, 15, 16, 17, 18] : List Nat) → F_16 j = F j := hf_
    have hP : va_P (dC, dI) vwCl (wC cI cZ h F_16 (va_up (va_up (va_up (va_up V 5 (nI (min 200 (un + ahF F Hh So Wd Lm d n nw 0 / 100) - (7 - 2 * wm)))) 6 1) 7 (V 7 + nI (5 * Pr nw))) 4 (nI ((nw + 1) % 24)))) H := hP
    have hD : va_D A (wC cI cZ h F_16 (va_up (va_up (va_up (va_up V 5 (nI (min 200 (un + ahF F Hh So Wd Lm d n nw 0 / 100) - (7 - 2 * wm)))) 6 1) 7 (V 7 + nI (5 * Pr nw))) 4 (nI ((nw + 1) % 24)))) := hD
    have hN_19 : ∀ i, i < 24 → F_16 12 i = nI (Hh i) := by rw [hf_18 12 (by decide)]; exact hHh
    have hN_20 : ∀ i, i < 24 → F_16 13 i = nI (Wd i) := by rw [hf_18 13 (by decide)]; exact hWd
    have hN_21 : ∀ i, i < 4 → F_16 14 i = nI (Lm i) := by rw [hf_18 14 (by decide)]; exact hLm
    have hN_22 : ∀ i, i < 24 → F_16 23 i = nI (Pr i) := by rw [hf_18 23 (by decide)]; exact hPr
    have hN_23 : ∀ i, i < 40 → F_16 9 i = nI (grow So d n i) := hg_
    have bN_24 : ∀ i, i < 40 → grow So d n i ≤ 90 := hb_
    refine lv_istore_n (lv' := [(2, .int (nI (5 * Pr nw))), (0, .ref (h 0)), (1, .int 1)]) hx hb dX4_step_8 rfl hl (by decide) rfl (fun ls hl => ?_)
    refine lv_iload_n hx hb dX4_step_9 rfl (lv_at hl 0 rfl) ?_
    refine lv_iconst (v := (-1)) hx hb dX4_step_10 (by decide) ?_
    refine lv_icmp_ne (tgt := 22) hx hb dX4_step_11 (by decide) (fun c_25 => ?_) (fun c_25 => ?_)
    · have c_25 : eqI (nI (5 * Pr nw)) (-1) = false := decide_eq_false c_25
      refine lv_aload_n hx hb dX4_step_22 rfl (lv_at hl 1 rfl) ?_
      refine lv_iload_n hx hb dX4_step_23 rfl (lv_at hl 0 rfl) ?_
      refine cw_Vi (As := [.int (nI (5 * Pr nw))]) (rest := []) (c_X4_granted l dC dI cI cZ cJ h F_16 (va_up (va_up (va_up (va_up V 5 (nI (min 200 (un + ahF F Hh So Wd Lm d n nw 0 / 100) - (7 - 2 * wm)))) 6 1) 7 (V 7 + nI (5 * Pr nw))) 4 (nI ((nw + 1) % 24))) (nI (5 * Pr nw))) fx (cwV 1 hts gX4_step_X4_granted rfl rfl rfl (by decide +kernel) ⟨Nat.le_of_ble_eq_true rfl, Nat.le_of_ble_eq_true rfl⟩) hK hP hD hS hA 0 rfl rfl rfl rfl hl.1 rfl (Nat.le_of_ble_eq_true rfl) dX4_step_24 ⟨Nat.le_of_ble_eq_true rfl, Nat.le_of_ble_eq_true rfl⟩ (fun r_26 u_27 H locs hw_28 hP hD hS => ?_)
      have hP : va_P (dC, dI) vwCl (wC cI cZ h F_16 (va_up (va_up (va_up (va_up (va_up V 5 (nI (min 200 (un + ahF F Hh So Wd Lm d n nw 0 / 100) - (7 - 2 * wm)))) 6 1) 7 (V 7 + nI (5 * Pr nw))) 4 (nI ((nw + 1) % 24))) 0 0)) H := hP
      have hD : va_D A (wC cI cZ h F_16 (va_up (va_up (va_up (va_up (va_up V 5 (nI (min 200 (un + ahF F Hh So Wd Lm d n nw 0 / 100) - (7 - 2 * wm)))) 6 1) 7 (V 7 + nI (5 * Pr nw))) 4 (nI ((nw + 1) % 24))) 0 0)) := hD
      obtain rfl : r_26 = nI (5 * Pr nw) := hw_28
      exact hret (nI (5 * Pr nw)) (h, F_16, va_up (va_up (va_up (va_up (va_up V 5 (nI (min 200 (un + ahF F Hh So Wd Lm d n nw 0 / 100) - (7 - 2 * wm)))) 6 1) 7 (V 7 + nI (5 * Pr nw))) 4 (nI ((nw + 1) % 24))) 0 0) H locs 27 ls rfl dX4_step_27 (by
                    have x1_ := (ah_abs (S := So) (W := Wd) (Lm := Lm) (d := d) (k := 0) hGC hGP hSU hF10 hF11 (bHh nw (by omega)) (show nw < 24 by omega)).1
                    rw [Nat.zero_mul] at x1_
                    rw [← x1_]
                    have hc_ : decide (7 - 2 * wm ≤ min 200 (un + ahF F Hh So Wd Lm d n nw 0 / 100)) = true := decide_eq_true (by omega)
                    refine ⟨?_, rfl, ?_⟩
                    · (try simp only [hc_, cond_true, cond_false])
                      first | done | exact rfl
                    · (try simp only [hc_, cond_true, cond_false])
                      exact ⟨⟨hV1, by omega⟩, ⟨hV2, by omega⟩, ⟨hV3, by omega⟩, ⟨rfl, by omega⟩, ⟨rfl, by omega⟩, ⟨rfl, by omega⟩, ⟨hV9, by omega⟩, ⟨sh, hV11, by omega⟩, ⟨hN_23, bN_24⟩, ⟨hN_19, bHh⟩, ⟨hN_20, bWd⟩, ⟨hN_21, bLm⟩, ⟨hN_22, bPr⟩, by omega, hGP, hSU, GC_cong hGC (hf_18 5 (by decide)) (hf_18 6 (by decide)) (hf_18 7 (by decide)) (hf_18 8 (by decide)), (fun i hi => (congrFun (hf_18 10 (by decide)) i).trans (hF10 i hi)), (fun i hi => (congrFun (hf_18 11 (by decide)) i).trans (hF11 i hi)), KC_cong hKC (hf_18 19 (by decide)) (hf_18 20 (by decide)), congrArg (fun z => z + nI (5 * Pr nw)) hE, PLC_cong hPL (show (va_up (va_up (va_up (va_up (va_up V 5 (nI (min 200 (un + ahF F Hh So Wd Lm d n nw 0 / 100) - (7 - 2 * wm)))) 6 1) 7 (V 7 + nI (5 * Pr nw))) 4 (nI ((nw + 1) % 24))) 0 0) 8 = V 8 from rfl)⟩) (hP) (hD) hS
    · have c_25 : eqI (nI (5 * Pr nw)) (-1) = true := decide_eq_true c_25
      refine lv_aload_n hx hb dX4_step_14 rfl (lv_at hl 1 rfl) ?_
      refine lv_iconst (v := 2) hx hb dX4_step_15 (by decide) ?_
      refine cw_Vi (As := [.int 2]) (rest := []) (c_X4_refused l dC dI cI cZ cJ h F_16 (va_up (va_up (va_up (va_up V 5 (nI (min 200 (un + ahF F Hh So Wd Lm d n nw 0 / 100) - (7 - 2 * wm)))) 6 1) 7 (V 7 + nI (5 * Pr nw))) 4 (nI ((nw + 1) % 24))) 2) fx (cwV 1 hts gX4_step_X4_refused rfl rfl rfl (by decide +kernel) ⟨Nat.le_of_ble_eq_true rfl, Nat.le_of_ble_eq_true rfl⟩) hK hP hD hS hA 0 rfl rfl rfl rfl hl.1 rfl (Nat.le_of_ble_eq_true rfl) dX4_step_16 ⟨Nat.le_of_ble_eq_true rfl, Nat.le_of_ble_eq_true rfl⟩ (fun r_29 u_30 H locs hw_31 hP hD hS => ?_)
      have hP : va_P (dC, dI) vwCl (wC cI cZ h F_16 (va_up (va_up (va_up (va_up (va_up V 5 (nI (min 200 (un + ahF F Hh So Wd Lm d n nw 0 / 100) - (7 - 2 * wm)))) 6 1) 7 (V 7 + nI (5 * Pr nw))) 4 (nI ((nw + 1) % 24))) 0 2)) H := hP
      have hD : va_D A (wC cI cZ h F_16 (va_up (va_up (va_up (va_up (va_up V 5 (nI (min 200 (un + ahF F Hh So Wd Lm d n nw 0 / 100) - (7 - 2 * wm)))) 6 1) 7 (V 7 + nI (5 * Pr nw))) 4 (nI ((nw + 1) % 24))) 0 2)) := hD
      obtain rfl : r_29 = (-1) := hw_31
      refine lv_goto (tgt := 27) hx hb dX4_step_19 (by decide) ?_
      exact hret (-1) (h, F_16, va_up (va_up (va_up (va_up (va_up V 5 (nI (min 200 (un + ahF F Hh So Wd Lm d n nw 0 / 100) - (7 - 2 * wm)))) 6 1) 7 (V 7 + nI (5 * Pr nw))) 4 (nI ((nw + 1) % 24))) 0 2) H locs 27 ls rfl dX4_step_27 (by
                  exfalso
                  have q_ := of_decide_eq_true c_25
                  exact nI_pos (n := 5 * Pr nw) (by have := bPr nw (by omega); omega) (by rw [q_]; decide)) (hP) (hD) hS
