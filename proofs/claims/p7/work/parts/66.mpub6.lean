theorem wval_max (L : Nat → Int32) (g hd nd : Nat) (h : nd ≤ hd) : (if L (2 * hd) < nI g + L (2 * (hd - nd) + 1) then nI g + L (2 * (hd - nd) + 1) else L (2 * hd)) = wval L g hd nd := by
  unfold wval wrun ltI
  rw [decide_eq_true h, Bool.true_and]
  by_cases q : L (2 * hd) < nI g + L (2 * (hd - nd) + 1)
  · rw [if_pos q, if_pos (decide_eq_true q)]
  · rw [if_neg q, if_neg (by rw [decide_eq_false q]; decide)]
theorem wval_low (L : Nat → Int32) (g hd nd : Nat) (h : ¬ nd ≤ hd) : L (2 * hd) = wval L g hd nd := by
  unfold wval wrun
  rw [decide_eq_false h]
  rfl
theorem wval_run {L : Nat → Int32} {g hd nd : Nat} (h : ltI (L (2 * hd)) (wval L g hd nd) = true) : nd ≤ hd := by
  unfold wval at h
  cases e : wrun L g hd nd with
  | true =>
    unfold wrun at e
    rw [Bool.and_eq_true] at e
    exact of_decide_eq_true e.1
  | false =>
    rw [e] at h
    have q := of_decide_eq_true h
    exact absurd q (Int32.lt_irrefl)
def rm_X5_plan : Room := { frames := 4, cells := 0, slots := 0, locals := 104 }
set_option maxHeartbeats 4000000 in
set_option maxRecDepth 100000 in
theorem c_X5_plan (l : Launch) (dC : Nat → ClassId) (dI : Nat → Nat → Nat) (cI cZ cJ : ClassId) (h : Nat → Nat) (F : Nat → Nat → Int32) (G : Nat → Int64) (V : Nat → Int32) (n : Nat) (hV2 : V 2 = nI n) (bV2 : n ≤ 40) (nw : Nat) (hV3 : V 3 = nI nw) (bV3 : nw ≤ 23) (un : Nat) (hV4 : V 4 = nI un) (bV4 : un ≤ 200) (d : Nat) (hV6 : V 6 = nI d) (bV6 : d ≤ 20) (wm : Nat) (hV7 : V 7 = nI wm) (bV7 : wm ≤ 1) (pf : Nat) (hV10 : V 10 = nI pf) (bV10 : pf ≤ 24) (sh : Nat) (hV11 : V 11 = nI sh) (bV11 : sh ≤ 12) (So : Nat → Nat) (hSo : ∀ i, i < 40 → F 3 i = nI (So i)) (bSo : ∀ i, i < 40 → So i ≤ 90) (Lm : Nat → Nat) (hLm : ∀ i, i < 4 → F 4 i = nI (Lm i)) (bLm : ∀ i, i < 4 → Lm i ≤ 10000) (Hh : Nat → Nat) (hHh : ∀ i, i < 24 → F 7 i = nI (Hh i)) (bHh : ∀ i, i < 24 → Hh i ≤ 9) (Wd : Nat → Nat) (hWd : ∀ i, i < 24 → F 8 i = nI (Wd i)) (bWd : ∀ i, i < 24 → Wd i ≤ 99) (Pr : Nat → Nat) (hPr : ∀ i, i < 24 → F 9 i = nI (Pr i)) (bPr : ∀ i, i < 24 → Pr i ≤ 999) (X : Nat → Nat) (hX : ∀ i, i < n → F 1 i = nI (X i)) (bX : ∀ i, i < n → X i ≤ 14) (Y : Nat → Nat) (hY : ∀ i, i < n → F 2 i = nI (Y i)) (bY : ∀ i, i < n → Y i ≤ 14)   (ks am : Nat) (hV8 : V 8 = nI am - 1) (bam : am ≤ 41) (hks : am - 1 = ks) (SX SY Kc Kp : Nat → Int32) (er : Int32) (rb : Nat → Bool) (hGP : GP n X Y) (hSX : ∀ i, i < 24 → F 5 i = SX i) (hSY : ∀ i, i < 24 → F 6 i = SY i) (hKc : ∀ i, i < ks → F 13 i = Kc i) (hKp : ∀ i, i < 4 → F 15 i = Kp i) (hE : V 5 = er) (hRB : ∀ t, pf ≤ t → t < 24 → F 17 t = bI (rb t)) : CtI l (dC, dI) vwCl (tys3 cI cZ cJ) yX5_plan wsX5_plan rm_X5_plan [.ref (h 0)] (wM cI cZ cJ h F G V) (S := (Nat → Nat → Int32) × (Nat → Int64) × (Nat → Int32)) (fun r u => (r = rowf Pr (cmA X Y n SX SY Hh So Wd Lm d nw) (24 - nw) (2 * un + wm)) ∧ VM n d ks nw un wm (nw) So Hh Wd Lm Pr X Y SX SY Kc Kp er (plR Pr (cmA X Y n SX SY Hh So Wd Lm d nw) nw un wm) u.1 u.2.2) (fun u => wM cI cZ cJ h u.1 u.2.1 u.2.2) 0 0 := by
  refine ct_I (cc := cX5_plan) (maxL := 8) (ty := .int) (own := RX5) (by decide) rfl rfl (Nat.le_of_ble_eq_true rfl) (lv := [(0, .ref (h 0))]) rfl ?_
  intro p e s m args below meth c A Q ls fx hK hP hD hA hl hret
  obtain ⟨hx, hb, hml, hown, hts⟩ := id fx
  have hS : va_S A s.heap s.heap [] := va_S.rf
  have hw0 := hts (.fieldLink RX5 1 "MirrorTowerModel" "thrown" "I") (by decide +kernel)
  have hin_X5 : ∀ w ∈ u_ws RX5 TX5 33, w ∈ wsX5_plan := by decide +kernel
  have hw2 := hts (.fieldLink RX5 78 "MirrorTowerModel" "comeUnits" "[I") (by decide +kernel)
  have hw3 := hts (.fieldLink RX5 154 "MirrorTowerModel" "now" "I") (by decide +kernel)
  have hw4 := hts (.fieldLink RX5 75 "MirrorTowerModel" "planFrom" "I") (by decide +kernel)
  have hw5 := hts (.fieldLink RX5 168 "MirrorTowerModel" "store" "I") (by decide +kernel)
  have hw6 := hts (.fieldLink RX5 171 "MirrorTowerModel" "isWarm" "Z") (by decide +kernel)
  have hw7 := hts (.fieldLink RX5 68 "MirrorTowerModel" "worth" "[I") (by decide +kernel)
  have hw8 := hts (.fieldLink RX5 71 "MirrorTowerModel" "isRun" "[Z") (by decide +kernel)
  have hw9 := hts (.fieldLink RX5 44 "MirrorTowerModel" "price" "[I") (by decide +kernel)
  have hw10 := hts (.methodLink RX5 134 Lib.Math.max.name) (by decide +kernel)
  have hw11 := hts (.static Lib.Math.max.name) (by decide +kernel)
  have hw12 := hts (.initialized "java/lang/Math") (by decide +kernel)
  have hw13 := hts (.code Lib.Math.max.name Lib.Math.max.code 2 (some .int)) (by decide +kernel)
  have hw14 := hts (.fieldLink RX5 16 "MirrorTowerModel" "dust" "I") (by decide +kernel)
  obtain ⟨cm, ecm⟩ : ∃ z : Nat → Nat, z = cmA X Y n SX SY Hh So Wd Lm d nw := ⟨_, rfl⟩
  obtain ⟨H, hH⟩ : ∃ H, H = s.heap := ⟨_, rfl⟩
  rw [← hH] at hP ⊢
  have hS : va_S A s.heap H [] := by rw [hH]; exact hS
  generalize ([] : List Loc) = locs at hS ⊢
  refine lv_aload_n hx hb dX5_plan_0 rfl (lv_at hl 0 rfl) ?_
  refine lv_iconst (v := 0) hx hb dX5_plan_1 (by decide) ?_
  refine va_put (D := (dC, dI)) (ci := 5) (v := .int 0) (ty := .int) (C := RX5) (T := TX5) (N := 33) hx hb hts hin_X5 tyX5 tyX5_ok nmX5 hown hK hP hD hS 0 rfl rfl 0 (by decide) hw0 (fun _ h9 => h9) rfl (by decide +kernel) rfl rfl (Nat.le_of_ble_eq_true rfl) dX5_plan_2 (fun H locs hP hD hS => ?_)
  have hP : va_P (dC, dI) vwCl (wM cI cZ cJ h F G (va_up V 0 0)) H := hP
  have hD : va_D A (wM cI cZ cJ h F G (va_up V 0 0)) := hD
  refine lv_aload_n hx hb dX5_plan_5 rfl (lv_at hl 0 rfl) ?_
  refine va_get (D := (dC, dI)) (ci := 5) (v := .ref (h 18)) (C := RX5) (T := TX5) (N := 33) hx hb hts hin_X5 hown hK hP 0 rfl rfl 28 (by decide) hw2 (fun _ h9 => h9) rfl dX5_plan_6 ?_
  refine lv_astore_n (lv' := [(1, .ref (h 18)), (0, .ref (h 0))]) hx hb dX5_plan_9 rfl hl (by decide) rfl (fun ls hl => ?_)
  refine lv_aload_n hx hb dX5_plan_10 rfl (lv_at hl 1 rfl) ?_
  refine va_get (D := (dC, dI)) (ci := 5) (v := .int (V 3)) (C := RX5) (T := TX5) (N := 33) hx hb hts hin_X5 hown hK hP 0 rfl rfl 3 (by decide) hw3 (fun _ h9 => h9) rfl dX5_plan_11 ?_
  refine lv_topi (fun x_1 ex_1 => ?_)
  obtain rfl : x_1 = nI nw := ex_1.trans (hV3)
  refine lv_istore_n (lv' := [(2, .int (nI nw)), (1, .ref (h 18)), (0, .ref (h 0))]) hx hb dX5_plan_14 rfl hl (by decide) rfl (fun ls hl => ?_)
  have loop15 : ∀ (fu : Nat) (k : Nat) (F1 : Nat → Nat → Int32), (nw ≤ k) → (k ≤ 24) → (∀ i, nw ≤ i → i < k → F1 18 i = nI (cm i) ∧ cm i ≤ 40) → (∀ j, j ∉ ([10, 11, 12, 14, 16, 17, 18] : List Nat) → F1 j = F j) → (24 - k) < fu → ∀ (H : Heap) (locs : List Loc) (ls : Array Slot), va_P (dC, dI) vwCl (wM cI cZ cJ h F1 G (va_up V 0 0)) H → va_D A (wM cI cZ cJ h F1 G (va_up V 0 0)) → va_S A s.heap H locs → lv_has ls 8 [(0, .ref (h 0)), (1, .ref (h 18)), (2, .int (nI k))] → W p l e rm_X5_plan s m args below meth c H locs 0 0 Q (F0 m 15 ls []) := by
    intro fu
    induction fu with
    | zero => intro k F1 hk1 hk2 hcm hfr hn_; exact absurd hn_ (Nat.not_lt_zero _)
    | succ fu ih15 =>
      intro k F1 hk1 hk2 hcm hfr hn_ H locs ls hP hD hS hl
      have hN_2 : ∀ i, i < 40 → F1 3 i = nI (So i) := by rw [hfr 3 (by decide)]; exact hSo
      have hN_3 : ∀ i, i < 4 → F1 4 i = nI (Lm i) := by rw [hfr 4 (by decide)]; exact hLm
      have hN_4 : ∀ i, i < 24 → F1 7 i = nI (Hh i) := by rw [hfr 7 (by decide)]; exact hHh
      have hN_5 : ∀ i, i < 24 → F1 8 i = nI (Wd i) := by rw [hfr 8 (by decide)]; exact hWd
      have hN_6 : ∀ i, i < 24 → F1 9 i = nI (Pr i) := by rw [hfr 9 (by decide)]; exact hPr
      have hN_7 : ∀ i, i < n → F1 1 i = nI (X i) := by rw [hfr 1 (by decide)]; exact hX
      have hN_8 : ∀ i, i < n → F1 2 i = nI (Y i) := by rw [hfr 2 (by decide)]; exact hY
      refine lv_iload_n hx hb dX5_plan_15 rfl (lv_at hl 2 rfl) ?_
      refine lv_bipush (v := 24) hx hb dX5_plan_16 (by decide) ?_
      refine lv_icmp_ge (tgt := 49) hx hb dX5_plan_18 (by decide) (fun c_9 => ?_) (fun c_9 => ?_)
      · have c_9 : 24 ≤ k := (nI_leI (a := 24) (b := k) (by omega) (by omega)).mp c_9
        refine lv_iconst (v := 0) hx hb dX5_plan_49 (by decide) ?_
        refine lv_istore_n (lv' := [(2, .int 0), (0, .ref (h 0)), (1, .ref (h 18))]) hx hb dX5_plan_50 rfl hl (by decide) rfl (fun ls hl => ?_)
        have loop51 : ∀ (fu : Nat) (k2 : Nat) (F2 : Nat → Nat → Int32), (k2 ≤ 402) → (∀ i, nw ≤ i → i < 24 → F2 18 i = nI (cm i) ∧ cm i ≤ 40) → (∀ i, i < k2 → F2 16 (9648 + i) = 0) → (∀ j, j ∉ ([10, 11, 12, 14, 16, 17, 18] : List Nat) → F2 j = F j) → (402 - k2) < fu → ∀ (H : Heap) (locs : List Loc) (ls : Array Slot), va_P (dC, dI) vwCl (wM cI cZ cJ h F2 G (va_up V 0 0)) H → va_D A (wM cI cZ cJ h F2 G (va_up V 0 0)) → va_S A s.heap H locs → lv_has ls 8 [(0, .ref (h 0)), (1, .ref (h 18)), (2, .int (nI k2))] → W p l e rm_X5_plan s m args below meth c H locs 0 0 Q (F0 m 51 ls []) := by
          intro fu
          induction fu with
          | zero => intro k2 F2 hk3 hcm2 hz2 hfr2 hn_; exact absurd hn_ (Nat.not_lt_zero _)
          | succ fu ih51 =>
            intro k2 F2 hk3 hcm2 hz2 hfr2 hn_ H locs ls hP hD hS hl
            refine lv_iload_n hx hb dX5_plan_51 rfl (lv_at hl 2 rfl) ?_
            refine lv_sipush (v := 402) hx hb dX5_plan_52 (by decide) ?_
            refine lv_icmp_ge (tgt := 79) hx hb dX5_plan_55 (by decide) (fun c_10 => ?_) (fun c_10 => ?_)
            · have c_10 : 402 ≤ k2 := (nI_leI (a := 402) (b := k2) (by omega) (by omega)).mp c_10
              refine lv_bipush (v := 23) hx hb dX5_plan_79 (by decide) ?_
              refine lv_istore_n (lv' := [(2, .int 23), (0, .ref (h 0)), (1, .ref (h 18))]) hx hb dX5_plan_81 rfl hl (by decide) rfl (fun ls hl => ?_)
              have loop82 : ∀ (fu : Nat) (k3 : Nat) (F3 : Nat → Nat → Int32), (nw ≤ k3) → (k3 ≤ 24) → (∀ i, nw ≤ i → i < 24 → F3 18 i = nI (cm i) ∧ cm i ≤ 40) → (∀ t, k3 ≤ t → t ≤ 24 → ∀ i, i < 402 → F3 16 (402 * t + i) = rowf Pr cm (24 - t) i) → (∀ j, j ∉ ([10, 11, 12, 14, 16, 17, 18] : List Nat) → F3 j = F j) → (k3 - nw) < fu → ∀ (H : Heap) (locs : List Loc) (ls : Array Slot), va_P (dC, dI) vwCl (wM cI cZ cJ h F3 G (va_up V 0 0)) H → va_D A (wM cI cZ cJ h F3 G (va_up V 0 0)) → va_S A s.heap H locs → lv_has ls 8 [(0, .ref (h 0)), (1, .ref (h 18)), (2, .int (nI k3 - 1))] → W p l e rm_X5_plan s m args below meth c H locs 0 0 Q (F0 m 82 ls []) := by
                intro fu
                induction fu with
                | zero => intro k3 F3 hk4 hk5 hcm3 hW3 hfr3 hn_; exact absurd hn_ (Nat.not_lt_zero _)
                | succ fu ih82 =>
                  intro k3 F3 hk4 hk5 hcm3 hW3 hfr3 hn_ H locs ls hP hD hS hl
                  have hN_11 : ∀ i, i < 24 → F3 9 i = nI (Pr i) := by rw [hfr3 9 (by decide)]; exact hPr
                  rcases Nat.eq_or_lt_of_le hk4 with hkn | hkn
                  · subst hkn
                    refine lv_iload_n hx hb dX5_plan_82 rfl (lv_at hl 2 rfl) ?_
                    refine lv_aload_n hx hb dX5_plan_83 rfl (lv_at hl 0 rfl) ?_
                    refine va_get (D := (dC, dI)) (ci := 5) (v := .int (V 3)) (C := RX5) (T := TX5) (N := 33) hx hb hts hin_X5 hown hK hP 0 rfl rfl 3 (by decide) hw3 (fun _ h9 => h9) rfl dX5_plan_84 ?_
                    refine lv_topi (fun x_12 ex_12 => ?_)
                    obtain rfl : x_12 = nI nw := ex_12.trans (hV3)
                    refine lv_icmp_lt (tgt := 230) hx hb dX5_plan_87 (by decide) (fun c_13 => ?_) (fun c_13 => ?_)
                    · have c_13 : ltI (nI nw - 1) (nI nw) = true := decide_eq_true c_13
                      refine lv_aload_n hx hb dX5_plan_230 rfl (lv_at hl 0 rfl) ?_
                      refine lv_aload_n hx hb dX5_plan_231 rfl (lv_at hl 0 rfl) ?_
                      refine va_get (D := (dC, dI)) (ci := 5) (v := .int (V 3)) (C := RX5) (T := TX5) (N := 33) hx hb hts hin_X5 hown hK hP 0 rfl rfl 3 (by decide) hw3 (fun _ h9 => h9) rfl dX5_plan_232 ?_
                      refine lv_topi (fun x_14 ex_14 => ?_)
                      obtain rfl : x_14 = nI nw := ex_14.trans (hV3)
                      refine va_put (D := (dC, dI)) (ci := 5) (v := .int (nI nw)) (ty := .int) (C := RX5) (T := TX5) (N := 33) hx hb hts hin_X5 tyX5 tyX5_ok nmX5 hown hK hP hD hS 0 rfl rfl 27 (by decide) hw4 (fun _ h9 => h9) rfl (by decide +kernel) rfl rfl (Nat.le_of_ble_eq_true rfl) dX5_plan_235 (fun H locs hP hD hS => ?_)
                      have hP : va_P (dC, dI) vwCl (wM cI cZ cJ h F3 G (va_up (va_up V 0 0) 10 (nI nw))) H := hP
                      have hD : va_D A (wM cI cZ cJ h F3 G (va_up (va_up V 0 0) 10 (nI nw))) := hD
                      refine lv_aload_n hx hb dX5_plan_238 rfl (lv_at hl 0 rfl) ?_
                      refine va_get (D := (dC, dI)) (ci := 5) (v := .int (V 4)) (C := RX5) (T := TX5) (N := 33) hx hb hts hin_X5 hown hK hP 0 rfl rfl 4 (by decide) hw5 (fun _ h9 => h9) rfl dX5_plan_239 ?_
                      refine lv_topi (fun x_15 ex_15 => ?_)
                      obtain rfl : x_15 = nI un := ex_15.trans (hV4)
                      refine lv_istore_n (lv' := [(2, .int (nI un)), (0, .ref (h 0)), (1, .ref (h 18))]) hx hb dX5_plan_242 rfl hl (by decide) rfl (fun ls hl => ?_)
                      refine lv_aload_n hx hb dX5_plan_243 rfl (lv_at hl 1 rfl) ?_
                      refine va_get (D := (dC, dI)) (ci := 5) (v := .int (V 7)) (C := RX5) (T := TX5) (N := 33) hx hb hts hin_X5 hown hK hP 0 rfl rfl 7 (by decide) hw6 (fun _ h9 => h9) rfl dX5_plan_244 ?_
                      refine lv_topi (fun x_16 ex_16 => ?_)
                      obtain rfl : x_16 = nI wm := ex_16.trans (hV7)
                      refine lv_istore_n (lv' := [(3, .int (nI wm)), (2, .int (nI un)), (0, .ref (h 0)), (1, .ref (h 18))]) hx hb dX5_plan_247 rfl hl (by decide) rfl (fun ls hl => ?_)
                      refine lv_aload_n hx hb dX5_plan_248 rfl (lv_at hl 2 rfl) ?_
                      refine va_get (D := (dC, dI)) (ci := 5) (v := .int (V 3)) (C := RX5) (T := TX5) (N := 33) hx hb hts hin_X5 hown hK hP 0 rfl rfl 3 (by decide) hw3 (fun _ h9 => h9) rfl dX5_plan_249 ?_
                      refine lv_topi (fun x_17 ex_17 => ?_)
                      obtain rfl : x_17 = nI nw := ex_17.trans (hV3)
                      refine lv_istore (lv' := [(4, .int (nI nw)), (3, .int (nI wm)), (2, .int (nI un)), (0, .ref (h 0)), (1, .ref (h 18))]) hx hb dX5_plan_252 hl (by decide) rfl (fun ls hl => ?_)
                      have loop254 : ∀ (fu : Nat) (k5 : Nat) (a : Nat) (b : Nat) (F5 : Nat → Nat → Int32), (nw ≤ k5) → (k5 ≤ 24) → (a ≤ 200) → (b ≤ 1) → (∀ i, nw ≤ i → i < 24 → F5 18 i = nI (cm i) ∧ cm i ≤ 40) → (∀ t, nw ≤ t → t ≤ 24 → ∀ i, i < 402 → F5 16 (402 * t + i) = rowf Pr cm (24 - t) i) → (plT Pr cm nw un wm (k5 - nw) = (a, b)) → (∀ t, nw ≤ t → t < k5 → F5 17 t = bI (plR Pr cm nw un wm t)) → (∀ j, j ∉ ([10, 11, 12, 14, 16, 17, 18] : List Nat) → F5 j = F j) → (24 - k5) < fu → ∀ (H : Heap) (locs : List Loc) (ls : Array Slot), va_P (dC, dI) vwCl (wM cI cZ cJ h F5 G (va_up (va_up V 0 0) 10 (nI nw))) H → va_D A (wM cI cZ cJ h F5 G (va_up (va_up V 0 0) 10 (nI nw))) → va_S A s.heap H locs → lv_has ls 8 [(0, .ref (h 0)), (1, .ref (h 18)), (2, .int (nI a)), (3, .int (nI b)), (4, .int (nI k5))] → W p l e rm_X5_plan s m args below meth c H locs 0 0 Q (F0 m 254 ls []) := by
                        intro fu
                        induction fu with
                        | zero => intro k5 a b F5 hj1 hj2 haa hb5 hcm5 hW5 hpl hr17 hfr5 hn_; exact absurd hn_ (Nat.not_lt_zero _)
                        | succ fu ih254 =>
                          intro k5 a b F5 hj1 hj2 haa hb5 hcm5 hW5 hpl hr17 hfr5 hn_ H locs ls hP hD hS hl
                          refine lv_iload hx hb dX5_plan_254 (lv_at hl 4 rfl) ?_
                          refine lv_bipush (v := 24) hx hb dX5_plan_256 (by decide) ?_
                          refine lv_icmp_ge (tgt := 350) hx hb dX5_plan_258 (by decide) (fun c_18 => ?_) (fun c_18 => ?_)
                          · have c_18 : 24 ≤ k5 := (nI_leI (a := 24) (b := k5) (by omega) (by omega)).mp c_18
                            refine lv_aload_n hx hb dX5_plan_350 rfl (lv_at hl 0 rfl) ?_
                            refine va_get (D := (dC, dI)) (ci := 5) (v := .ref (h 16)) (C := RX5) (T := TX5) (N := 33) hx hb hts hin_X5 hown hK hP 0 rfl rfl 25 (by decide) hw7 (fun _ h9 => h9) rfl dX5_plan_351 ?_
                            refine lv_aload_n hx hb dX5_plan_354 rfl (lv_at hl 0 rfl) ?_
                            refine va_get (D := (dC, dI)) (ci := 5) (v := .int (V 3)) (C := RX5) (T := TX5) (N := 33) hx hb hts hin_X5 hown hK hP 0 rfl rfl 3 (by decide) hw3 (fun _ h9 => h9) rfl dX5_plan_355 ?_
                            refine lv_topi (fun x_19 ex_19 => ?_)
                            obtain rfl : x_19 = nI nw := ex_19.trans (hV3)
                            refine lv_aload_n hx hb dX5_plan_358 rfl (lv_at hl 0 rfl) ?_
                            refine va_get (D := (dC, dI)) (ci := 5) (v := .int (V 4)) (C := RX5) (T := TX5) (N := 33) hx hb hts hin_X5 hown hK hP 0 rfl rfl 4 (by decide) hw5 (fun _ h9 => h9) rfl dX5_plan_359 ?_
                            refine lv_topi (fun x_20 ex_20 => ?_)
                            obtain rfl : x_20 = nI un := ex_20.trans (hV4)
                            refine lv_aload_n hx hb dX5_plan_362 rfl (lv_at hl 0 rfl) ?_
                            refine va_get (D := (dC, dI)) (ci := 5) (v := .int (V 7)) (C := RX5) (T := TX5) (N := 33) hx hb hts hin_X5 hown hK hP 0 rfl rfl 7 (by decide) hw6 (fun _ h9 => h9) rfl dX5_plan_363 ?_
                            refine lv_topi (fun x_21 ex_21 => ?_)
                            obtain rfl : x_21 = nI wm := ex_21.trans (hV7)
                            refine cw_Si (As := [.int (nI nw), .int (nI un), .int (nI wm)]) (rest := [.ref (h 16)]) (c_X5_state l dC dI cI cZ cJ (wM cI cZ cJ h F5 G (va_up (va_up V 0 0) 10 (nI nw))) nw un wm (by omega)) fx (va_cwS 3 hts gX5_plan_X5_state rfl rfl rfl (by decide +kernel) ⟨Nat.le_of_ble_eq_true rfl, Nat.le_of_ble_eq_true rfl⟩) hK hP hD hS hA rfl hl.1 rfl (Nat.le_of_ble_eq_true rfl) dX5_plan_366 ⟨Nat.le_of_ble_eq_true rfl, Nat.le_of_ble_eq_true rfl⟩ (fun r_22 u_23 H locs hw_24 hP hD hS => ?_)
                            have hP : va_P (dC, dI) vwCl (wM cI cZ cJ h F5 G (va_up (va_up V 0 0) 10 (nI nw))) H := hP
                            have hD : va_D A (wM cI cZ cJ h F5 G (va_up (va_up V 0 0) 10 (nI nw))) := hD
                            obtain rfl : r_22 = nI ((201 * nw + un) * 2 + wm) := hw_24
                            refine va_iald hx hb hK hP 16 0 rfl rfl (vp_in_nI (n := (201 * nw + un) * 2 + wm) (N := 10050) (by omega) (by decide)) dX5_plan_369 ?_
                            refine lv_topi (fun x_25 ex_25 => ?_)
                            rw [nI_clamp (n := (201 * nw + un) * 2 + wm) (by omega)] at ex_25
                            exact hret x_25 (F5, G, va_up (va_up V 0 0) 10 (nI nw)) H locs 370 ls rfl dX5_plan_370 (by
                                          have hk_ : k5 = 24 := by omega
                                          rw [hk_] at hr17
                                          rw [ecm] at hr17 hW5
                                          refine ⟨?_, ?_⟩
                                          · (try dsimp only)
                                            first | done | exact (ex_25).trans ((congrArg (F5 16) (show _ = 402 * nw + (2 * un + wm) by omega)).trans (hW5 nw (by omega) (by omega) _ (by omega)))
                                          · (try dsimp only)
                                            exact ⟨⟨hV2, by omega⟩, ⟨hV3, by omega⟩, ⟨hV4, by omega⟩, ⟨hV6, by omega⟩, ⟨hV7, by omega⟩, ⟨rfl, by omega⟩, ⟨sh, hV11, by omega⟩, ⟨(fun i hi => (congrFun (hfr5 3 (by decide)) i).trans (hSo i hi)), bSo⟩, ⟨(fun i hi => (congrFun (hfr5 4 (by decide)) i).trans (hLm i hi)), bLm⟩, ⟨(fun i hi => (congrFun (hfr5 7 (by decide)) i).trans (hHh i hi)), bHh⟩, ⟨(fun i hi => (congrFun (hfr5 8 (by decide)) i).trans (hWd i hi)), bWd⟩, ⟨(fun i hi => (congrFun (hfr5 9 (by decide)) i).trans (hPr i hi)), bPr⟩, ⟨(fun i hi => (congrFun (hfr5 1 (by decide)) i).trans (hX i hi)), bX⟩, ⟨(fun i hi => (congrFun (hfr5 2 (by decide)) i).trans (hY i hi)), bY⟩, ⟨am, hV8, by omega, by omega⟩, hGP, (fun i hi => (congrFun (hfr5 5 (by decide)) i).trans (hSX i hi)), (fun i hi => (congrFun (hfr5 6 (by decide)) i).trans (hSY i hi)), (fun i hi => (congrFun (hfr5 13 (by decide)) i).trans (hKc i hi)), (fun i hi => (congrFun (hfr5 15 (by decide)) i).trans (hKp i hi)), ((show (va_up (va_up V 0 0) 10 (nI nw)) 5 = V 5 from rfl)).trans hE, hr17⟩) (hP) (hD) hS
                          · have c_18 : ¬ 24 ≤ k5 := fun h => c_18 ((nI_leI (a := 24) (b := k5) (by omega) (by omega)).mpr h)
                            refine lv_iload_n hx hb dX5_plan_261 rfl (lv_at hl 2 rfl) ?_
                            refine lv_aload_n hx hb dX5_plan_262 rfl (lv_at hl 1 rfl) ?_
                            refine lv_iload hx hb dX5_plan_263 (lv_at hl 4 rfl) ?_
                            refine va_iald hx hb hK hP 18 0 rfl rfl (vp_in_nI (n := k5) (N := 24) (by omega) (by decide)) dX5_plan_265 ?_
                            have hb_26 := (hcm5 (k5) (by omega) (by omega)).2
                            refine lv_topi (fun x_27 ex_27 => ?_)
                            obtain rfl : x_27 = nI (cm (k5)) := ex_27.trans ((congrArg (F5 18) (nI_clamp (n := k5) (by omega))).trans (hcm5 (k5) (by omega) (by omega)).1)
                            refine cw_Si (As := [.int (nI a), .int (nI (cm (k5)))]) (rest := []) (c_X5_filled l dC dI cI cZ cJ (wM cI cZ cJ h F5 G (va_up (va_up V 0 0) 10 (nI nw))) a (cm (k5)) (by omega)) fx (va_cwS 2 hts gX5_plan_X5_filled rfl rfl rfl (by decide +kernel) ⟨Nat.le_of_ble_eq_true rfl, Nat.le_of_ble_eq_true rfl⟩) hK hP hD hS hA rfl hl.1 rfl (Nat.le_of_ble_eq_true rfl) dX5_plan_266 ⟨Nat.le_of_ble_eq_true rfl, Nat.le_of_ble_eq_true rfl⟩ (fun r_28 u_29 H locs hw_30 hP hD hS => ?_)
                            have hP : va_P (dC, dI) vwCl (wM cI cZ cJ h F5 G (va_up (va_up V 0 0) 10 (nI nw))) H := hP
                            have hD : va_D A (wM cI cZ cJ h F5 G (va_up (va_up V 0 0) 10 (nI nw))) := hD
                            obtain rfl : r_28 = nI (min 200 (a + (cm (k5)))) := hw_30
                            refine lv_istore (lv' := [(5, .int (nI (min 200 (a + (cm (k5)))))), (0, .ref (h 0)), (1, .ref (h 18)), (2, .int (nI a)), (3, .int (nI b)), (4, .int (nI k5))]) hx hb dX5_plan_269 hl (by decide) rfl (fun ls hl => ?_)
                            refine lv_aload_n hx hb dX5_plan_271 rfl (lv_at hl 1 rfl) ?_
                            refine va_get (D := (dC, dI)) (ci := 5) (v := .ref (h 17)) (C := RX5) (T := TX5) (N := 33) hx hb hts hin_X5 hown hK hP 0 rfl rfl 26 (by decide) hw8 (fun _ h9 => h9) rfl dX5_plan_272 ?_
                            refine lv_iload hx hb dX5_plan_275 (lv_at hl 5 rfl) ?_
                            refine lv_aload_n hx hb dX5_plan_277 rfl (lv_at hl 1 rfl) ?_
                            refine va_get (D := (dC, dI)) (ci := 5) (v := .ref (h 16)) (C := RX5) (T := TX5) (N := 33) hx hb hts hin_X5 hown hK hP 0 rfl rfl 25 (by decide) hw7 (fun _ h9 => h9) rfl dX5_plan_278 ?_
                            refine lv_iload hx hb dX5_plan_281 (lv_at hl 5 rfl) ?_
                            refine lv_iconst (v := 1) hx hb dX5_plan_283 (by decide) ?_
                            refine lv_iadd hx hb dX5_plan_284 ?_
                            refine lv_topi (fun x_31 ex_31 => ?_)
                            obtain rfl : x_31 = nI (k5 + 1) := ex_31.trans (nI_add k5 1)
                            refine lv_iload hx hb dX5_plan_285 (lv_at hl 0 rfl) ?_
                            refine lv_iconst (v := 0) hx hb dX5_plan_287 (by decide) ?_
                            refine cw_Si (As := [.int (nI (k5 + 1)), .int (nI (min 200 (a + (cm (k5))))), .int 0]) (rest := [.ref (h 16), .int (nI k5), .ref (h 17)]) (c_X5_state l dC dI cI cZ cJ (wM cI cZ cJ h F5 G (va_up (va_up V 0 0) 10 (nI nw))) (k5 + 1) (min 200 (a + (cm (k5)))) 0 (by omega)) fx (va_cwS 3 hts gX5_plan_X5_state rfl rfl rfl (by decide +kernel) ⟨Nat.le_of_ble_eq_true rfl, Nat.le_of_ble_eq_true rfl⟩) hK hP hD hS hA rfl hl.1 rfl (Nat.le_of_ble_eq_true rfl) dX5_plan_288 ⟨Nat.le_of_ble_eq_true rfl, Nat.le_of_ble_eq_true rfl⟩ (fun r_32 u_33 H locs hw_34 hP hD hS => ?_)
                            have hP : va_P (dC, dI) vwCl (wM cI cZ cJ h F5 G (va_up (va_up V 0 0) 10 (nI nw))) H := hP
                            have hD : va_D A (wM cI cZ cJ h F5 G (va_up (va_up V 0 0) 10 (nI nw))) := hD
                            obtain rfl : r_32 = nI ((201 * (k5 + 1) + (min 200 (a + (cm (k5))))) * 2 + 0) := hw_34
                            refine va_iald hx hb hK hP 16 0 rfl rfl (vp_in_nI (n := (201 * (k5 + 1) + (min 200 (a + (cm (k5))))) * 2 + 0) (N := 10050) (by omega) (by decide)) dX5_plan_291 ?_
                            refine lv_topi (fun x_35 ex_35 => ?_)
                            rw [nI_clamp (n := (201 * (k5 + 1) + (min 200 (a + (cm (k5))))) * 2 + 0) (by omega)] at ex_35
                            refine lv_aload_n hx hb dX5_plan_292 rfl (lv_at hl 1 rfl) ?_
                            refine va_get (D := (dC, dI)) (ci := 5) (v := .ref (h 16)) (C := RX5) (T := TX5) (N := 33) hx hb hts hin_X5 hown hK hP 0 rfl rfl 25 (by decide) hw7 (fun _ h9 => h9) rfl dX5_plan_293 ?_
                            refine lv_iload hx hb dX5_plan_296 (lv_at hl 5 rfl) ?_
                            refine lv_iload_n hx hb dX5_plan_298 rfl (lv_at hl 3 rfl) ?_
                            refine lv_iload_n hx hb dX5_plan_299 rfl (lv_at hl 4 rfl) ?_
                            refine cw_Si (As := [.int (nI k5), .int (nI a), .int (nI b)]) (rest := [.ref (h 16), .int x_35, .int (nI k5), .ref (h 17)]) (c_X5_state l dC dI cI cZ cJ (wM cI cZ cJ h F5 G (va_up (va_up V 0 0) 10 (nI nw))) k5 a b (by omega)) fx (va_cwS 3 hts gX5_plan_X5_state rfl rfl rfl (by decide +kernel) ⟨Nat.le_of_ble_eq_true rfl, Nat.le_of_ble_eq_true rfl⟩) hK hP hD hS hA rfl hl.1 rfl (Nat.le_of_ble_eq_true rfl) dX5_plan_300 ⟨Nat.le_of_ble_eq_true rfl, Nat.le_of_ble_eq_true rfl⟩ (fun r_36 u_37 H locs hw_38 hP hD hS => ?_)
                            have hP : va_P (dC, dI) vwCl (wM cI cZ cJ h F5 G (va_up (va_up V 0 0) 10 (nI nw))) H := hP
                            have hD : va_D A (wM cI cZ cJ h F5 G (va_up (va_up V 0 0) 10 (nI nw))) := hD
                            obtain rfl : r_36 = nI ((201 * k5 + a) * 2 + b) := hw_38
                            refine va_iald hx hb hK hP 16 0 rfl rfl (vp_in_nI (n := (201 * k5 + a) * 2 + b) (N := 10050) (by omega) (by decide)) dX5_plan_303 ?_
                            refine lv_topi (fun x_39 ex_39 => ?_)
                            rw [nI_clamp (n := (201 * k5 + a) * 2 + b) (by omega)] at ex_39
                            refine lv_icmp_ge (tgt := 311) hx hb dX5_plan_304 (by decide) (fun c_40 => ?_) (fun c_40 => ?_)
                            · have c_40 : ltI x_35 x_39 = false := decide_eq_false (Int32.not_lt.mpr c_40)
                              have hs5 : wrun (rowf Pr cm (23 - k5)) (5 * Pr k5) (min 200 (a + cm (k5))) (7 - 2 * b) = false := by
                                have q1 : x_35 = rowf Pr cm (23 - k5) (2 * (min 200 (a + cm (k5)))) := (ex_35).trans ((congrArg (F5 16) (show _ = 402 * (k5 + 1) + 2 * (min 200 (a + cm (k5))) by omega)).trans ((hW5 (k5 + 1) (by omega) (by omega) _ (by omega)).trans (by rw [show 24 - (k5 + 1) = 23 - k5 by omega])))
                                have q2 : x_39 = rowf Pr cm (24 - k5) (2 * a + b) := (ex_39).trans ((congrArg (F5 16) (show _ = 402 * k5 + (2 * a + b) by omega)).trans (hW5 k5 (by omega) (by omega) _ (by omega)))
                                rw [rowf_at _ _ (by omega) hb5] at q2
                                rw [← wrun_lt, ← q1, ← q2]; exact c_40
                              have hR5 : plR Pr cm nw un wm k5 = false := by unfold plR; rw [hpl]; exact hs5
                              refine lv_iconst (v := 0) hx hb dX5_plan_311 (by decide) ?_
                              refine va_zast hx hb hK hP hD hS 17 1 rfl rfl (vp_in_nI (n := k5) (N := 24) (by omega) (by decide)) dX5_plan_312 (fun H locs hP hD hS => ?_)
                              obtain ⟨F_41, eF_41⟩ : ∃ z : Nat → Nat → Int32, z = va_up F5 17 (upd (F5 17) (nI k5).toNatClampNeg (vp_nar .boolean 0)) := ⟨_, rfl⟩
                              have hP : va_P (dC, dI) vwCl (wM cI cZ cJ h F_41 G (va_up (va_up V 0 0) 10 (nI nw))) H := by rw [eF_41]; exact hP
                              have hD : va_D A (wM cI cZ cJ h F_41 G (va_up (va_up V 0 0) 10 (nI nw))) := by rw [eF_41]; exact hD
                              have hE_42 : F_41 17 k5 = 0 := by rw [eF_41]; show upd _ (nI k5).toNatClampNeg _ _ = _; rw [nI_clamp (by omega)]; exact pk_us.trans (by decide)
                              refine lv_aload_n hx hb dX5_plan_313 rfl (lv_at hl 1 rfl) ?_
                              refine va_get (D := (dC, dI)) (ci := 5) (v := .ref (h 17)) (C := RX5) (T := TX5) (N := 33) hx hb hts hin_X5 hown hK hP 0 rfl rfl 26 (by decide) hw8 (fun _ h9 => h9) rfl dX5_plan_314 ?_
                              refine lv_iload hx hb dX5_plan_317 (lv_at hl 5 rfl) ?_
                              refine va_zald hx hb hK hP 17 1 rfl rfl (vp_in_nI (n := k5) (N := 24) (by omega) (by decide)) dX5_plan_319 ?_
                              refine lv_topi (fun x_43 ex_43 => ?_)
                              obtain rfl : x_43 = 0 := ex_43.trans ((congrArg (F_41 17) (nI_clamp (n := k5) (by omega))).trans hE_42)
                              refine lv_if_eq (tgt := 333) hx hb dX5_plan_320 (by decide) (fun c_44 => ?_) (fun c_44 => ?_)
                              · refine lv_iload hx hb dX5_plan_333 (lv_at hl 0 rfl) ?_
                                refine lv_istore_n (lv' := [(2, .int (nI (min 200 (a + (cm (k5)))))), (5, .int (nI (min 200 (a + (cm (k5)))))), (0, .ref (h 0)), (1, .ref (h 18)), (3, .int (nI b)), (4, .int (nI k5))]) hx hb dX5_plan_335 rfl hl (by decide) rfl (fun ls hl => ?_)
                                refine lv_aload_n hx hb dX5_plan_336 rfl (lv_at hl 2 rfl) ?_
                                refine va_get (D := (dC, dI)) (ci := 5) (v := .ref (h 17)) (C := RX5) (T := TX5) (N := 33) hx hb hts hin_X5 hown hK hP 0 rfl rfl 26 (by decide) hw8 (fun _ h9 => h9) rfl dX5_plan_337 ?_
                                refine lv_iload hx hb dX5_plan_340 (lv_at hl 5 rfl) ?_
                                refine va_zald hx hb hK hP 17 1 rfl rfl (vp_in_nI (n := k5) (N := 24) (by omega) (by decide)) dX5_plan_342 ?_
                                refine lv_topi (fun x_45 ex_45 => ?_)
                                obtain rfl : x_45 = 0 := ex_45.trans ((congrArg (F_41 17) (nI_clamp (n := k5) (by omega))).trans hE_42)
                                refine lv_istore_n (lv' := [(3, .int 0), (2, .int (nI (min 200 (a + (cm (k5)))))), (5, .int (nI (min 200 (a + (cm (k5)))))), (0, .ref (h 0)), (1, .ref (h 18)), (4, .int (nI k5))]) hx hb dX5_plan_343 rfl hl (by decide) rfl (fun ls hl => ?_)
                                refine lv_iinc (v := nI (k5 + 1)) (lv' := [(4, .int (nI (k5 + 1))), (3, .int 0), (2, .int (nI (min 200 (a + (cm (k5)))))), (5, .int (nI (min 200 (a + (cm (k5)))))), (0, .ref (h 0)), (1, .ref (h 18))]) hx hb dX5_plan_344 hl (k := 5) rfl (nI_1 _) (by decide) rfl (fun ls hl => ?_)
                                refine lv_goto (tgt := 254) hx hb dX5_plan_347 (by decide) ?_
                                have hp5 : plT Pr cm nw un wm (k5 + 1 - nw) = (min 200 (a + (cm (k5))), 0) := by
                                  rw [show k5 + 1 - nw = (k5 - nw) + 1 by omega, plT, hpl, show nw + (k5 - nw) = k5 by omega]
                                  show (if wrun (rowf Pr cm (23 - k5)) (5 * Pr k5) (min 200 (a + cm (k5))) (7 - 2 * b) = true then _ else _) = _
                                  rw [hs5]; rfl
                                have hb17 : ∀ t, nw ≤ t → t < k5 + 1 → F_41 17 t = bI (plR Pr cm nw un wm t) := fun t h1 h2 => by
                                  rw [eF_41]
                                  show upd (F5 17) (nI k5).toNatClampNeg _ t = _
                                  rw [nI_clamp (by omega)]
                                  by_cases q : t = k5
                                  · rw [q, hR5]; exact pk_us.trans (by decide)
                                  · rw [pk_un q]; exact hr17 t h1 (by omega)
                                exact ih254 (k5 + 1) (min 200 (a + (cm (k5)))) 0 F_41 (by omega) (by omega) (by omega) (by omega) (by rw [eF_41]; exact hcm5) (by rw [eF_41]; exact hW5) hp5 hb17 (fun j hj => ((va_ne eF_41 (fun h => hj (by rw [h]; decide))).trans (hfr5 j hj))) (by omega) H locs ls hP hD hS (lv_sub hl [4, 5, 2, 1, 0] rfl)
                              · exact absurd c_44 (by decide)
                            · have c_40 : ltI x_35 x_39 = true := decide_eq_true (Int32.not_le.mp c_40)
                              have hs5 : wrun (rowf Pr cm (23 - k5)) (5 * Pr k5) (min 200 (a + cm (k5))) (7 - 2 * b) = true := by
                                have q1 : x_35 = rowf Pr cm (23 - k5) (2 * (min 200 (a + cm (k5)))) := (ex_35).trans ((congrArg (F5 16) (show _ = 402 * (k5 + 1) + 2 * (min 200 (a + cm (k5))) by omega)).trans ((hW5 (k5 + 1) (by omega) (by omega) _ (by omega)).trans (by rw [show 24 - (k5 + 1) = 23 - k5 by omega])))
                                have q2 : x_39 = rowf Pr cm (24 - k5) (2 * a + b) := (ex_39).trans ((congrArg (F5 16) (show _ = 402 * k5 + (2 * a + b) by omega)).trans (hW5 k5 (by omega) (by omega) _ (by omega)))
                                rw [rowf_at _ _ (by omega) hb5] at q2
                                rw [← wrun_lt, ← q1, ← q2]; exact c_40
                              have hr5 : 7 - 2 * b ≤ (min 200 (a + cm (k5))) := by
                                have q := hs5
                                unfold wrun at q
                                rw [Bool.and_eq_true] at q
                                exact of_decide_eq_true q.1
                              have hR5 : plR Pr cm nw un wm k5 = true := by unfold plR; rw [hpl]; exact hs5
                              refine lv_iconst (v := 1) hx hb dX5_plan_307 (by decide) ?_
                              refine lv_goto (tgt := 312) hx hb dX5_plan_308 (by decide) ?_
                              refine va_zast hx hb hK hP hD hS 17 1 rfl rfl (vp_in_nI (n := k5) (N := 24) (by omega) (by decide)) dX5_plan_312 (fun H locs hP hD hS => ?_)
                              obtain ⟨F_46, eF_46⟩ : ∃ z : Nat → Nat → Int32, z = va_up F5 17 (upd (F5 17) (nI k5).toNatClampNeg (vp_nar .boolean 1)) := ⟨_, rfl⟩
                              have hP : va_P (dC, dI) vwCl (wM cI cZ cJ h F_46 G (va_up (va_up V 0 0) 10 (nI nw))) H := by rw [eF_46]; exact hP
                              have hD : va_D A (wM cI cZ cJ h F_46 G (va_up (va_up V 0 0) 10 (nI nw))) := by rw [eF_46]; exact hD
                              have hE_47 : F_46 17 k5 = 1 := by rw [eF_46]; show upd _ (nI k5).toNatClampNeg _ _ = _; rw [nI_clamp (by omega)]; exact pk_us.trans (by decide)
                              refine lv_aload_n hx hb dX5_plan_313 rfl (lv_at hl 1 rfl) ?_
                              refine va_get (D := (dC, dI)) (ci := 5) (v := .ref (h 17)) (C := RX5) (T := TX5) (N := 33) hx hb hts hin_X5 hown hK hP 0 rfl rfl 26 (by decide) hw8 (fun _ h9 => h9) rfl dX5_plan_314 ?_
                              refine lv_iload hx hb dX5_plan_317 (lv_at hl 5 rfl) ?_
                              refine va_zald hx hb hK hP 17 1 rfl rfl (vp_in_nI (n := k5) (N := 24) (by omega) (by decide)) dX5_plan_319 ?_
                              refine lv_topi (fun x_48 ex_48 => ?_)
                              obtain rfl : x_48 = 1 := ex_48.trans ((congrArg (F_46 17) (nI_clamp (n := k5) (by omega))).trans hE_47)
                              refine lv_if_eq (tgt := 333) hx hb dX5_plan_320 (by decide) (fun c_49 => ?_) (fun c_49 => ?_)
                              · exact absurd c_49 (by decide)
                              · refine lv_iload hx hb dX5_plan_323 (lv_at hl 0 rfl) ?_
                                refine lv_iload_n hx hb dX5_plan_325 rfl (lv_at hl 4 rfl) ?_
                                refine cw_Si (As := [.int (nI b)]) (rest := [.int (nI (min 200 (a + (cm (k5)))))]) (c_X5_takes l dC dI cI cZ cJ (wM cI cZ cJ h F_46 G (va_up (va_up V 0 0) 10 (nI nw))) b (by omega)) fx (va_cwS 1 hts gX5_plan_X5_takes rfl rfl rfl (by decide +kernel) ⟨Nat.le_of_ble_eq_true rfl, Nat.le_of_ble_eq_true rfl⟩) hK hP hD hS hA rfl hl.1 rfl (Nat.le_of_ble_eq_true rfl) dX5_plan_326 ⟨Nat.le_of_ble_eq_true rfl, Nat.le_of_ble_eq_true rfl⟩ (fun r_50 u_51 H locs hw_52 hP hD hS => ?_)
                                have hP : va_P (dC, dI) vwCl (wM cI cZ cJ h F_46 G (va_up (va_up V 0 0) 10 (nI nw))) H := hP
                                have hD : va_D A (wM cI cZ cJ h F_46 G (va_up (va_up V 0 0) 10 (nI nw))) := hD
                                obtain rfl : r_50 = nI (7 - 2 * b) := hw_52
                                refine lv_isub hx hb dX5_plan_329 ?_
                                refine lv_topi (fun x_53 ex_53 => ?_)
                                obtain rfl : x_53 = nI ((min 200 (a + (cm (k5)))) - (7 - 2 * b)) := ex_53.trans (pk_sub (a := min 200 (a + (cm (k5)))) (b := 7 - 2 * b) (by omega))
                                refine lv_goto (tgt := 335) hx hb dX5_plan_330 (by decide) ?_
                                refine lv_istore_n (lv' := [(2, .int (nI ((min 200 (a + (cm (k5)))) - (7 - 2 * b)))), (5, .int (nI (min 200 (a + (cm (k5)))))), (0, .ref (h 0)), (1, .ref (h 18)), (3, .int (nI b)), (4, .int (nI k5))]) hx hb dX5_plan_335 rfl hl (by decide) rfl (fun ls hl => ?_)
                                refine lv_aload_n hx hb dX5_plan_336 rfl (lv_at hl 2 rfl) ?_
                                refine va_get (D := (dC, dI)) (ci := 5) (v := .ref (h 17)) (C := RX5) (T := TX5) (N := 33) hx hb hts hin_X5 hown hK hP 0 rfl rfl 26 (by decide) hw8 (fun _ h9 => h9) rfl dX5_plan_337 ?_
                                refine lv_iload hx hb dX5_plan_340 (lv_at hl 5 rfl) ?_
                                refine va_zald hx hb hK hP 17 1 rfl rfl (vp_in_nI (n := k5) (N := 24) (by omega) (by decide)) dX5_plan_342 ?_
                                refine lv_topi (fun x_54 ex_54 => ?_)
                                obtain rfl : x_54 = 1 := ex_54.trans ((congrArg (F_46 17) (nI_clamp (n := k5) (by omega))).trans hE_47)
                                refine lv_istore_n (lv' := [(3, .int 1), (2, .int (nI ((min 200 (a + (cm (k5)))) - (7 - 2 * b)))), (5, .int (nI (min 200 (a + (cm (k5)))))), (0, .ref (h 0)), (1, .ref (h 18)), (4, .int (nI k5))]) hx hb dX5_plan_343 rfl hl (by decide) rfl (fun ls hl => ?_)
                                refine lv_iinc (v := nI (k5 + 1)) (lv' := [(4, .int (nI (k5 + 1))), (3, .int 1), (2, .int (nI ((min 200 (a + (cm (k5)))) - (7 - 2 * b)))), (5, .int (nI (min 200 (a + (cm (k5)))))), (0, .ref (h 0)), (1, .ref (h 18))]) hx hb dX5_plan_344 hl (k := 5) rfl (nI_1 _) (by decide) rfl (fun ls hl => ?_)
                                refine lv_goto (tgt := 254) hx hb dX5_plan_347 (by decide) ?_
                                have hp5 : plT Pr cm nw un wm (k5 + 1 - nw) = ((min 200 (a + (cm (k5)))) - (7 - 2 * b), 1) := by
                                  rw [show k5 + 1 - nw = (k5 - nw) + 1 by omega, plT, hpl, show nw + (k5 - nw) = k5 by omega]
                                  show (if wrun (rowf Pr cm (23 - k5)) (5 * Pr k5) (min 200 (a + cm (k5))) (7 - 2 * b) = true then _ else _) = _
                                  rw [hs5]; rfl
                                have hb17 : ∀ t, nw ≤ t → t < k5 + 1 → F_46 17 t = bI (plR Pr cm nw un wm t) := fun t h1 h2 => by
                                  rw [eF_46]
                                  show upd (F5 17) (nI k5).toNatClampNeg _ t = _
                                  rw [nI_clamp (by omega)]
                                  by_cases q : t = k5
                                  · rw [q, hR5]; exact pk_us.trans (by decide)
                                  · rw [pk_un q]; exact hr17 t h1 (by omega)
                                exact ih254 (k5 + 1) ((min 200 (a + (cm (k5)))) - (7 - 2 * b)) 1 F_46 (by omega) (by omega) (by omega) (by omega) (by rw [eF_46]; exact hcm5) (by rw [eF_46]; exact hW5) hp5 hb17 (fun j hj => ((va_ne eF_46 (fun h => hj (by rw [h]; decide))).trans (hfr5 j hj))) (by omega) H locs ls hP hD hS (lv_sub hl [4, 5, 2, 1, 0] rfl)
                      exact loop254 _ nw un wm F3 (by omega) (by omega) (by omega) (by omega) hcm3 hW3 (by rw [Nat.sub_self]; rfl) (fun t h1 h2 => absurd h1 (by omega)) hfr3 (Nat.lt_succ_self _) H locs ls hP hD hS (lv_sub hl [3, 4, 2, 1, 0] rfl)
                    · exact absurd (pred_lt (by omega)) c_13
                  · obtain ⟨q, rfl⟩ : ∃ q, k3 = q + 1 := ⟨k3 - 1, by omega⟩
                    rw [nI_pred] at hl
                    refine lv_iload_n hx hb dX5_plan_82 rfl (lv_at hl 2 rfl) ?_
                    refine lv_aload_n hx hb dX5_plan_83 rfl (lv_at hl 0 rfl) ?_
                    refine va_get (D := (dC, dI)) (ci := 5) (v := .int (V 3)) (C := RX5) (T := TX5) (N := 33) hx hb hts hin_X5 hown hK hP 0 rfl rfl 3 (by decide) hw3 (fun _ h9 => h9) rfl dX5_plan_84 ?_
                    refine lv_topi (fun x_55 ex_55 => ?_)
                    obtain rfl : x_55 = nI nw := ex_55.trans (hV3)
                    refine lv_icmp_lt (tgt := 230) hx hb dX5_plan_87 (by decide) (fun c_56 => ?_) (fun c_56 => ?_)
                    · exact absurd ((nI_ltI (a := q) (b := nw) (by omega) (by omega)).mp c_56) (by omega)
                    · have c_56 : ¬ q < nw := fun h => c_56 ((nI_ltI (a := q) (b := nw) (by omega) (by omega)).mpr h)
                      refine lv_iconst (v := 0) hx hb dX5_plan_90 (by decide) ?_
                      refine lv_istore_n (lv' := [(3, .int 0), (0, .ref (h 0)), (1, .ref (h 18)), (2, .int (nI q))]) hx hb dX5_plan_91 rfl hl (by decide) rfl (fun ls hl => ?_)
                      have loop92 : ∀ (fu : Nat) (u : Nat) (F4 : Nat → Nat → Int32), (u ≤ 201) → (∀ i, nw ≤ i → i < 24 → F4 18 i = nI (cm i) ∧ cm i ≤ 40) → (∀ i, i < 2 * u → F4 16 (402 * q + i) = rowf Pr cm (24 - q) i) → (∀ t, q + 1 ≤ t → t ≤ 24 → ∀ i, i < 402 → F4 16 (402 * t + i) = rowf Pr cm (24 - t) i) → (∀ j, j ∉ ([10, 11, 12, 14, 16, 17, 18] : List Nat) → F4 j = F j) → (201 - u) < fu → ∀ (H : Heap) (locs : List Loc) (ls : Array Slot), va_P (dC, dI) vwCl (wM cI cZ cJ h F4 G (va_up V 0 0)) H → va_D A (wM cI cZ cJ h F4 G (va_up V 0 0)) → va_S A s.heap H locs → lv_has ls 8 [(0, .ref (h 0)), (1, .ref (h 18)), (2, .int (nI q)), (3, .int (nI u))] → W p l e rm_X5_plan s m args below meth c H locs 0 0 Q (F0 m 92 ls []) := by
                        intro fu
                        induction fu with
                        | zero => intro u F4 hu hcm4 hlo4 hW4 hfr4 hn_; exact absurd hn_ (Nat.not_lt_zero _)
                        | succ fu ih92 =>
                          intro u F4 hu hcm4 hlo4 hW4 hfr4 hn_ H locs ls hP hD hS hl
                          have hN_57 : ∀ i, i < 24 → F4 9 i = nI (Pr i) := by rw [hfr4 9 (by decide)]; exact hPr
                          refine lv_iload_n hx hb dX5_plan_92 rfl (lv_at hl 3 rfl) ?_
                          refine lv_sipush (v := 200) hx hb dX5_plan_93 (by decide) ?_
                          refine lv_icmp_gt (tgt := 224) hx hb dX5_plan_96 (by decide) (fun c_58 => ?_) (fun c_58 => ?_)
                          · have c_58 : 200 < u := (nI_ltI (a := 200) (b := u) (by omega) (by omega)).mp c_58
                            refine lv_iinc (v := nI q - 1) (lv' := [(2, .int (nI q - 1)), (0, .ref (h 0)), (1, .ref (h 18)), (3, .int (nI u))]) hx hb dX5_plan_224 hl (k := 2) rfl (by rw [Int32.sub_eq_add_neg]; rfl) (by decide) rfl (fun ls hl => ?_)
                            refine lv_goto (tgt := 82) hx hb dX5_plan_227 (by decide) ?_
                            exact ih82 q F4 (by omega) (by omega) hcm4 (fun t h1 h2 i hi => by
                              by_cases e : t = q
                              · rw [e]; exact hlo4 i (by omega)
                              · exact hW4 t (by omega) h2 i hi) hfr4 (by omega) H locs ls hP hD hS (lv_sub hl [1, 2, 0] rfl)
                          · have c_58 : ¬ 200 < u := fun h => c_58 ((nI_ltI (a := 200) (b := u) (by omega) (by omega)).mpr h)
                            refine lv_iconst (v := 0) hx hb dX5_plan_99 (by decide) ?_
                            refine lv_istore (lv' := [(4, .int 0), (0, .ref (h 0)), (1, .ref (h 18)), (2, .int (nI q)), (3, .int (nI u))]) hx hb dX5_plan_100 hl (by decide) rfl (fun ls hl => ?_)
                            refine lv_iload hx hb dX5_plan_102 (lv_at hl 0 rfl) ?_
                            refine lv_iconst (v := 2) hx hb dX5_plan_104 (by decide) ?_
                            refine lv_icmp_ge (tgt := 218) hx hb dX5_plan_105 (by decide) (fun c_59 => ?_) (fun c_59 => ?_)
                            · exact absurd c_59 (by decide)
                            · refine lv_iload_n hx hb dX5_plan_108 rfl (lv_at hl 4 rfl) ?_
                              refine lv_aload_n hx hb dX5_plan_109 rfl (lv_at hl 2 rfl) ?_
                              refine lv_iload_n hx hb dX5_plan_110 rfl (lv_at hl 3 rfl) ?_
                              refine va_iald hx hb hK hP 18 0 rfl rfl (vp_in_nI (n := q) (N := 24) (by omega) (by decide)) dX5_plan_111 ?_
                              have hb_60 := (hcm4 (q) (by omega) (by omega)).2
                              refine lv_topi (fun x_61 ex_61 => ?_)
                              obtain rfl : x_61 = nI (cm (q)) := ex_61.trans ((congrArg (F4 18) (nI_clamp (n := q) (by omega))).trans (hcm4 (q) (by omega) (by omega)).1)
                              refine cw_Si (As := [.int (nI u), .int (nI (cm (q)))]) (rest := []) (c_X5_filled l dC dI cI cZ cJ (wM cI cZ cJ h F4 G (va_up V 0 0)) u (cm (q)) (by omega)) fx (va_cwS 2 hts gX5_plan_X5_filled rfl rfl rfl (by decide +kernel) ⟨Nat.le_of_ble_eq_true rfl, Nat.le_of_ble_eq_true rfl⟩) hK hP hD hS hA rfl hl.1 rfl (Nat.le_of_ble_eq_true rfl) dX5_plan_112 ⟨Nat.le_of_ble_eq_true rfl, Nat.le_of_ble_eq_true rfl⟩ (fun r_62 u_63 H locs hw_64 hP hD hS => ?_)
                              have hP : va_P (dC, dI) vwCl (wM cI cZ cJ h F4 G (va_up V 0 0)) H := hP
                              have hD : va_D A (wM cI cZ cJ h F4 G (va_up V 0 0)) := hD
                              obtain rfl : r_62 = nI (min 200 (u + (cm (q)))) := hw_64
                              refine lv_istore (lv' := [(5, .int (nI (min 200 (u + (cm (q)))))), (4, .int 0), (0, .ref (h 0)), (1, .ref (h 18)), (2, .int (nI q)), (3, .int (nI u))]) hx hb dX5_plan_115 hl (by decide) rfl (fun ls hl => ?_)
                              refine lv_aload_n hx hb dX5_plan_117 rfl (lv_at hl 2 rfl) ?_
                              refine va_get (D := (dC, dI)) (ci := 5) (v := .ref (h 16)) (C := RX5) (T := TX5) (N := 33) hx hb hts hin_X5 hown hK hP 0 rfl rfl 25 (by decide) hw7 (fun _ h9 => h9) rfl dX5_plan_118 ?_
                              refine lv_iload_n hx hb dX5_plan_121 rfl (lv_at hl 4 rfl) ?_
                              refine lv_iconst (v := 1) hx hb dX5_plan_122 (by decide) ?_
                              refine lv_iadd hx hb dX5_plan_123 ?_
                              refine lv_topi (fun x_65 ex_65 => ?_)
                              obtain rfl : x_65 = nI (q + 1) := ex_65.trans (nI_add q 1)
                              refine lv_iload hx hb dX5_plan_124 (lv_at hl 0 rfl) ?_
                              refine lv_iconst (v := 0) hx hb dX5_plan_126 (by decide) ?_
                              refine cw_Si (As := [.int (nI (q + 1)), .int (nI (min 200 (u + (cm (q))))), .int 0]) (rest := [.ref (h 16)]) (c_X5_state l dC dI cI cZ cJ (wM cI cZ cJ h F4 G (va_up V 0 0)) (q + 1) (min 200 (u + (cm (q)))) 0 (by omega)) fx (va_cwS 3 hts gX5_plan_X5_state rfl rfl rfl (by decide +kernel) ⟨Nat.le_of_ble_eq_true rfl, Nat.le_of_ble_eq_true rfl⟩) hK hP hD hS hA rfl hl.1 rfl (Nat.le_of_ble_eq_true rfl) dX5_plan_127 ⟨Nat.le_of_ble_eq_true rfl, Nat.le_of_ble_eq_true rfl⟩ (fun r_66 u_67 H locs hw_68 hP hD hS => ?_)
                              have hP : va_P (dC, dI) vwCl (wM cI cZ cJ h F4 G (va_up V 0 0)) H := hP
                              have hD : va_D A (wM cI cZ cJ h F4 G (va_up V 0 0)) := hD
                              obtain rfl : r_66 = nI ((201 * (q + 1) + (min 200 (u + (cm (q))))) * 2 + 0) := hw_68
                              refine va_iald hx hb hK hP 16 0 rfl rfl (vp_in_nI (n := (201 * (q + 1) + (min 200 (u + (cm (q))))) * 2 + 0) (N := 10050) (by omega) (by decide)) dX5_plan_130 ?_
                              refine lv_topi (fun x_69 ex_69 => ?_)
                              rw [nI_clamp (n := (201 * (q + 1) + (min 200 (u + (cm (q))))) * 2 + 0) (by omega)] at ex_69
                              refine lv_istore (lv' := [(6, .int x_69), (5, .int (nI (min 200 (u + (cm (q)))))), (4, .int 0), (0, .ref (h 0)), (1, .ref (h 18)), (2, .int (nI q)), (3, .int (nI u))]) hx hb dX5_plan_131 hl (by decide) rfl (fun ls hl => ?_)
                              refine lv_iload hx hb dX5_plan_133 (lv_at hl 2 rfl) ?_
                              refine lv_iconst (v := 1) hx hb dX5_plan_135 (by decide) ?_
                              refine lv_icmp_ne (tgt := 143) hx hb dX5_plan_136 (by decide) (fun c_70 => ?_) (fun c_70 => ?_)
                              · refine lv_iconst (v := 0) hx hb dX5_plan_143 (by decide) ?_
                                refine cw_Si (As := [.int 0]) (rest := []) (c_X5_takes l dC dI cI cZ cJ (wM cI cZ cJ h F4 G (va_up V 0 0)) 0 (by omega)) fx (va_cwS 1 hts gX5_plan_X5_takes rfl rfl rfl (by decide +kernel) ⟨Nat.le_of_ble_eq_true rfl, Nat.le_of_ble_eq_true rfl⟩) hK hP hD hS hA rfl hl.1 rfl (Nat.le_of_ble_eq_true rfl) dX5_plan_144 ⟨Nat.le_of_ble_eq_true rfl, Nat.le_of_ble_eq_true rfl⟩ (fun r_71 u_72 H locs hw_73 hP hD hS => ?_)
                                have hP : va_P (dC, dI) vwCl (wM cI cZ cJ h F4 G (va_up V 0 0)) H := hP
                                have hD : va_D A (wM cI cZ cJ h F4 G (va_up V 0 0)) := hD
                                obtain rfl : r_71 = 7 := hw_73
                                refine lv_istore (lv' := [(7, .int 7), (6, .int x_69), (5, .int (nI (min 200 (u + (cm (q)))))), (4, .int 0), (0, .ref (h 0)), (1, .ref (h 18)), (2, .int (nI q)), (3, .int (nI u))]) hx hb dX5_plan_147 hl (by decide) rfl (fun ls hl => ?_)
                                refine lv_iload hx hb dX5_plan_149 (lv_at hl 2 rfl) ?_
                                refine lv_iload hx hb dX5_plan_151 (lv_at hl 0 rfl) ?_
                                refine lv_icmp_lt (tgt := 189) hx hb dX5_plan_153 (by decide) (fun c_74 => ?_) (fun c_74 => ?_)
                                · have c_74 : (min 200 (u + (cm (q)))) < 7 := (nI_ltI (a := min 200 (u + (cm (q)))) (b := 7) (by omega) (by omega)).mp c_74
                                  refine lv_aload_n hx hb dX5_plan_189 rfl (lv_at hl 4 rfl) ?_
                                  refine va_get (D := (dC, dI)) (ci := 5) (v := .ref (h 16)) (C := RX5) (T := TX5) (N := 33) hx hb hts hin_X5 hown hK hP 0 rfl rfl 25 (by decide) hw7 (fun _ h9 => h9) rfl dX5_plan_190 ?_
                                  refine lv_iload_n hx hb dX5_plan_193 rfl (lv_at hl 6 rfl) ?_
                                  refine lv_iload_n hx hb dX5_plan_194 rfl (lv_at hl 7 rfl) ?_
                                  refine lv_iload hx hb dX5_plan_195 (lv_at hl 3 rfl) ?_
                                  refine lv_iconst (v := 1) hx hb dX5_plan_197 (by decide) ?_
                                  refine lv_icmp_ne (tgt := 205) hx hb dX5_plan_198 (by decide) (fun c_75 => ?_) (fun c_75 => ?_)
                                  · refine lv_iconst (v := 0) hx hb dX5_plan_205 (by decide) ?_
                                    refine cw_Si (As := [.int (nI q), .int (nI u), .int 0]) (rest := [.ref (h 16)]) (c_X5_state l dC dI cI cZ cJ (wM cI cZ cJ h F4 G (va_up V 0 0)) q u 0 (by omega)) fx (va_cwS 3 hts gX5_plan_X5_state rfl rfl rfl (by decide +kernel) ⟨Nat.le_of_ble_eq_true rfl, Nat.le_of_ble_eq_true rfl⟩) hK hP hD hS hA rfl hl.1 rfl (Nat.le_of_ble_eq_true rfl) dX5_plan_206 ⟨Nat.le_of_ble_eq_true rfl, Nat.le_of_ble_eq_true rfl⟩ (fun r_76 u_77 H locs hw_78 hP hD hS => ?_)
                                    have hP : va_P (dC, dI) vwCl (wM cI cZ cJ h F4 G (va_up V 0 0)) H := hP
                                    have hD : va_D A (wM cI cZ cJ h F4 G (va_up V 0 0)) := hD
                                    obtain rfl : r_76 = nI ((201 * q + u) * 2 + 0) := hw_78
                                    refine lv_iload hx hb dX5_plan_209 (lv_at hl 1 rfl) ?_
                                    refine va_iast hx hb hK hP hD hS 16 0 rfl rfl (vp_in_nI (n := (201 * q + u) * 2 + 0) (N := 10050) (by omega) (by decide)) dX5_plan_211 (fun H locs hP hD hS => ?_)
                                    obtain ⟨F_79, eF_79⟩ : ∃ z : Nat → Nat → Int32, z = va_up F4 16 (upd (F4 16) (nI ((201 * q + u) * 2 + 0)).toNatClampNeg x_69) := ⟨_, rfl⟩
                                    have hP : va_P (dC, dI) vwCl (wM cI cZ cJ h F_79 G (va_up V 0 0)) H := by rw [eF_79]; exact hP
                                    have hD : va_D A (wM cI cZ cJ h F_79 G (va_up V 0 0)) := by rw [eF_79]; exact hD
                                    have hN_80 : ∀ i, i < 24 → F_79 9 i = nI (Pr i) := by rw [eF_79]; exact hN_57
                                    have hb_81 : x_69 = rowf Pr cm (24 - q) (2 * u + 0) := by
                                      rw [rowf_at _ _ (by omega) (by omega)]
                                      have q1 : x_69 = rowf Pr cm (23 - q) (2 * (min 200 (u + cm (q)))) := (ex_69).trans ((congrArg (F4 16) (show _ = 402 * (q + 1) + 2 * (min 200 (u + cm (q))) by omega)).trans ((hW4 (q + 1) (by omega) (by omega) _ (by omega)).trans (by rw [show 24 - (q + 1) = 23 - q by omega])))
                                      rw [q1]; exact wval_low _ _ _ _ (by omega)
                                    have hb_82 : ∀ i, i < 2 * u + 0 + 1 → F_79 16 (402 * q + i) = rowf Pr cm (24 - q) i := fun i hi => by
                                      rw [eF_79]
                                      show upd (F4 16) (nI ((201 * q + u) * 2 + 0)).toNatClampNeg _ (402 * q + i) = _
                                      rw [nI_clamp (by omega)]
                                      by_cases e : i = 2 * u + 0
                                      · rw [show 402 * q + i = (201 * q + u) * 2 + 0 by omega, e, ← hb_81]; exact pk_us
                                      · rw [pk_un (by omega)]; exact hlo4 i (by omega)
                                    have hb_83 : ∀ t, q + 1 ≤ t → t ≤ 24 → ∀ i, i < 402 → F_79 16 (402 * t + i) = rowf Pr cm (24 - t) i := fun t h1 h2 i hi => by
                                      rw [eF_79]
                                      show upd (F4 16) (nI ((201 * q + u) * 2 + 0)).toNatClampNeg _ (402 * t + i) = _
                                      rw [nI_clamp (by omega), pk_un (by omega)]; exact hW4 t h1 h2 i hi
                                    have hb_84 : ∀ i, nw ≤ i → i < 24 → F_79 18 i = nI (cm i) ∧ cm i ≤ 40 := by rw [eF_79]; exact hcm4
                                    refine lv_iinc (v := 1) (lv' := [(4, .int 1), (7, .int 7), (6, .int x_69), (5, .int (nI (min 200 (u + (cm (q)))))), (0, .ref (h 0)), (1, .ref (h 18)), (2, .int (nI q)), (3, .int (nI u))]) hx hb dX5_plan_212 hl (k := 3) rfl (by decide) (by decide) rfl (fun ls hl => ?_)
                                    refine lv_goto (tgt := 102) hx hb dX5_plan_215 (by decide) ?_
                                    refine lv_iload hx hb dX5_plan_102 (lv_at hl 0 rfl) ?_
                                    refine lv_iconst (v := 2) hx hb dX5_plan_104 (by decide) ?_
                                    refine lv_icmp_ge (tgt := 218) hx hb dX5_plan_105 (by decide) (fun c_85 => ?_) (fun c_85 => ?_)
                                    · exact absurd c_85 (by decide)
                                    · refine lv_iload_n hx hb dX5_plan_108 rfl (lv_at hl 7 rfl) ?_
                                      refine lv_aload_n hx hb dX5_plan_109 rfl (lv_at hl 5 rfl) ?_
                                      refine lv_iload_n hx hb dX5_plan_110 rfl (lv_at hl 6 rfl) ?_
                                      refine va_iald hx hb hK hP 18 0 rfl rfl (vp_in_nI (n := q) (N := 24) (by omega) (by decide)) dX5_plan_111 ?_
                                      have hb_86 := (hb_84 (q) (by omega) (by omega)).2
                                      refine lv_topi (fun x_87 ex_87 => ?_)
                                      obtain rfl : x_87 = nI (cm (q)) := ex_87.trans ((congrArg (F_79 18) (nI_clamp (n := q) (by omega))).trans (hb_84 (q) (by omega) (by omega)).1)
                                      refine cw_Si (As := [.int (nI u), .int (nI (cm (q)))]) (rest := []) (c_X5_filled l dC dI cI cZ cJ (wM cI cZ cJ h F_79 G (va_up V 0 0)) u (cm (q)) (by omega)) fx (va_cwS 2 hts gX5_plan_X5_filled rfl rfl rfl (by decide +kernel) ⟨Nat.le_of_ble_eq_true rfl, Nat.le_of_ble_eq_true rfl⟩) hK hP hD hS hA rfl hl.1 rfl (Nat.le_of_ble_eq_true rfl) dX5_plan_112 ⟨Nat.le_of_ble_eq_true rfl, Nat.le_of_ble_eq_true rfl⟩ (fun r_88 u_89 H locs hw_90 hP hD hS => ?_)
                                      have hP : va_P (dC, dI) vwCl (wM cI cZ cJ h F_79 G (va_up V 0 0)) H := hP
                                      have hD : va_D A (wM cI cZ cJ h F_79 G (va_up V 0 0)) := hD
                                      obtain rfl : r_88 = nI (min 200 (u + (cm (q)))) := hw_90
                                      refine lv_istore (lv' := [(5, .int (nI (min 200 (u + (cm (q)))))), (4, .int 1), (7, .int 7), (6, .int x_69), (0, .ref (h 0)), (1, .ref (h 18)), (2, .int (nI q)), (3, .int (nI u))]) hx hb dX5_plan_115 hl (by decide) rfl (fun ls hl => ?_)
                                      refine lv_aload_n hx hb dX5_plan_117 rfl (lv_at hl 4 rfl) ?_
                                      refine va_get (D := (dC, dI)) (ci := 5) (v := .ref (h 16)) (C := RX5) (T := TX5) (N := 33) hx hb hts hin_X5 hown hK hP 0 rfl rfl 25 (by decide) hw7 (fun _ h9 => h9) rfl dX5_plan_118 ?_
                                      refine lv_iload_n hx hb dX5_plan_121 rfl (lv_at hl 6 rfl) ?_
                                      refine lv_iconst (v := 1) hx hb dX5_plan_122 (by decide) ?_
                                      refine lv_iadd hx hb dX5_plan_123 ?_
                                      refine lv_topi (fun x_91 ex_91 => ?_)
                                      obtain rfl : x_91 = nI (q + 1) := ex_91.trans (nI_add q 1)
                                      refine lv_iload hx hb dX5_plan_124 (lv_at hl 0 rfl) ?_
                                      refine lv_iconst (v := 0) hx hb dX5_plan_126 (by decide) ?_
                                      refine cw_Si (As := [.int (nI (q + 1)), .int (nI (min 200 (u + (cm (q))))), .int 0]) (rest := [.ref (h 16)]) (c_X5_state l dC dI cI cZ cJ (wM cI cZ cJ h F_79 G (va_up V 0 0)) (q + 1) (min 200 (u + (cm (q)))) 0 (by omega)) fx (va_cwS 3 hts gX5_plan_X5_state rfl rfl rfl (by decide +kernel) ⟨Nat.le_of_ble_eq_true rfl, Nat.le_of_ble_eq_true rfl⟩) hK hP hD hS hA rfl hl.1 rfl (Nat.le_of_ble_eq_true rfl) dX5_plan_127 ⟨Nat.le_of_ble_eq_true rfl, Nat.le_of_ble_eq_true rfl⟩ (fun r_92 u_93 H locs hw_94 hP hD hS => ?_)
                                      have hP : va_P (dC, dI) vwCl (wM cI cZ cJ h F_79 G (va_up V 0 0)) H := hP
                                      have hD : va_D A (wM cI cZ cJ h F_79 G (va_up V 0 0)) := hD
                                      obtain rfl : r_92 = nI ((201 * (q + 1) + (min 200 (u + (cm (q))))) * 2 + 0) := hw_94
                                      refine va_iald hx hb hK hP 16 0 rfl rfl (vp_in_nI (n := (201 * (q + 1) + (min 200 (u + (cm (q))))) * 2 + 0) (N := 10050) (by omega) (by decide)) dX5_plan_130 ?_
                                      refine lv_topi (fun x_95 ex_95 => ?_)
                                      rw [nI_clamp (n := (201 * (q + 1) + (min 200 (u + (cm (q))))) * 2 + 0) (by omega)] at ex_95
                                      refine lv_istore (lv' := [(6, .int x_95), (5, .int (nI (min 200 (u + (cm (q)))))), (4, .int 1), (7, .int 7), (0, .ref (h 0)), (1, .ref (h 18)), (2, .int (nI q)), (3, .int (nI u))]) hx hb dX5_plan_131 hl (by decide) rfl (fun ls hl => ?_)
                                      refine lv_iload hx hb dX5_plan_133 (lv_at hl 2 rfl) ?_
                                      refine lv_iconst (v := 1) hx hb dX5_plan_135 (by decide) ?_
                                      refine lv_icmp_ne (tgt := 143) hx hb dX5_plan_136 (by decide) (fun c_96 => ?_) (fun c_96 => ?_)
                                      · exact absurd c_96 (by decide)
                                      · refine lv_iconst (v := 1) hx hb dX5_plan_139 (by decide) ?_
                                        refine lv_goto (tgt := 144) hx hb dX5_plan_140 (by decide) ?_
                                        refine cw_Si (As := [.int 1]) (rest := []) (c_X5_takes l dC dI cI cZ cJ (wM cI cZ cJ h F_79 G (va_up V 0 0)) 1 (by omega)) fx (va_cwS 1 hts gX5_plan_X5_takes rfl rfl rfl (by decide +kernel) ⟨Nat.le_of_ble_eq_true rfl, Nat.le_of_ble_eq_true rfl⟩) hK hP hD hS hA rfl hl.1 rfl (Nat.le_of_ble_eq_true rfl) dX5_plan_144 ⟨Nat.le_of_ble_eq_true rfl, Nat.le_of_ble_eq_true rfl⟩ (fun r_97 u_98 H locs hw_99 hP hD hS => ?_)
                                        have hP : va_P (dC, dI) vwCl (wM cI cZ cJ h F_79 G (va_up V 0 0)) H := hP
                                        have hD : va_D A (wM cI cZ cJ h F_79 G (va_up V 0 0)) := hD
                                        obtain rfl : r_97 = 5 := hw_99
                                        refine lv_istore (lv' := [(7, .int 5), (6, .int x_95), (5, .int (nI (min 200 (u + (cm (q)))))), (4, .int 1), (0, .ref (h 0)), (1, .ref (h 18)), (2, .int (nI q)), (3, .int (nI u))]) hx hb dX5_plan_147 hl (by decide) rfl (fun ls hl => ?_)
                                        refine lv_iload hx hb dX5_plan_149 (lv_at hl 2 rfl) ?_
                                        refine lv_iload hx hb dX5_plan_151 (lv_at hl 0 rfl) ?_
                                        refine lv_icmp_lt (tgt := 189) hx hb dX5_plan_153 (by decide) (fun c_100 => ?_) (fun c_100 => ?_)
                                        · have c_100 : (min 200 (u + (cm (q)))) < 5 := (nI_ltI (a := min 200 (u + (cm (q)))) (b := 5) (by omega) (by omega)).mp c_100
                                          refine lv_aload_n hx hb dX5_plan_189 rfl (lv_at hl 4 rfl) ?_
                                          refine va_get (D := (dC, dI)) (ci := 5) (v := .ref (h 16)) (C := RX5) (T := TX5) (N := 33) hx hb hts hin_X5 hown hK hP 0 rfl rfl 25 (by decide) hw7 (fun _ h9 => h9) rfl dX5_plan_190 ?_
                                          refine lv_iload_n hx hb dX5_plan_193 rfl (lv_at hl 6 rfl) ?_
                                          refine lv_iload_n hx hb dX5_plan_194 rfl (lv_at hl 7 rfl) ?_
                                          refine lv_iload hx hb dX5_plan_195 (lv_at hl 3 rfl) ?_
                                          refine lv_iconst (v := 1) hx hb dX5_plan_197 (by decide) ?_
                                          refine lv_icmp_ne (tgt := 205) hx hb dX5_plan_198 (by decide) (fun c_101 => ?_) (fun c_101 => ?_)
                                          · exact absurd c_101 (by decide)
                                          · refine lv_iconst (v := 1) hx hb dX5_plan_201 (by decide) ?_
                                            refine lv_goto (tgt := 206) hx hb dX5_plan_202 (by decide) ?_
                                            refine cw_Si (As := [.int (nI q), .int (nI u), .int 1]) (rest := [.ref (h 16)]) (c_X5_state l dC dI cI cZ cJ (wM cI cZ cJ h F_79 G (va_up V 0 0)) q u 1 (by omega)) fx (va_cwS 3 hts gX5_plan_X5_state rfl rfl rfl (by decide +kernel) ⟨Nat.le_of_ble_eq_true rfl, Nat.le_of_ble_eq_true rfl⟩) hK hP hD hS hA rfl hl.1 rfl (Nat.le_of_ble_eq_true rfl) dX5_plan_206 ⟨Nat.le_of_ble_eq_true rfl, Nat.le_of_ble_eq_true rfl⟩ (fun r_102 u_103 H locs hw_104 hP hD hS => ?_)
                                            have hP : va_P (dC, dI) vwCl (wM cI cZ cJ h F_79 G (va_up V 0 0)) H := hP
                                            have hD : va_D A (wM cI cZ cJ h F_79 G (va_up V 0 0)) := hD
                                            obtain rfl : r_102 = nI ((201 * q + u) * 2 + 1) := hw_104
                                            refine lv_iload hx hb dX5_plan_209 (lv_at hl 1 rfl) ?_
                                            refine va_iast hx hb hK hP hD hS 16 0 rfl rfl (vp_in_nI (n := (201 * q + u) * 2 + 1) (N := 10050) (by omega) (by decide)) dX5_plan_211 (fun H locs hP hD hS => ?_)
                                            obtain ⟨F_105, eF_105⟩ : ∃ z : Nat → Nat → Int32, z = va_up F_79 16 (upd (F_79 16) (nI ((201 * q + u) * 2 + 1)).toNatClampNeg x_95) := ⟨_, rfl⟩
                                            have hP : va_P (dC, dI) vwCl (wM cI cZ cJ h F_105 G (va_up V 0 0)) H := by rw [eF_105]; exact hP
                                            have hD : va_D A (wM cI cZ cJ h F_105 G (va_up V 0 0)) := by rw [eF_105]; exact hD
                                            have hN_106 : ∀ i, i < 24 → F_105 9 i = nI (Pr i) := by rw [eF_105]; exact hN_80
                                            have hb_107 : x_95 = rowf Pr cm (24 - q) (2 * u + 1) := by
                                              rw [rowf_at _ _ (by omega) (by omega)]
                                              have q1 : x_95 = rowf Pr cm (23 - q) (2 * (min 200 (u + cm (q)))) := (ex_95).trans ((congrArg (F_79 16) (show _ = 402 * (q + 1) + 2 * (min 200 (u + cm (q))) by omega)).trans ((hb_83 (q + 1) (by omega) (by omega) _ (by omega)).trans (by rw [show 24 - (q + 1) = 23 - q by omega])))
                                              rw [q1]; exact wval_low _ _ _ _ (by omega)
                                            have hb_108 : ∀ i, i < 2 * u + 1 + 1 → F_105 16 (402 * q + i) = rowf Pr cm (24 - q) i := fun i hi => by
                                              rw [eF_105]
                                              show upd (F_79 16) (nI ((201 * q + u) * 2 + 1)).toNatClampNeg _ (402 * q + i) = _
                                              rw [nI_clamp (by omega)]
                                              by_cases e : i = 2 * u + 1
                                              · rw [show 402 * q + i = (201 * q + u) * 2 + 1 by omega, e, ← hb_107]; exact pk_us
                                              · rw [pk_un (by omega)]; exact hb_82 i (by omega)
                                            have hb_109 : ∀ t, q + 1 ≤ t → t ≤ 24 → ∀ i, i < 402 → F_105 16 (402 * t + i) = rowf Pr cm (24 - t) i := fun t h1 h2 i hi => by
                                              rw [eF_105]
                                              show upd (F_79 16) (nI ((201 * q + u) * 2 + 1)).toNatClampNeg _ (402 * t + i) = _
                                              rw [nI_clamp (by omega), pk_un (by omega)]; exact hb_83 t h1 h2 i hi
                                            have hb_110 : ∀ i, nw ≤ i → i < 24 → F_105 18 i = nI (cm i) ∧ cm i ≤ 40 := by rw [eF_105]; exact hb_84
                                            refine lv_iinc (v := 2) (lv' := [(4, .int 2), (7, .int 5), (6, .int x_95), (5, .int (nI (min 200 (u + (cm (q)))))), (0, .ref (h 0)), (1, .ref (h 18)), (2, .int (nI q)), (3, .int (nI u))]) hx hb dX5_plan_212 hl (k := 3) rfl (by decide) (by decide) rfl (fun ls hl => ?_)
                                            refine lv_goto (tgt := 102) hx hb dX5_plan_215 (by decide) ?_
                                            refine lv_iload hx hb dX5_plan_102 (lv_at hl 0 rfl) ?_
                                            refine lv_iconst (v := 2) hx hb dX5_plan_104 (by decide) ?_
                                            refine lv_icmp_ge (tgt := 218) hx hb dX5_plan_105 (by decide) (fun c_111 => ?_) (fun c_111 => ?_)
                                            · refine lv_iinc (v := nI (u + 1)) (lv' := [(3, .int (nI (u + 1))), (4, .int 2), (7, .int 5), (6, .int x_95), (5, .int (nI (min 200 (u + (cm (q)))))), (0, .ref (h 0)), (1, .ref (h 18)), (2, .int (nI q))]) hx hb dX5_plan_218 hl (k := 7) rfl (nI_1 _) (by decide) rfl (fun ls hl => ?_)
                                              refine lv_goto (tgt := 92) hx hb dX5_plan_221 (by decide) ?_
                                              exact ih92 (u + 1) F_105 (by omega) hb_110 hb_108 hb_109 (fun j hj => ((va_ne eF_105 (fun h => hj (by rw [h]; decide))).trans ((va_ne eF_79 (fun h => hj (by rw [h]; decide))).trans (hfr4 j hj)))) (by omega) H locs ls hP hD hS (lv_sub hl [5, 6, 7, 0] rfl)
                                            · exact absurd c_111 (by decide)
                                        · have c_100 : ¬ (min 200 (u + (cm (q)))) < 5 := fun h => c_100 ((nI_ltI (a := min 200 (u + (cm (q)))) (b := 5) (by omega) (by omega)).mpr h)
                                          refine lv_iload hx hb dX5_plan_156 (lv_at hl 1 rfl) ?_
                                          refine lv_iconst (v := 5) hx hb dX5_plan_158 (by decide) ?_
                                          refine lv_aload_n hx hb dX5_plan_159 rfl (lv_at hl 4 rfl) ?_
                                          refine va_get (D := (dC, dI)) (ci := 5) (v := .ref (h 9)) (C := RX5) (T := TX5) (N := 33) hx hb hts hin_X5 hown hK hP 0 rfl rfl 16 (by decide) hw9 (fun _ h9 => h9) rfl dX5_plan_160 ?_
                                          refine lv_iload_n hx hb dX5_plan_163 rfl (lv_at hl 6 rfl) ?_
                                          refine va_iald hx hb hK hP 9 0 rfl rfl (vp_in_nI (n := q) (N := 24) (by omega) (by decide)) dX5_plan_164 ?_
                                          have hb_112 := bPr q (by omega)
                                          refine lv_topi (fun x_113 ex_113 => ?_)
                                          obtain rfl : x_113 = nI (Pr q) := ex_113.trans ((congrArg (F_79 9) (nI_clamp (n := q) (by omega))).trans (hN_80 q (by omega)))
                                          refine lv_imul hx hb dX5_plan_165 ?_
                                          refine lv_topi (fun x_114 ex_114 => ?_)
                                          obtain rfl : x_114 = nI (5 * (Pr q)) := ex_114.trans (pk_mul 5 (Pr q))
                                          refine lv_aload_n hx hb dX5_plan_166 rfl (lv_at hl 4 rfl) ?_
                                          refine va_get (D := (dC, dI)) (ci := 5) (v := .ref (h 16)) (C := RX5) (T := TX5) (N := 33) hx hb hts hin_X5 hown hK hP 0 rfl rfl 25 (by decide) hw7 (fun _ h9 => h9) rfl dX5_plan_167 ?_
                                          refine lv_iload_n hx hb dX5_plan_170 rfl (lv_at hl 6 rfl) ?_
                                          refine lv_iconst (v := 1) hx hb dX5_plan_171 (by decide) ?_
                                          refine lv_iadd hx hb dX5_plan_172 ?_
                                          refine lv_topi (fun x_115 ex_115 => ?_)
                                          obtain rfl : x_115 = nI (q + 1) := ex_115.trans (nI_add q 1)
                                          refine lv_iload hx hb dX5_plan_173 (lv_at hl 2 rfl) ?_
                                          refine lv_iload hx hb dX5_plan_175 (lv_at hl 0 rfl) ?_
                                          refine lv_isub hx hb dX5_plan_177 ?_
                                          refine lv_topi (fun x_116 ex_116 => ?_)
                                          obtain rfl : x_116 = nI ((min 200 (u + (cm (q)))) - 5) := ex_116.trans (pk_sub (a := min 200 (u + (cm (q)))) (b := 5) (by omega))
                                          refine lv_iconst (v := 1) hx hb dX5_plan_178 (by decide) ?_
                                          refine cw_Si (As := [.int (nI (q + 1)), .int (nI ((min 200 (u + (cm (q)))) - 5)), .int 1]) (rest := [.ref (h 16), .int (nI (5 * (Pr q))), .int x_95]) (c_X5_state l dC dI cI cZ cJ (wM cI cZ cJ h F_79 G (va_up V 0 0)) (q + 1) ((min 200 (u + (cm (q)))) - 5) 1 (by omega)) fx (va_cwS 3 hts gX5_plan_X5_state rfl rfl rfl (by decide +kernel) ⟨Nat.le_of_ble_eq_true rfl, Nat.le_of_ble_eq_true rfl⟩) hK hP hD hS hA rfl hl.1 rfl (Nat.le_of_ble_eq_true rfl) dX5_plan_179 ⟨Nat.le_of_ble_eq_true rfl, Nat.le_of_ble_eq_true rfl⟩ (fun r_117 u_118 H locs hw_119 hP hD hS => ?_)
                                          have hP : va_P (dC, dI) vwCl (wM cI cZ cJ h F_79 G (va_up V 0 0)) H := hP
                                          have hD : va_D A (wM cI cZ cJ h F_79 G (va_up V 0 0)) := hD
                                          obtain rfl : r_117 = nI ((201 * (q + 1) + ((min 200 (u + (cm (q)))) - 5)) * 2 + 1) := hw_119
                                          refine va_iald hx hb hK hP 16 0 rfl rfl (vp_in_nI (n := (201 * (q + 1) + ((min 200 (u + (cm (q)))) - 5)) * 2 + 1) (N := 10050) (by omega) (by decide)) dX5_plan_182 ?_
                                          refine lv_topi (fun x_120 ex_120 => ?_)
                                          rw [nI_clamp (n := (201 * (q + 1) + ((min 200 (u + (cm (q)))) - 5)) * 2 + 1) (by omega)] at ex_120
                                          refine lv_iadd hx hb dX5_plan_183 ?_
                                          refine va_mmax hx hb (hml.trans hl.1.symm) hown hw10 hw11 hw12 hw13 (Nat.le_of_ble_eq_true rfl) (Nat.le_of_ble_eq_true rfl) (Nat.le_of_ble_eq_true rfl) (Nat.le_of_ble_eq_true rfl) dX5_plan_184 ?_
                                          refine lv_topi (fun x_121 ex_121 => ?_)
                                          refine lv_istore (lv' := [(6, .int x_121), (7, .int 5), (5, .int (nI (min 200 (u + (cm (q)))))), (4, .int 1), (0, .ref (h 0)), (1, .ref (h 18)), (2, .int (nI q)), (3, .int (nI u))]) hx hb dX5_plan_187 hl (by decide) rfl (fun ls hl => ?_)
                                          refine lv_aload_n hx hb dX5_plan_189 rfl (lv_at hl 4 rfl) ?_
                                          refine va_get (D := (dC, dI)) (ci := 5) (v := .ref (h 16)) (C := RX5) (T := TX5) (N := 33) hx hb hts hin_X5 hown hK hP 0 rfl rfl 25 (by decide) hw7 (fun _ h9 => h9) rfl dX5_plan_190 ?_
                                          refine lv_iload_n hx hb dX5_plan_193 rfl (lv_at hl 6 rfl) ?_
                                          refine lv_iload_n hx hb dX5_plan_194 rfl (lv_at hl 7 rfl) ?_
                                          refine lv_iload hx hb dX5_plan_195 (lv_at hl 3 rfl) ?_
                                          refine lv_iconst (v := 1) hx hb dX5_plan_197 (by decide) ?_
                                          refine lv_icmp_ne (tgt := 205) hx hb dX5_plan_198 (by decide) (fun c_122 => ?_) (fun c_122 => ?_)
                                          · exact absurd c_122 (by decide)
                                          · refine lv_iconst (v := 1) hx hb dX5_plan_201 (by decide) ?_
                                            refine lv_goto (tgt := 206) hx hb dX5_plan_202 (by decide) ?_
                                            refine cw_Si (As := [.int (nI q), .int (nI u), .int 1]) (rest := [.ref (h 16)]) (c_X5_state l dC dI cI cZ cJ (wM cI cZ cJ h F_79 G (va_up V 0 0)) q u 1 (by omega)) fx (va_cwS 3 hts gX5_plan_X5_state rfl rfl rfl (by decide +kernel) ⟨Nat.le_of_ble_eq_true rfl, Nat.le_of_ble_eq_true rfl⟩) hK hP hD hS hA rfl hl.1 rfl (Nat.le_of_ble_eq_true rfl) dX5_plan_206 ⟨Nat.le_of_ble_eq_true rfl, Nat.le_of_ble_eq_true rfl⟩ (fun r_123 u_124 H locs hw_125 hP hD hS => ?_)
                                            have hP : va_P (dC, dI) vwCl (wM cI cZ cJ h F_79 G (va_up V 0 0)) H := hP
                                            have hD : va_D A (wM cI cZ cJ h F_79 G (va_up V 0 0)) := hD
                                            obtain rfl : r_123 = nI ((201 * q + u) * 2 + 1) := hw_125
                                            refine lv_iload hx hb dX5_plan_209 (lv_at hl 0 rfl) ?_
                                            refine va_iast hx hb hK hP hD hS 16 0 rfl rfl (vp_in_nI (n := (201 * q + u) * 2 + 1) (N := 10050) (by omega) (by decide)) dX5_plan_211 (fun H locs hP hD hS => ?_)
                                            obtain ⟨F_126, eF_126⟩ : ∃ z : Nat → Nat → Int32, z = va_up F_79 16 (upd (F_79 16) (nI ((201 * q + u) * 2 + 1)).toNatClampNeg x_121) := ⟨_, rfl⟩
                                            have hP : va_P (dC, dI) vwCl (wM cI cZ cJ h F_126 G (va_up V 0 0)) H := by rw [eF_126]; exact hP
                                            have hD : va_D A (wM cI cZ cJ h F_126 G (va_up V 0 0)) := by rw [eF_126]; exact hD
                                            have hN_127 : ∀ i, i < 24 → F_126 9 i = nI (Pr i) := by rw [eF_126]; exact hN_80
                                            have hb_128 : x_121 = rowf Pr cm (24 - q) (2 * u + 1) := by
                                              rw [rowf_at _ _ (by omega) (by omega)]
                                              have q1 : x_95 = rowf Pr cm (23 - q) (2 * (min 200 (u + cm (q)))) := (ex_95).trans ((congrArg (F_79 16) (show _ = 402 * (q + 1) + 2 * (min 200 (u + cm (q))) by omega)).trans ((hb_83 (q + 1) (by omega) (by omega) _ (by omega)).trans (by rw [show 24 - (q + 1) = 23 - q by omega])))
                                              have q2 : x_120 = rowf Pr cm (23 - q) (2 * ((min 200 (u + cm (q))) - (7 - 2 * 1)) + 1) := (ex_120).trans ((congrArg (F_79 16) (show _ = 402 * (q + 1) + (2 * ((min 200 (u + cm (q))) - (7 - 2 * 1)) + 1) by omega)).trans ((hb_83 (q + 1) (by omega) (by omega) _ (by omega)).trans (by rw [show 24 - (q + 1) = 23 - q by omega])))
                                              rw [ex_121, q1, q2]; exact wval_max _ _ _ _ (by omega)
                                            have hb_129 : ∀ i, i < 2 * u + 1 + 1 → F_126 16 (402 * q + i) = rowf Pr cm (24 - q) i := fun i hi => by
                                              rw [eF_126]
                                              show upd (F_79 16) (nI ((201 * q + u) * 2 + 1)).toNatClampNeg _ (402 * q + i) = _
                                              rw [nI_clamp (by omega)]
                                              by_cases e : i = 2 * u + 1
                                              · rw [show 402 * q + i = (201 * q + u) * 2 + 1 by omega, e, ← hb_128]; exact pk_us
                                              · rw [pk_un (by omega)]; exact hb_82 i (by omega)
                                            have hb_130 : ∀ t, q + 1 ≤ t → t ≤ 24 → ∀ i, i < 402 → F_126 16 (402 * t + i) = rowf Pr cm (24 - t) i := fun t h1 h2 i hi => by
                                              rw [eF_126]
                                              show upd (F_79 16) (nI ((201 * q + u) * 2 + 1)).toNatClampNeg _ (402 * t + i) = _
                                              rw [nI_clamp (by omega), pk_un (by omega)]; exact hb_83 t h1 h2 i hi
                                            have hb_131 : ∀ i, nw ≤ i → i < 24 → F_126 18 i = nI (cm i) ∧ cm i ≤ 40 := by rw [eF_126]; exact hb_84
                                            refine lv_iinc (v := 2) (lv' := [(4, .int 2), (6, .int x_121), (7, .int 5), (5, .int (nI (min 200 (u + (cm (q)))))), (0, .ref (h 0)), (1, .ref (h 18)), (2, .int (nI q)), (3, .int (nI u))]) hx hb dX5_plan_212 hl (k := 3) rfl (by decide) (by decide) rfl (fun ls hl => ?_)
                                            refine lv_goto (tgt := 102) hx hb dX5_plan_215 (by decide) ?_
                                            refine lv_iload hx hb dX5_plan_102 (lv_at hl 0 rfl) ?_
                                            refine lv_iconst (v := 2) hx hb dX5_plan_104 (by decide) ?_
                                            refine lv_icmp_ge (tgt := 218) hx hb dX5_plan_105 (by decide) (fun c_132 => ?_) (fun c_132 => ?_)
                                            · refine lv_iinc (v := nI (u + 1)) (lv' := [(3, .int (nI (u + 1))), (4, .int 2), (6, .int x_121), (7, .int 5), (5, .int (nI (min 200 (u + (cm (q)))))), (0, .ref (h 0)), (1, .ref (h 18)), (2, .int (nI q))]) hx hb dX5_plan_218 hl (k := 7) rfl (nI_1 _) (by decide) rfl (fun ls hl => ?_)
                                              refine lv_goto (tgt := 92) hx hb dX5_plan_221 (by decide) ?_
                                              exact ih92 (u + 1) F_126 (by omega) hb_131 hb_129 hb_130 (fun j hj => ((va_ne eF_126 (fun h => hj (by rw [h]; decide))).trans ((va_ne eF_79 (fun h => hj (by rw [h]; decide))).trans (hfr4 j hj)))) (by omega) H locs ls hP hD hS (lv_sub hl [5, 6, 7, 0] rfl)
                                            · exact absurd c_132 (by decide)
                                  · exact absurd c_75 (by decide)
                                · have c_74 : ¬ (min 200 (u + (cm (q)))) < 7 := fun h => c_74 ((nI_ltI (a := min 200 (u + (cm (q)))) (b := 7) (by omega) (by omega)).mpr h)
                                  refine lv_iload hx hb dX5_plan_156 (lv_at hl 1 rfl) ?_
                                  refine lv_iconst (v := 5) hx hb dX5_plan_158 (by decide) ?_
                                  refine lv_aload_n hx hb dX5_plan_159 rfl (lv_at hl 4 rfl) ?_
                                  refine va_get (D := (dC, dI)) (ci := 5) (v := .ref (h 9)) (C := RX5) (T := TX5) (N := 33) hx hb hts hin_X5 hown hK hP 0 rfl rfl 16 (by decide) hw9 (fun _ h9 => h9) rfl dX5_plan_160 ?_
                                  refine lv_iload_n hx hb dX5_plan_163 rfl (lv_at hl 6 rfl) ?_
                                  refine va_iald hx hb hK hP 9 0 rfl rfl (vp_in_nI (n := q) (N := 24) (by omega) (by decide)) dX5_plan_164 ?_
                                  have hb_133 := bPr q (by omega)
                                  refine lv_topi (fun x_134 ex_134 => ?_)
                                  obtain rfl : x_134 = nI (Pr q) := ex_134.trans ((congrArg (F4 9) (nI_clamp (n := q) (by omega))).trans (hN_57 q (by omega)))
                                  refine lv_imul hx hb dX5_plan_165 ?_
                                  refine lv_topi (fun x_135 ex_135 => ?_)
                                  obtain rfl : x_135 = nI (5 * (Pr q)) := ex_135.trans (pk_mul 5 (Pr q))
                                  refine lv_aload_n hx hb dX5_plan_166 rfl (lv_at hl 4 rfl) ?_
                                  refine va_get (D := (dC, dI)) (ci := 5) (v := .ref (h 16)) (C := RX5) (T := TX5) (N := 33) hx hb hts hin_X5 hown hK hP 0 rfl rfl 25 (by decide) hw7 (fun _ h9 => h9) rfl dX5_plan_167 ?_
                                  refine lv_iload_n hx hb dX5_plan_170 rfl (lv_at hl 6 rfl) ?_
                                  refine lv_iconst (v := 1) hx hb dX5_plan_171 (by decide) ?_
                                  refine lv_iadd hx hb dX5_plan_172 ?_
                                  refine lv_topi (fun x_136 ex_136 => ?_)
                                  obtain rfl : x_136 = nI (q + 1) := ex_136.trans (nI_add q 1)
                                  refine lv_iload hx hb dX5_plan_173 (lv_at hl 2 rfl) ?_
                                  refine lv_iload hx hb dX5_plan_175 (lv_at hl 0 rfl) ?_
                                  refine lv_isub hx hb dX5_plan_177 ?_
                                  refine lv_topi (fun x_137 ex_137 => ?_)
                                  obtain rfl : x_137 = nI ((min 200 (u + (cm (q)))) - 7) := ex_137.trans (pk_sub (a := min 200 (u + (cm (q)))) (b := 7) (by omega))
                                  refine lv_iconst (v := 1) hx hb dX5_plan_178 (by decide) ?_
                                  refine cw_Si (As := [.int (nI (q + 1)), .int (nI ((min 200 (u + (cm (q)))) - 7)), .int 1]) (rest := [.ref (h 16), .int (nI (5 * (Pr q))), .int x_69]) (c_X5_state l dC dI cI cZ cJ (wM cI cZ cJ h F4 G (va_up V 0 0)) (q + 1) ((min 200 (u + (cm (q)))) - 7) 1 (by omega)) fx (va_cwS 3 hts gX5_plan_X5_state rfl rfl rfl (by decide +kernel) ⟨Nat.le_of_ble_eq_true rfl, Nat.le_of_ble_eq_true rfl⟩) hK hP hD hS hA rfl hl.1 rfl (Nat.le_of_ble_eq_true rfl) dX5_plan_179 ⟨Nat.le_of_ble_eq_true rfl, Nat.le_of_ble_eq_true rfl⟩ (fun r_138 u_139 H locs hw_140 hP hD hS => ?_)
                                  have hP : va_P (dC, dI) vwCl (wM cI cZ cJ h F4 G (va_up V 0 0)) H := hP
                                  have hD : va_D A (wM cI cZ cJ h F4 G (va_up V 0 0)) := hD
                                  obtain rfl : r_138 = nI ((201 * (q + 1) + ((min 200 (u + (cm (q)))) - 7)) * 2 + 1) := hw_140
                                  refine va_iald hx hb hK hP 16 0 rfl rfl (vp_in_nI (n := (201 * (q + 1) + ((min 200 (u + (cm (q)))) - 7)) * 2 + 1) (N := 10050) (by omega) (by decide)) dX5_plan_182 ?_
                                  refine lv_topi (fun x_141 ex_141 => ?_)
                                  rw [nI_clamp (n := (201 * (q + 1) + ((min 200 (u + (cm (q)))) - 7)) * 2 + 1) (by omega)] at ex_141
                                  refine lv_iadd hx hb dX5_plan_183 ?_
                                  refine va_mmax hx hb (hml.trans hl.1.symm) hown hw10 hw11 hw12 hw13 (Nat.le_of_ble_eq_true rfl) (Nat.le_of_ble_eq_true rfl) (Nat.le_of_ble_eq_true rfl) (Nat.le_of_ble_eq_true rfl) dX5_plan_184 ?_
                                  refine lv_topi (fun x_142 ex_142 => ?_)
                                  refine lv_istore (lv' := [(6, .int x_142), (7, .int 7), (5, .int (nI (min 200 (u + (cm (q)))))), (4, .int 0), (0, .ref (h 0)), (1, .ref (h 18)), (2, .int (nI q)), (3, .int (nI u))]) hx hb dX5_plan_187 hl (by decide) rfl (fun ls hl => ?_)
                                  refine lv_aload_n hx hb dX5_plan_189 rfl (lv_at hl 4 rfl) ?_
                                  refine va_get (D := (dC, dI)) (ci := 5) (v := .ref (h 16)) (C := RX5) (T := TX5) (N := 33) hx hb hts hin_X5 hown hK hP 0 rfl rfl 25 (by decide) hw7 (fun _ h9 => h9) rfl dX5_plan_190 ?_
                                  refine lv_iload_n hx hb dX5_plan_193 rfl (lv_at hl 6 rfl) ?_
                                  refine lv_iload_n hx hb dX5_plan_194 rfl (lv_at hl 7 rfl) ?_
                                  refine lv_iload hx hb dX5_plan_195 (lv_at hl 3 rfl) ?_
                                  refine lv_iconst (v := 1) hx hb dX5_plan_197 (by decide) ?_
                                  refine lv_icmp_ne (tgt := 205) hx hb dX5_plan_198 (by decide) (fun c_143 => ?_) (fun c_143 => ?_)
                                  · refine lv_iconst (v := 0) hx hb dX5_plan_205 (by decide) ?_
                                    refine cw_Si (As := [.int (nI q), .int (nI u), .int 0]) (rest := [.ref (h 16)]) (c_X5_state l dC dI cI cZ cJ (wM cI cZ cJ h F4 G (va_up V 0 0)) q u 0 (by omega)) fx (va_cwS 3 hts gX5_plan_X5_state rfl rfl rfl (by decide +kernel) ⟨Nat.le_of_ble_eq_true rfl, Nat.le_of_ble_eq_true rfl⟩) hK hP hD hS hA rfl hl.1 rfl (Nat.le_of_ble_eq_true rfl) dX5_plan_206 ⟨Nat.le_of_ble_eq_true rfl, Nat.le_of_ble_eq_true rfl⟩ (fun r_144 u_145 H locs hw_146 hP hD hS => ?_)
                                    have hP : va_P (dC, dI) vwCl (wM cI cZ cJ h F4 G (va_up V 0 0)) H := hP
                                    have hD : va_D A (wM cI cZ cJ h F4 G (va_up V 0 0)) := hD
                                    obtain rfl : r_144 = nI ((201 * q + u) * 2 + 0) := hw_146
                                    refine lv_iload hx hb dX5_plan_209 (lv_at hl 0 rfl) ?_
                                    refine va_iast hx hb hK hP hD hS 16 0 rfl rfl (vp_in_nI (n := (201 * q + u) * 2 + 0) (N := 10050) (by omega) (by decide)) dX5_plan_211 (fun H locs hP hD hS => ?_)
                                    obtain ⟨F_147, eF_147⟩ : ∃ z : Nat → Nat → Int32, z = va_up F4 16 (upd (F4 16) (nI ((201 * q + u) * 2 + 0)).toNatClampNeg x_142) := ⟨_, rfl⟩
                                    have hP : va_P (dC, dI) vwCl (wM cI cZ cJ h F_147 G (va_up V 0 0)) H := by rw [eF_147]; exact hP
                                    have hD : va_D A (wM cI cZ cJ h F_147 G (va_up V 0 0)) := by rw [eF_147]; exact hD
                                    have hN_148 : ∀ i, i < 24 → F_147 9 i = nI (Pr i) := by rw [eF_147]; exact hN_57
                                    have hb_149 : x_142 = rowf Pr cm (24 - q) (2 * u + 0) := by
                                      rw [rowf_at _ _ (by omega) (by omega)]
                                      have q1 : x_69 = rowf Pr cm (23 - q) (2 * (min 200 (u + cm (q)))) := (ex_69).trans ((congrArg (F4 16) (show _ = 402 * (q + 1) + 2 * (min 200 (u + cm (q))) by omega)).trans ((hW4 (q + 1) (by omega) (by omega) _ (by omega)).trans (by rw [show 24 - (q + 1) = 23 - q by omega])))
                                      have q2 : x_141 = rowf Pr cm (23 - q) (2 * ((min 200 (u + cm (q))) - (7 - 2 * 0)) + 1) := (ex_141).trans ((congrArg (F4 16) (show _ = 402 * (q + 1) + (2 * ((min 200 (u + cm (q))) - (7 - 2 * 0)) + 1) by omega)).trans ((hW4 (q + 1) (by omega) (by omega) _ (by omega)).trans (by rw [show 24 - (q + 1) = 23 - q by omega])))
                                      rw [ex_142, q1, q2]; exact wval_max _ _ _ _ (by omega)
                                    have hb_150 : ∀ i, i < 2 * u + 0 + 1 → F_147 16 (402 * q + i) = rowf Pr cm (24 - q) i := fun i hi => by
                                      rw [eF_147]
                                      show upd (F4 16) (nI ((201 * q + u) * 2 + 0)).toNatClampNeg _ (402 * q + i) = _
                                      rw [nI_clamp (by omega)]
                                      by_cases e : i = 2 * u + 0
                                      · rw [show 402 * q + i = (201 * q + u) * 2 + 0 by omega, e, ← hb_149]; exact pk_us
                                      · rw [pk_un (by omega)]; exact hlo4 i (by omega)
                                    have hb_151 : ∀ t, q + 1 ≤ t → t ≤ 24 → ∀ i, i < 402 → F_147 16 (402 * t + i) = rowf Pr cm (24 - t) i := fun t h1 h2 i hi => by
                                      rw [eF_147]
                                      show upd (F4 16) (nI ((201 * q + u) * 2 + 0)).toNatClampNeg _ (402 * t + i) = _
                                      rw [nI_clamp (by omega), pk_un (by omega)]; exact hW4 t h1 h2 i hi
                                    have hb_152 : ∀ i, nw ≤ i → i < 24 → F_147 18 i = nI (cm i) ∧ cm i ≤ 40 := by rw [eF_147]; exact hcm4
                                    refine lv_iinc (v := 1) (lv' := [(4, .int 1), (6, .int x_142), (7, .int 7), (5, .int (nI (min 200 (u + (cm (q)))))), (0, .ref (h 0)), (1, .ref (h 18)), (2, .int (nI q)), (3, .int (nI u))]) hx hb dX5_plan_212 hl (k := 3) rfl (by decide) (by decide) rfl (fun ls hl => ?_)
                                    refine lv_goto (tgt := 102) hx hb dX5_plan_215 (by decide) ?_
                                    refine lv_iload hx hb dX5_plan_102 (lv_at hl 0 rfl) ?_
                                    refine lv_iconst (v := 2) hx hb dX5_plan_104 (by decide) ?_
                                    refine lv_icmp_ge (tgt := 218) hx hb dX5_plan_105 (by decide) (fun c_153 => ?_) (fun c_153 => ?_)
                                    · exact absurd c_153 (by decide)
                                    · refine lv_iload_n hx hb dX5_plan_108 rfl (lv_at hl 7 rfl) ?_
                                      refine lv_aload_n hx hb dX5_plan_109 rfl (lv_at hl 5 rfl) ?_
                                      refine lv_iload_n hx hb dX5_plan_110 rfl (lv_at hl 6 rfl) ?_
                                      refine va_iald hx hb hK hP 18 0 rfl rfl (vp_in_nI (n := q) (N := 24) (by omega) (by decide)) dX5_plan_111 ?_
                                      have hb_154 := (hb_152 (q) (by omega) (by omega)).2
                                      refine lv_topi (fun x_155 ex_155 => ?_)
                                      obtain rfl : x_155 = nI (cm (q)) := ex_155.trans ((congrArg (F_147 18) (nI_clamp (n := q) (by omega))).trans (hb_152 (q) (by omega) (by omega)).1)
                                      refine cw_Si (As := [.int (nI u), .int (nI (cm (q)))]) (rest := []) (c_X5_filled l dC dI cI cZ cJ (wM cI cZ cJ h F_147 G (va_up V 0 0)) u (cm (q)) (by omega)) fx (va_cwS 2 hts gX5_plan_X5_filled rfl rfl rfl (by decide +kernel) ⟨Nat.le_of_ble_eq_true rfl, Nat.le_of_ble_eq_true rfl⟩) hK hP hD hS hA rfl hl.1 rfl (Nat.le_of_ble_eq_true rfl) dX5_plan_112 ⟨Nat.le_of_ble_eq_true rfl, Nat.le_of_ble_eq_true rfl⟩ (fun r_156 u_157 H locs hw_158 hP hD hS => ?_)
                                      have hP : va_P (dC, dI) vwCl (wM cI cZ cJ h F_147 G (va_up V 0 0)) H := hP
                                      have hD : va_D A (wM cI cZ cJ h F_147 G (va_up V 0 0)) := hD
                                      obtain rfl : r_156 = nI (min 200 (u + (cm (q)))) := hw_158
                                      refine lv_istore (lv' := [(5, .int (nI (min 200 (u + (cm (q)))))), (4, .int 1), (6, .int x_142), (7, .int 7), (0, .ref (h 0)), (1, .ref (h 18)), (2, .int (nI q)), (3, .int (nI u))]) hx hb dX5_plan_115 hl (by decide) rfl (fun ls hl => ?_)
                                      refine lv_aload_n hx hb dX5_plan_117 rfl (lv_at hl 4 rfl) ?_
                                      refine va_get (D := (dC, dI)) (ci := 5) (v := .ref (h 16)) (C := RX5) (T := TX5) (N := 33) hx hb hts hin_X5 hown hK hP 0 rfl rfl 25 (by decide) hw7 (fun _ h9 => h9) rfl dX5_plan_118 ?_
                                      refine lv_iload_n hx hb dX5_plan_121 rfl (lv_at hl 6 rfl) ?_
                                      refine lv_iconst (v := 1) hx hb dX5_plan_122 (by decide) ?_
                                      refine lv_iadd hx hb dX5_plan_123 ?_
                                      refine lv_topi (fun x_159 ex_159 => ?_)
                                      obtain rfl : x_159 = nI (q + 1) := ex_159.trans (nI_add q 1)
                                      refine lv_iload hx hb dX5_plan_124 (lv_at hl 0 rfl) ?_
                                      refine lv_iconst (v := 0) hx hb dX5_plan_126 (by decide) ?_
                                      refine cw_Si (As := [.int (nI (q + 1)), .int (nI (min 200 (u + (cm (q))))), .int 0]) (rest := [.ref (h 16)]) (c_X5_state l dC dI cI cZ cJ (wM cI cZ cJ h F_147 G (va_up V 0 0)) (q + 1) (min 200 (u + (cm (q)))) 0 (by omega)) fx (va_cwS 3 hts gX5_plan_X5_state rfl rfl rfl (by decide +kernel) ⟨Nat.le_of_ble_eq_true rfl, Nat.le_of_ble_eq_true rfl⟩) hK hP hD hS hA rfl hl.1 rfl (Nat.le_of_ble_eq_true rfl) dX5_plan_127 ⟨Nat.le_of_ble_eq_true rfl, Nat.le_of_ble_eq_true rfl⟩ (fun r_160 u_161 H locs hw_162 hP hD hS => ?_)
                                      have hP : va_P (dC, dI) vwCl (wM cI cZ cJ h F_147 G (va_up V 0 0)) H := hP
                                      have hD : va_D A (wM cI cZ cJ h F_147 G (va_up V 0 0)) := hD
                                      obtain rfl : r_160 = nI ((201 * (q + 1) + (min 200 (u + (cm (q))))) * 2 + 0) := hw_162
                                      refine va_iald hx hb hK hP 16 0 rfl rfl (vp_in_nI (n := (201 * (q + 1) + (min 200 (u + (cm (q))))) * 2 + 0) (N := 10050) (by omega) (by decide)) dX5_plan_130 ?_
                                      refine lv_topi (fun x_163 ex_163 => ?_)
                                      rw [nI_clamp (n := (201 * (q + 1) + (min 200 (u + (cm (q))))) * 2 + 0) (by omega)] at ex_163
                                      refine lv_istore (lv' := [(6, .int x_163), (5, .int (nI (min 200 (u + (cm (q)))))), (4, .int 1), (7, .int 7), (0, .ref (h 0)), (1, .ref (h 18)), (2, .int (nI q)), (3, .int (nI u))]) hx hb dX5_plan_131 hl (by decide) rfl (fun ls hl => ?_)
                                      refine lv_iload hx hb dX5_plan_133 (lv_at hl 2 rfl) ?_
                                      refine lv_iconst (v := 1) hx hb dX5_plan_135 (by decide) ?_
                                      refine lv_icmp_ne (tgt := 143) hx hb dX5_plan_136 (by decide) (fun c_164 => ?_) (fun c_164 => ?_)
                                      · exact absurd c_164 (by decide)
                                      · refine lv_iconst (v := 1) hx hb dX5_plan_139 (by decide) ?_
                                        refine lv_goto (tgt := 144) hx hb dX5_plan_140 (by decide) ?_
                                        refine cw_Si (As := [.int 1]) (rest := []) (c_X5_takes l dC dI cI cZ cJ (wM cI cZ cJ h F_147 G (va_up V 0 0)) 1 (by omega)) fx (va_cwS 1 hts gX5_plan_X5_takes rfl rfl rfl (by decide +kernel) ⟨Nat.le_of_ble_eq_true rfl, Nat.le_of_ble_eq_true rfl⟩) hK hP hD hS hA rfl hl.1 rfl (Nat.le_of_ble_eq_true rfl) dX5_plan_144 ⟨Nat.le_of_ble_eq_true rfl, Nat.le_of_ble_eq_true rfl⟩ (fun r_165 u_166 H locs hw_167 hP hD hS => ?_)
                                        have hP : va_P (dC, dI) vwCl (wM cI cZ cJ h F_147 G (va_up V 0 0)) H := hP
                                        have hD : va_D A (wM cI cZ cJ h F_147 G (va_up V 0 0)) := hD
                                        obtain rfl : r_165 = 5 := hw_167
                                        refine lv_istore (lv' := [(7, .int 5), (6, .int x_163), (5, .int (nI (min 200 (u + (cm (q)))))), (4, .int 1), (0, .ref (h 0)), (1, .ref (h 18)), (2, .int (nI q)), (3, .int (nI u))]) hx hb dX5_plan_147 hl (by decide) rfl (fun ls hl => ?_)
                                        refine lv_iload hx hb dX5_plan_149 (lv_at hl 2 rfl) ?_
                                        refine lv_iload hx hb dX5_plan_151 (lv_at hl 0 rfl) ?_
                                        refine lv_icmp_lt (tgt := 189) hx hb dX5_plan_153 (by decide) (fun c_168 => ?_) (fun c_168 => ?_)
                                        · have c_168 : (min 200 (u + (cm (q)))) < 5 := (nI_ltI (a := min 200 (u + (cm (q)))) (b := 5) (by omega) (by omega)).mp c_168
                                          refine lv_aload_n hx hb dX5_plan_189 rfl (lv_at hl 4 rfl) ?_
                                          refine va_get (D := (dC, dI)) (ci := 5) (v := .ref (h 16)) (C := RX5) (T := TX5) (N := 33) hx hb hts hin_X5 hown hK hP 0 rfl rfl 25 (by decide) hw7 (fun _ h9 => h9) rfl dX5_plan_190 ?_
                                          refine lv_iload_n hx hb dX5_plan_193 rfl (lv_at hl 6 rfl) ?_
                                          refine lv_iload_n hx hb dX5_plan_194 rfl (lv_at hl 7 rfl) ?_
                                          refine lv_iload hx hb dX5_plan_195 (lv_at hl 3 rfl) ?_
                                          refine lv_iconst (v := 1) hx hb dX5_plan_197 (by decide) ?_
                                          refine lv_icmp_ne (tgt := 205) hx hb dX5_plan_198 (by decide) (fun c_169 => ?_) (fun c_169 => ?_)
                                          · exact absurd c_169 (by decide)
                                          · refine lv_iconst (v := 1) hx hb dX5_plan_201 (by decide) ?_
                                            refine lv_goto (tgt := 206) hx hb dX5_plan_202 (by decide) ?_
                                            refine cw_Si (As := [.int (nI q), .int (nI u), .int 1]) (rest := [.ref (h 16)]) (c_X5_state l dC dI cI cZ cJ (wM cI cZ cJ h F_147 G (va_up V 0 0)) q u 1 (by omega)) fx (va_cwS 3 hts gX5_plan_X5_state rfl rfl rfl (by decide +kernel) ⟨Nat.le_of_ble_eq_true rfl, Nat.le_of_ble_eq_true rfl⟩) hK hP hD hS hA rfl hl.1 rfl (Nat.le_of_ble_eq_true rfl) dX5_plan_206 ⟨Nat.le_of_ble_eq_true rfl, Nat.le_of_ble_eq_true rfl⟩ (fun r_170 u_171 H locs hw_172 hP hD hS => ?_)
                                            have hP : va_P (dC, dI) vwCl (wM cI cZ cJ h F_147 G (va_up V 0 0)) H := hP
                                            have hD : va_D A (wM cI cZ cJ h F_147 G (va_up V 0 0)) := hD
                                            obtain rfl : r_170 = nI ((201 * q + u) * 2 + 1) := hw_172
                                            refine lv_iload hx hb dX5_plan_209 (lv_at hl 1 rfl) ?_
                                            refine va_iast hx hb hK hP hD hS 16 0 rfl rfl (vp_in_nI (n := (201 * q + u) * 2 + 1) (N := 10050) (by omega) (by decide)) dX5_plan_211 (fun H locs hP hD hS => ?_)
                                            obtain ⟨F_173, eF_173⟩ : ∃ z : Nat → Nat → Int32, z = va_up F_147 16 (upd (F_147 16) (nI ((201 * q + u) * 2 + 1)).toNatClampNeg x_163) := ⟨_, rfl⟩
                                            have hP : va_P (dC, dI) vwCl (wM cI cZ cJ h F_173 G (va_up V 0 0)) H := by rw [eF_173]; exact hP
                                            have hD : va_D A (wM cI cZ cJ h F_173 G (va_up V 0 0)) := by rw [eF_173]; exact hD
                                            have hN_174 : ∀ i, i < 24 → F_173 9 i = nI (Pr i) := by rw [eF_173]; exact hN_148
                                            have hb_175 : x_163 = rowf Pr cm (24 - q) (2 * u + 1) := by
                                              rw [rowf_at _ _ (by omega) (by omega)]
                                              have q1 : x_163 = rowf Pr cm (23 - q) (2 * (min 200 (u + cm (q)))) := (ex_163).trans ((congrArg (F_147 16) (show _ = 402 * (q + 1) + 2 * (min 200 (u + cm (q))) by omega)).trans ((hb_151 (q + 1) (by omega) (by omega) _ (by omega)).trans (by rw [show 24 - (q + 1) = 23 - q by omega])))
                                              rw [q1]; exact wval_low _ _ _ _ (by omega)
                                            have hb_176 : ∀ i, i < 2 * u + 1 + 1 → F_173 16 (402 * q + i) = rowf Pr cm (24 - q) i := fun i hi => by
                                              rw [eF_173]
                                              show upd (F_147 16) (nI ((201 * q + u) * 2 + 1)).toNatClampNeg _ (402 * q + i) = _
                                              rw [nI_clamp (by omega)]
                                              by_cases e : i = 2 * u + 1
                                              · rw [show 402 * q + i = (201 * q + u) * 2 + 1 by omega, e, ← hb_175]; exact pk_us
                                              · rw [pk_un (by omega)]; exact hb_150 i (by omega)
                                            have hb_177 : ∀ t, q + 1 ≤ t → t ≤ 24 → ∀ i, i < 402 → F_173 16 (402 * t + i) = rowf Pr cm (24 - t) i := fun t h1 h2 i hi => by
                                              rw [eF_173]
                                              show upd (F_147 16) (nI ((201 * q + u) * 2 + 1)).toNatClampNeg _ (402 * t + i) = _
                                              rw [nI_clamp (by omega), pk_un (by omega)]; exact hb_151 t h1 h2 i hi
                                            have hb_178 : ∀ i, nw ≤ i → i < 24 → F_173 18 i = nI (cm i) ∧ cm i ≤ 40 := by rw [eF_173]; exact hb_152
                                            refine lv_iinc (v := 2) (lv' := [(4, .int 2), (7, .int 5), (6, .int x_163), (5, .int (nI (min 200 (u + (cm (q)))))), (0, .ref (h 0)), (1, .ref (h 18)), (2, .int (nI q)), (3, .int (nI u))]) hx hb dX5_plan_212 hl (k := 3) rfl (by decide) (by decide) rfl (fun ls hl => ?_)
                                            refine lv_goto (tgt := 102) hx hb dX5_plan_215 (by decide) ?_
                                            refine lv_iload hx hb dX5_plan_102 (lv_at hl 0 rfl) ?_
                                            refine lv_iconst (v := 2) hx hb dX5_plan_104 (by decide) ?_
                                            refine lv_icmp_ge (tgt := 218) hx hb dX5_plan_105 (by decide) (fun c_179 => ?_) (fun c_179 => ?_)
                                            · refine lv_iinc (v := nI (u + 1)) (lv' := [(3, .int (nI (u + 1))), (4, .int 2), (7, .int 5), (6, .int x_163), (5, .int (nI (min 200 (u + (cm (q)))))), (0, .ref (h 0)), (1, .ref (h 18)), (2, .int (nI q))]) hx hb dX5_plan_218 hl (k := 7) rfl (nI_1 _) (by decide) rfl (fun ls hl => ?_)
                                              refine lv_goto (tgt := 92) hx hb dX5_plan_221 (by decide) ?_
                                              exact ih92 (u + 1) F_173 (by omega) hb_178 hb_176 hb_177 (fun j hj => ((va_ne eF_173 (fun h => hj (by rw [h]; decide))).trans ((va_ne eF_147 (fun h => hj (by rw [h]; decide))).trans (hfr4 j hj)))) (by omega) H locs ls hP hD hS (lv_sub hl [5, 6, 7, 0] rfl)
                                            · exact absurd c_179 (by decide)
                                        · have c_168 : ¬ (min 200 (u + (cm (q)))) < 5 := fun h => c_168 ((nI_ltI (a := min 200 (u + (cm (q)))) (b := 5) (by omega) (by omega)).mpr h)
                                          refine lv_iload hx hb dX5_plan_156 (lv_at hl 1 rfl) ?_
                                          refine lv_iconst (v := 5) hx hb dX5_plan_158 (by decide) ?_
                                          refine lv_aload_n hx hb dX5_plan_159 rfl (lv_at hl 4 rfl) ?_
                                          refine va_get (D := (dC, dI)) (ci := 5) (v := .ref (h 9)) (C := RX5) (T := TX5) (N := 33) hx hb hts hin_X5 hown hK hP 0 rfl rfl 16 (by decide) hw9 (fun _ h9 => h9) rfl dX5_plan_160 ?_
                                          refine lv_iload_n hx hb dX5_plan_163 rfl (lv_at hl 6 rfl) ?_
                                          refine va_iald hx hb hK hP 9 0 rfl rfl (vp_in_nI (n := q) (N := 24) (by omega) (by decide)) dX5_plan_164 ?_
                                          have hb_180 := bPr q (by omega)
                                          refine lv_topi (fun x_181 ex_181 => ?_)
                                          obtain rfl : x_181 = nI (Pr q) := ex_181.trans ((congrArg (F_147 9) (nI_clamp (n := q) (by omega))).trans (hN_148 q (by omega)))
                                          refine lv_imul hx hb dX5_plan_165 ?_
                                          refine lv_topi (fun x_182 ex_182 => ?_)
                                          obtain rfl : x_182 = nI (5 * (Pr q)) := ex_182.trans (pk_mul 5 (Pr q))
                                          refine lv_aload_n hx hb dX5_plan_166 rfl (lv_at hl 4 rfl) ?_
                                          refine va_get (D := (dC, dI)) (ci := 5) (v := .ref (h 16)) (C := RX5) (T := TX5) (N := 33) hx hb hts hin_X5 hown hK hP 0 rfl rfl 25 (by decide) hw7 (fun _ h9 => h9) rfl dX5_plan_167 ?_
                                          refine lv_iload_n hx hb dX5_plan_170 rfl (lv_at hl 6 rfl) ?_
                                          refine lv_iconst (v := 1) hx hb dX5_plan_171 (by decide) ?_
                                          refine lv_iadd hx hb dX5_plan_172 ?_
                                          refine lv_topi (fun x_183 ex_183 => ?_)
                                          obtain rfl : x_183 = nI (q + 1) := ex_183.trans (nI_add q 1)
                                          refine lv_iload hx hb dX5_plan_173 (lv_at hl 2 rfl) ?_
                                          refine lv_iload hx hb dX5_plan_175 (lv_at hl 0 rfl) ?_
                                          refine lv_isub hx hb dX5_plan_177 ?_
                                          refine lv_topi (fun x_184 ex_184 => ?_)
                                          obtain rfl : x_184 = nI ((min 200 (u + (cm (q)))) - 5) := ex_184.trans (pk_sub (a := min 200 (u + (cm (q)))) (b := 5) (by omega))
                                          refine lv_iconst (v := 1) hx hb dX5_plan_178 (by decide) ?_
                                          refine cw_Si (As := [.int (nI (q + 1)), .int (nI ((min 200 (u + (cm (q)))) - 5)), .int 1]) (rest := [.ref (h 16), .int (nI (5 * (Pr q))), .int x_163]) (c_X5_state l dC dI cI cZ cJ (wM cI cZ cJ h F_147 G (va_up V 0 0)) (q + 1) ((min 200 (u + (cm (q)))) - 5) 1 (by omega)) fx (va_cwS 3 hts gX5_plan_X5_state rfl rfl rfl (by decide +kernel) ⟨Nat.le_of_ble_eq_true rfl, Nat.le_of_ble_eq_true rfl⟩) hK hP hD hS hA rfl hl.1 rfl (Nat.le_of_ble_eq_true rfl) dX5_plan_179 ⟨Nat.le_of_ble_eq_true rfl, Nat.le_of_ble_eq_true rfl⟩ (fun r_185 u_186 H locs hw_187 hP hD hS => ?_)
                                          have hP : va_P (dC, dI) vwCl (wM cI cZ cJ h F_147 G (va_up V 0 0)) H := hP
                                          have hD : va_D A (wM cI cZ cJ h F_147 G (va_up V 0 0)) := hD
                                          obtain rfl : r_185 = nI ((201 * (q + 1) + ((min 200 (u + (cm (q)))) - 5)) * 2 + 1) := hw_187
                                          refine va_iald hx hb hK hP 16 0 rfl rfl (vp_in_nI (n := (201 * (q + 1) + ((min 200 (u + (cm (q)))) - 5)) * 2 + 1) (N := 10050) (by omega) (by decide)) dX5_plan_182 ?_
                                          refine lv_topi (fun x_188 ex_188 => ?_)
                                          rw [nI_clamp (n := (201 * (q + 1) + ((min 200 (u + (cm (q)))) - 5)) * 2 + 1) (by omega)] at ex_188
                                          refine lv_iadd hx hb dX5_plan_183 ?_
                                          refine va_mmax hx hb (hml.trans hl.1.symm) hown hw10 hw11 hw12 hw13 (Nat.le_of_ble_eq_true rfl) (Nat.le_of_ble_eq_true rfl) (Nat.le_of_ble_eq_true rfl) (Nat.le_of_ble_eq_true rfl) dX5_plan_184 ?_
                                          refine lv_topi (fun x_189 ex_189 => ?_)
                                          refine lv_istore (lv' := [(6, .int x_189), (7, .int 5), (5, .int (nI (min 200 (u + (cm (q)))))), (4, .int 1), (0, .ref (h 0)), (1, .ref (h 18)), (2, .int (nI q)), (3, .int (nI u))]) hx hb dX5_plan_187 hl (by decide) rfl (fun ls hl => ?_)
                                          refine lv_aload_n hx hb dX5_plan_189 rfl (lv_at hl 4 rfl) ?_
                                          refine va_get (D := (dC, dI)) (ci := 5) (v := .ref (h 16)) (C := RX5) (T := TX5) (N := 33) hx hb hts hin_X5 hown hK hP 0 rfl rfl 25 (by decide) hw7 (fun _ h9 => h9) rfl dX5_plan_190 ?_
                                          refine lv_iload_n hx hb dX5_plan_193 rfl (lv_at hl 6 rfl) ?_
                                          refine lv_iload_n hx hb dX5_plan_194 rfl (lv_at hl 7 rfl) ?_
                                          refine lv_iload hx hb dX5_plan_195 (lv_at hl 3 rfl) ?_
                                          refine lv_iconst (v := 1) hx hb dX5_plan_197 (by decide) ?_
                                          refine lv_icmp_ne (tgt := 205) hx hb dX5_plan_198 (by decide) (fun c_190 => ?_) (fun c_190 => ?_)
                                          · exact absurd c_190 (by decide)
                                          · refine lv_iconst (v := 1) hx hb dX5_plan_201 (by decide) ?_
                                            refine lv_goto (tgt := 206) hx hb dX5_plan_202 (by decide) ?_
                                            refine cw_Si (As := [.int (nI q), .int (nI u), .int 1]) (rest := [.ref (h 16)]) (c_X5_state l dC dI cI cZ cJ (wM cI cZ cJ h F_147 G (va_up V 0 0)) q u 1 (by omega)) fx (va_cwS 3 hts gX5_plan_X5_state rfl rfl rfl (by decide +kernel) ⟨Nat.le_of_ble_eq_true rfl, Nat.le_of_ble_eq_true rfl⟩) hK hP hD hS hA rfl hl.1 rfl (Nat.le_of_ble_eq_true rfl) dX5_plan_206 ⟨Nat.le_of_ble_eq_true rfl, Nat.le_of_ble_eq_true rfl⟩ (fun r_191 u_192 H locs hw_193 hP hD hS => ?_)
                                            have hP : va_P (dC, dI) vwCl (wM cI cZ cJ h F_147 G (va_up V 0 0)) H := hP
                                            have hD : va_D A (wM cI cZ cJ h F_147 G (va_up V 0 0)) := hD
                                            obtain rfl : r_191 = nI ((201 * q + u) * 2 + 1) := hw_193
                                            refine lv_iload hx hb dX5_plan_209 (lv_at hl 0 rfl) ?_
                                            refine va_iast hx hb hK hP hD hS 16 0 rfl rfl (vp_in_nI (n := (201 * q + u) * 2 + 1) (N := 10050) (by omega) (by decide)) dX5_plan_211 (fun H locs hP hD hS => ?_)
                                            obtain ⟨F_194, eF_194⟩ : ∃ z : Nat → Nat → Int32, z = va_up F_147 16 (upd (F_147 16) (nI ((201 * q + u) * 2 + 1)).toNatClampNeg x_189) := ⟨_, rfl⟩
                                            have hP : va_P (dC, dI) vwCl (wM cI cZ cJ h F_194 G (va_up V 0 0)) H := by rw [eF_194]; exact hP
                                            have hD : va_D A (wM cI cZ cJ h F_194 G (va_up V 0 0)) := by rw [eF_194]; exact hD
                                            have hN_195 : ∀ i, i < 24 → F_194 9 i = nI (Pr i) := by rw [eF_194]; exact hN_148
                                            have hb_196 : x_189 = rowf Pr cm (24 - q) (2 * u + 1) := by
                                              rw [rowf_at _ _ (by omega) (by omega)]
                                              have q1 : x_163 = rowf Pr cm (23 - q) (2 * (min 200 (u + cm (q)))) := (ex_163).trans ((congrArg (F_147 16) (show _ = 402 * (q + 1) + 2 * (min 200 (u + cm (q))) by omega)).trans ((hb_151 (q + 1) (by omega) (by omega) _ (by omega)).trans (by rw [show 24 - (q + 1) = 23 - q by omega])))
                                              have q2 : x_188 = rowf Pr cm (23 - q) (2 * ((min 200 (u + cm (q))) - (7 - 2 * 1)) + 1) := (ex_188).trans ((congrArg (F_147 16) (show _ = 402 * (q + 1) + (2 * ((min 200 (u + cm (q))) - (7 - 2 * 1)) + 1) by omega)).trans ((hb_151 (q + 1) (by omega) (by omega) _ (by omega)).trans (by rw [show 24 - (q + 1) = 23 - q by omega])))
                                              rw [ex_189, q1, q2]; exact wval_max _ _ _ _ (by omega)
                                            have hb_197 : ∀ i, i < 2 * u + 1 + 1 → F_194 16 (402 * q + i) = rowf Pr cm (24 - q) i := fun i hi => by
                                              rw [eF_194]
                                              show upd (F_147 16) (nI ((201 * q + u) * 2 + 1)).toNatClampNeg _ (402 * q + i) = _
                                              rw [nI_clamp (by omega)]
                                              by_cases e : i = 2 * u + 1
                                              · rw [show 402 * q + i = (201 * q + u) * 2 + 1 by omega, e, ← hb_196]; exact pk_us
                                              · rw [pk_un (by omega)]; exact hb_150 i (by omega)
                                            have hb_198 : ∀ t, q + 1 ≤ t → t ≤ 24 → ∀ i, i < 402 → F_194 16 (402 * t + i) = rowf Pr cm (24 - t) i := fun t h1 h2 i hi => by
                                              rw [eF_194]
                                              show upd (F_147 16) (nI ((201 * q + u) * 2 + 1)).toNatClampNeg _ (402 * t + i) = _
                                              rw [nI_clamp (by omega), pk_un (by omega)]; exact hb_151 t h1 h2 i hi
                                            have hb_199 : ∀ i, nw ≤ i → i < 24 → F_194 18 i = nI (cm i) ∧ cm i ≤ 40 := by rw [eF_194]; exact hb_152
                                            refine lv_iinc (v := 2) (lv' := [(4, .int 2), (6, .int x_189), (7, .int 5), (5, .int (nI (min 200 (u + (cm (q)))))), (0, .ref (h 0)), (1, .ref (h 18)), (2, .int (nI q)), (3, .int (nI u))]) hx hb dX5_plan_212 hl (k := 3) rfl (by decide) (by decide) rfl (fun ls hl => ?_)
                                            refine lv_goto (tgt := 102) hx hb dX5_plan_215 (by decide) ?_
                                            refine lv_iload hx hb dX5_plan_102 (lv_at hl 0 rfl) ?_
                                            refine lv_iconst (v := 2) hx hb dX5_plan_104 (by decide) ?_
                                            refine lv_icmp_ge (tgt := 218) hx hb dX5_plan_105 (by decide) (fun c_200 => ?_) (fun c_200 => ?_)
                                            · refine lv_iinc (v := nI (u + 1)) (lv' := [(3, .int (nI (u + 1))), (4, .int 2), (6, .int x_189), (7, .int 5), (5, .int (nI (min 200 (u + (cm (q)))))), (0, .ref (h 0)), (1, .ref (h 18)), (2, .int (nI q))]) hx hb dX5_plan_218 hl (k := 7) rfl (nI_1 _) (by decide) rfl (fun ls hl => ?_)
                                              refine lv_goto (tgt := 92) hx hb dX5_plan_221 (by decide) ?_
                                              exact ih92 (u + 1) F_194 (by omega) hb_199 hb_197 hb_198 (fun j hj => ((va_ne eF_194 (fun h => hj (by rw [h]; decide))).trans ((va_ne eF_147 (fun h => hj (by rw [h]; decide))).trans (hfr4 j hj)))) (by omega) H locs ls hP hD hS (lv_sub hl [5, 6, 7, 0] rfl)
                                            · exact absurd c_200 (by decide)
                                  · exact absurd c_143 (by decide)
                              · exact absurd c_70 (by decide)
                      exact loop92 _ 0 F3 (by omega) hcm3 (fun i hi => absurd hi (by omega)) hW3 hfr3 (Nat.lt_succ_self _) H locs ls hP hD hS (lv_sub hl [1, 2, 3, 0] rfl)
              exact loop82 _ 24 F2 (by omega) (by omega) hcm2 (fun t h1 h2 i hi => by
                obtain rfl : t = 24 := by omega
                exact hz2 i (by omega)) hfr2 (Nat.lt_succ_self _) H locs ls hP hD hS (lv_sub hl [1, 2, 0] rfl)
            · have c_10 : ¬ 402 ≤ k2 := fun h => c_10 ((nI_leI (a := 402) (b := k2) (by omega) (by omega)).mpr h)
              refine lv_aload_n hx hb dX5_plan_58 rfl (lv_at hl 0 rfl) ?_
              refine va_get (D := (dC, dI)) (ci := 5) (v := .ref (h 16)) (C := RX5) (T := TX5) (N := 33) hx hb hts hin_X5 hown hK hP 0 rfl rfl 25 (by decide) hw7 (fun _ h9 => h9) rfl dX5_plan_59 ?_
              refine lv_bipush (v := 24) hx hb dX5_plan_62 (by decide) ?_
              refine lv_iconst (v := 0) hx hb dX5_plan_64 (by decide) ?_
              refine lv_iconst (v := 0) hx hb dX5_plan_65 (by decide) ?_
              refine cw_Si (As := [.int 24, .int 0, .int 0]) (rest := [.ref (h 16)]) (c_X5_state l dC dI cI cZ cJ (wM cI cZ cJ h F2 G (va_up V 0 0)) 24 0 0 (by omega)) fx (va_cwS 3 hts gX5_plan_X5_state rfl rfl rfl (by decide +kernel) ⟨Nat.le_of_ble_eq_true rfl, Nat.le_of_ble_eq_true rfl⟩) hK hP hD hS hA rfl hl.1 rfl (Nat.le_of_ble_eq_true rfl) dX5_plan_66 ⟨Nat.le_of_ble_eq_true rfl, Nat.le_of_ble_eq_true rfl⟩ (fun r_201 u_202 H locs hw_203 hP hD hS => ?_)
              have hP : va_P (dC, dI) vwCl (wM cI cZ cJ h F2 G (va_up V 0 0)) H := hP
              have hD : va_D A (wM cI cZ cJ h F2 G (va_up V 0 0)) := hD
              obtain rfl : r_201 = 9648 := hw_203
              refine lv_iload_n hx hb dX5_plan_69 rfl (lv_at hl 2 rfl) ?_
              refine lv_iadd hx hb dX5_plan_70 ?_
              refine lv_topi (fun x_204 ex_204 => ?_)
              obtain rfl : x_204 = nI (9648 + k2) := ex_204.trans (nI_add 9648 k2)
              refine lv_iconst (v := 0) hx hb dX5_plan_71 (by decide) ?_
              refine va_iast hx hb hK hP hD hS 16 0 rfl rfl (vp_in_nI (n := 9648 + k2) (N := 10050) (by omega) (by decide)) dX5_plan_72 (fun H locs hP hD hS => ?_)
              obtain ⟨F_205, eF_205⟩ : ∃ z : Nat → Nat → Int32, z = va_up F2 16 (upd (F2 16) (nI (9648 + k2)).toNatClampNeg 0) := ⟨_, rfl⟩
              have hP : va_P (dC, dI) vwCl (wM cI cZ cJ h F_205 G (va_up V 0 0)) H := by rw [eF_205]; exact hP
              have hD : va_D A (wM cI cZ cJ h F_205 G (va_up V 0 0)) := by rw [eF_205]; exact hD
              have hE_206 : F_205 16 (9648 + k2) = 0 := by rw [eF_205]; show upd _ (nI (9648 + k2)).toNatClampNeg _ _ = _; rw [nI_clamp (by omega)]; exact pk_us
              refine lv_iinc (v := nI (k2 + 1)) (lv' := [(2, .int (nI (k2 + 1))), (0, .ref (h 0)), (1, .ref (h 18))]) hx hb dX5_plan_73 hl (k := 2) rfl (nI_1 _) (by decide) rfl (fun ls hl => ?_)
              refine lv_goto (tgt := 51) hx hb dX5_plan_76 (by decide) ?_
              have hb_207 : ∀ i, i < k2 + 1 → F_205 16 (9648 + i) = 0 := fun i hi => by
                rw [eF_205]
                show upd (F2 16) (nI (9648 + k2)).toNatClampNeg 0 (9648 + i) = 0
                rw [nI_clamp (by omega)]
                by_cases q : i = k2
                · rw [q]; exact pk_us
                · rw [pk_un (by omega)]; exact hz2 i (by omega)
              have hb_208 : ∀ i, nw ≤ i → i < 24 → F_205 18 i = nI (cm i) ∧ cm i ≤ 40 := by rw [eF_205]; exact hcm2
              exact ih51 (k2 + 1) F_205 (by omega) hb_208 hb_207 (fun j hj => ((va_ne eF_205 (fun h => hj (by rw [h]; decide))).trans (hfr2 j hj))) (by omega) H locs ls hP hD hS (lv_sub hl [1, 2, 0] rfl)
        exact loop51 _ 0 F1 (by omega) (fun i h1 h2 => hcm i h1 (by omega)) (fun i hi => absurd hi (Nat.not_lt_zero i)) hfr (Nat.lt_succ_self _) H locs ls hP hD hS (lv_sub hl [1, 2, 0] rfl)
      · have c_9 : ¬ 24 ≤ k := fun h => c_9 ((nI_leI (a := 24) (b := k) (by omega) (by omega)).mpr h)
        refine lv_aload_n hx hb dX5_plan_21 rfl (lv_at hl 1 rfl) ?_
        refine lv_iload_n hx hb dX5_plan_22 rfl (lv_at hl 2 rfl) ?_
        refine lv_aload_n hx hb dX5_plan_23 rfl (lv_at hl 0 rfl) ?_
        refine lv_iload_n hx hb dX5_plan_24 rfl (lv_at hl 2 rfl) ?_
        refine lv_aload_n hx hb dX5_plan_25 rfl (lv_at hl 0 rfl) ?_
        refine va_get (D := (dC, dI)) (ci := 5) (v := .int (V 6)) (C := RX5) (T := TX5) (N := 33) hx hb hts hin_X5 hown hK hP 0 rfl rfl 6 (by decide) hw14 (fun _ h9 => h9) rfl dX5_plan_26 ?_
        refine lv_topi (fun x_209 ex_209 => ?_)
        obtain rfl : x_209 = nI d := ex_209.trans (hV6)
        refine lv_iload_n hx hb dX5_plan_29 rfl (lv_at hl 2 rfl) ?_
        refine lv_aload_n hx hb dX5_plan_30 rfl (lv_at hl 0 rfl) ?_
        refine va_get (D := (dC, dI)) (ci := 5) (v := .int (V 3)) (C := RX5) (T := TX5) (N := 33) hx hb hts hin_X5 hown hK hP 0 rfl rfl 3 (by decide) hw3 (fun _ h9 => h9) rfl dX5_plan_31 ?_
        refine lv_topi (fun x_210 ex_210 => ?_)
        obtain rfl : x_210 = nI nw := ex_210.trans (hV3)
        have hkd : d * (k - nw) ≤ 20 * 23 := Nat.mul_le_mul bV6 (by omega)
        refine lv_isub hx hb dX5_plan_34 ?_
        refine lv_topi (fun x_211 ex_211 => ?_)
        obtain rfl : x_211 = nI (k - nw) := ex_211.trans (pk_sub (a := k) (b := nw) (by omega))
        refine lv_imul hx hb dX5_plan_35 ?_
        refine lv_topi (fun x_212 ex_212 => ?_)
        obtain rfl : x_212 = nI (d * (k - nw)) := ex_212.trans (pk_mul d (k - nw))
        refine cw_Vi (As := [.int (nI k), .int (nI (d * (k - nw)))]) (rest := [.int (nI k), .ref (h 18)]) (c_X5_aims l dC dI cI cZ cJ h F1 G (va_up V 0 0) n hV2 (by omega) So hN_2 bSo Hh hN_4 bHh Wd hN_5 bWd Lm hN_3 bLm X hN_7 bX Y hN_8 bY k (d * (k - nw)) (by omega) (by omega) SX SY (fun i hi => (congrFun (hfr 5 (by decide)) i).trans (hSX i hi)) (fun i hi => (congrFun (hfr 6 (by decide)) i).trans (hSY i hi)) hGP) fx (cwV 2 hts gX5_plan_X5_aims rfl rfl rfl (by decide +kernel) ⟨Nat.le_of_ble_eq_true rfl, Nat.le_of_ble_eq_true rfl⟩) hK hP hD hS hA 0 rfl rfl rfl rfl hl.1 rfl (Nat.le_of_ble_eq_true rfl) dX5_plan_36 ⟨Nat.le_of_ble_eq_true rfl, Nat.le_of_ble_eq_true rfl⟩ (fun r_213 u_214 H locs hw_215 hP hD hS => ?_)
        obtain ⟨F_216, rfl⟩ : ∃ z, z = u_214 := ⟨_, rfl⟩
        have hf_217 : ∀ j, j ∉ ([10, 11, 12, 14] : List Nat) → F_216 j = F1 j := hw_215.2.1
        have hP : va_P (dC, dI) vwCl (wM cI cZ cJ h F_216 G (va_up V 0 0)) H := hP
        have hD : va_D A (wM cI cZ cJ h F_216 G (va_up V 0 0)) := hD
        have hN_218 : ∀ i, i < 40 → F_216 3 i = nI (So i) := by rw [hf_217 3 (by decide)]; exact hN_2
        have hN_219 : ∀ i, i < 4 → F_216 4 i = nI (Lm i) := by rw [hf_217 4 (by decide)]; exact hN_3
        have hN_220 : ∀ i, i < 24 → F_216 7 i = nI (Hh i) := by rw [hf_217 7 (by decide)]; exact hN_4
        have hN_221 : ∀ i, i < 24 → F_216 8 i = nI (Wd i) := by rw [hf_217 8 (by decide)]; exact hN_5
        have hN_222 : ∀ i, i < 24 → F_216 9 i = nI (Pr i) := by rw [hf_217 9 (by decide)]; exact hN_6
        have hN_223 : ∀ i, i < n → F_216 1 i = nI (X i) := by rw [hf_217 1 (by decide)]; exact hN_7
        have hN_224 : ∀ i, i < n → F_216 2 i = nI (Y i) := by rw [hf_217 2 (by decide)]; exact hN_8
        have hb_225 : htA (pwA X Y n SX SY Hh So Wd k (d * (k - nw))) Lm n ≤ 4000 := hA_le bV2 (fun i _ => pwA_le (bHh k (by omega)))
        have hN_226 : ∀ i, i < 4 → F_216 12 i = nI ((lA (pwA X Y n SX SY Hh So Wd k (d * (k - nw))) Lm n) i) := (hw_215.2.2).1
        have bN_227 : ∀ i, i < 4 → (lA (pwA X Y n SX SY Hh So Wd k (d * (k - nw))) Lm n) i ≤ 10000 := (hw_215.2.2).2.1
        have hC_228 : ∀ i, i < n → F_216 14 i = cA (pwA X Y n SX SY Hh So Wd k (d * (k - nw))) Lm n i := (hw_215.2.2).2.2
        obtain rfl : r_213 = nI (htA (pwA X Y n SX SY Hh So Wd k (d * (k - nw))) Lm n) := hw_215.1
        refine lv_bipush (v := 100) hx hb dX5_plan_39 (by decide) ?_
        refine lv_idiv hx hb dX5_plan_41 (by decide) ?_
        refine lv_topi (fun x_229 ex_229 => ?_)
        obtain rfl : x_229 = nI ((htA (pwA X Y n SX SY Hh So Wd k (d * (k - nw))) Lm n) / 100) := ex_229.trans (pk_div (a := htA (pwA X Y n SX SY Hh So Wd k (d * (k - nw))) Lm n) (d := 100) (by omega) (by omega) (by omega))
        refine va_iast hx hb hK hP hD hS 18 0 rfl rfl (vp_in_nI (n := k) (N := 24) (by omega) (by decide)) dX5_plan_42 (fun H locs hP hD hS => ?_)
        obtain ⟨F_230, eF_230⟩ : ∃ z : Nat → Nat → Int32, z = va_up F_216 18 (upd (F_216 18) (nI k).toNatClampNeg (nI ((htA (pwA X Y n SX SY Hh So Wd k (d * (k - nw))) Lm n) / 100))) := ⟨_, rfl⟩
        have hP : va_P (dC, dI) vwCl (wM cI cZ cJ h F_230 G (va_up V 0 0)) H := by rw [eF_230]; exact hP
        have hD : va_D A (wM cI cZ cJ h F_230 G (va_up V 0 0)) := by rw [eF_230]; exact hD
        have hN_231 : ∀ i, i < 40 → F_230 3 i = nI (So i) := by rw [eF_230]; exact hN_218
        have hN_232 : ∀ i, i < 4 → F_230 4 i = nI (Lm i) := by rw [eF_230]; exact hN_219
        have hN_233 : ∀ i, i < 24 → F_230 7 i = nI (Hh i) := by rw [eF_230]; exact hN_220
        have hN_234 : ∀ i, i < 24 → F_230 8 i = nI (Wd i) := by rw [eF_230]; exact hN_221
        have hN_235 : ∀ i, i < 24 → F_230 9 i = nI (Pr i) := by rw [eF_230]; exact hN_222
        have hN_236 : ∀ i, i < n → F_230 1 i = nI (X i) := by rw [eF_230]; exact hN_223
        have hN_237 : ∀ i, i < n → F_230 2 i = nI (Y i) := by rw [eF_230]; exact hN_224
        have hN_238 : ∀ i, i < 4 → F_230 12 i = nI ((lA (pwA X Y n SX SY Hh So Wd k (d * (k - nw))) Lm n) i) := by rw [eF_230]; exact hN_226
        refine lv_iinc (v := nI (k + 1)) (lv' := [(2, .int (nI (k + 1))), (0, .ref (h 0)), (1, .ref (h 18))]) hx hb dX5_plan_43 hl (k := 2) rfl (nI_1 _) (by decide) rfl (fun ls hl => ?_)
        refine lv_goto (tgt := 15) hx hb dX5_plan_46 (by decide) ?_
        have hce_ : (htA (pwA X Y n SX SY Hh So Wd k (d * (k - nw))) Lm n) / 100 = cm k := by rw [ecm]; unfold cmA; rw [Nat.mul_comm d (k - nw)]
        have hb_239 : ∀ i, nw ≤ i → i < k + 1 → F_230 18 i = nI (cm i) ∧ cm i ≤ 40 := fun i h1 h2 => by
          rw [eF_230]
          show upd (F_216 18) (nI k).toNatClampNeg _ i = nI (cm i) ∧ cm i ≤ 40
          rw [nI_clamp (by omega), hf_217 18 (by decide)]
          by_cases q : i = k
          · rw [q]; exact ⟨pk_us.trans (congrArg nI hce_), by omega⟩
          · rw [pk_un q]; exact hcm i h1 (by omega)
        exact ih15 (k + 1) F_230 (by omega) (by omega) hb_239 (fun j hj => ((va_ne eF_230 (fun h => hj (by rw [h]; decide))).trans ((hf_217 j (fun h => hj ((by decide : ∀ x ∈ ([10, 11, 12, 14] : List Nat), x ∈ ([10, 11, 12, 14, 16, 17, 18] : List Nat)) j h))).trans (hfr j hj)))) (by omega) H locs ls hP hD hS (lv_sub hl [1, 2, 0] rfl)
  exact loop15 _ nw F (by omega) (by omega) (fun i h1 h2 => absurd h1 (by omega)) (fun _ _ => rfl) (Nat.lt_succ_self _) H locs ls hP hD hS (lv_sub hl [2, 1, 0] rfl)
