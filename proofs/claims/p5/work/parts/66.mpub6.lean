theorem wval_max (L : Nat → Int32) (g hd nd : Nat) (h : nd ≤ hd) : (if L (2 * hd) < nI g + L (2 * (hd - nd) + 1) then nI g + L (2 * (hd - nd) + 1) else L (2 * hd)) = wval L g hd nd := by
  unfold wval wrun ltI
  rw [decide_eq_true h, Bool.true_and]
  by_cases q : L (2 * hd) < nI g + L (2 * (hd - nd) + 1)
  · rw [if_pos q, if_pos (decide_eq_true q)]
  · rw [if_neg q, if_neg (by rw [decide_eq_false q]; decide)]
theorem wval_low (L : Nat → Int32) (g hd nd : Nat) (h : ¬ nd ≤ hd) : L (2 * hd) = wval L g hd nd := by
  unfold wval wrun
  rw [decide_eq_false h]
  rfl
theorem wval_run {L : Nat → Int32} {g hd nd : Nat} (h : ltI (L (2 * hd)) (wval L g hd nd) = true) : nd ≤ hd := by
  unfold wval at h
  cases e : wrun L g hd nd with
  | true =>
    unfold wrun at e
    rw [Bool.and_eq_true] at e
    exact of_decide_eq_true e.1
  | false =>
    rw [e] at h
    have q := of_decide_eq_true h
    exact absurd q (Int32.lt_irrefl)
def rm_X5_plan : Room := { frames := 4, cells := 0, slots := 0, locals := 104 }
set_option maxHeartbeats 4000000 in
set_option maxRecDepth 100000 in
theorem c_X5_plan (l : Launch) (dC : Nat → ClassId) (dI : Nat → Nat → Nat) (cI cZ cJ : ClassId) (h : Nat → Nat) (F : Nat → Nat → Int32) (G : Nat → Int64) (V : Nat → Int32) (n : Nat) (hV2 : V 2 = nI n) (bV2 : n ≤ 40) (nw : Nat) (hV3 : V 3 = nI nw) (bV3 : nw ≤ 23) (un : Nat) (hV4 : V 4 = nI un) (bV4 : un ≤ 200) (d : Nat) (hV6 : V 6 = nI d) (bV6 : d ≤ 20) (wm : Nat) (hV7 : V 7 = nI wm) (bV7 : wm ≤ 1) (pf : Nat) (hV10 : V 10 = nI pf) (bV10 : pf ≤ 24) (sh : Nat) (hV11 : V 11 = nI sh) (bV11 : sh ≤ 12) (So : Nat → Nat) (hSo : ∀ i, i < 40 → F 3 i = nI (So i)) (bSo : ∀ i, i < 40 → So i ≤ 90) (Lm : Nat → Nat) (hLm : ∀ i, i < 4 → F 4 i = nI (Lm i)) (bLm : ∀ i, i < 4 → Lm i ≤ 10000) (Hh : Nat → Nat) (hHh : ∀ i, i < 24 → F 7 i = nI (Hh i)) (bHh : ∀ i, i < 24 → Hh i ≤ 9) (Wd : Nat → Nat) (hWd : ∀ i, i < 24 → F 8 i = nI (Wd i)) (bWd : ∀ i, i < 24 → Wd i ≤ 99) (Pr : Nat → Nat) (hPr : ∀ i, i < 24 → F 9 i = nI (Pr i)) (bPr : ∀ i, i < 24 → Pr i ≤ 999)   (am : Nat) (hV8 : V 8 = nI am - 1) (bam : am ≤ 41) : CtI l (dC, dI) vwCl (tys3 cI cZ cJ) yX5_plan wsX5_plan rm_X5_plan [.ref (h 0)] (wM cI cZ cJ h F G V) (S := (Nat → Nat → Int32) × (Nat → Int64) × (Nat → Int32)) (fun r u => (True) ∧ IM u.1 u.2.2) (fun u => wM cI cZ cJ h u.1 u.2.1 u.2.2) 0 0 := by
  refine ct_I (cc := cX5_plan) (maxL := 8) (ty := .int) (own := RX5) (by decide) rfl rfl (Nat.le_of_ble_eq_true rfl) (lv := [(0, .ref (h 0))]) rfl ?_
  intro p e s m args below meth c A Q ls fx hK hP hD hA hl hret
  obtain ⟨hx, hb, hml, hown, hts⟩ := id fx
  have hS : va_S A s.heap s.heap [] := va_S.rf
  have hw0 := hts (.fieldLink RX5 1 "MirrorTowerModel" "thrown" "I") (by decide +kernel)
  have hin_X5 : ∀ w ∈ u_ws RX5 TX5 33, w ∈ wsX5_plan := by decide +kernel
  have hw2 := hts (.fieldLink RX5 78 "MirrorTowerModel" "comeUnits" "[I") (by decide +kernel)
  have hw3 := hts (.fieldLink RX5 154 "MirrorTowerModel" "now" "I") (by decide +kernel)
  have hw4 := hts (.fieldLink RX5 75 "MirrorTowerModel" "planFrom" "I") (by decide +kernel)
  have hw5 := hts (.fieldLink RX5 168 "MirrorTowerModel" "store" "I") (by decide +kernel)
  have hw6 := hts (.fieldLink RX5 171 "MirrorTowerModel" "isWarm" "Z") (by decide +kernel)
  have hw7 := hts (.fieldLink RX5 68 "MirrorTowerModel" "worth" "[I") (by decide +kernel)
  have hw8 := hts (.fieldLink RX5 71 "MirrorTowerModel" "isRun" "[Z") (by decide +kernel)
  have hw9 := hts (.fieldLink RX5 44 "MirrorTowerModel" "price" "[I") (by decide +kernel)
  have hw10 := hts (.methodLink RX5 134 Lib.Math.max.name) (by decide +kernel)
  have hw11 := hts (.static Lib.Math.max.name) (by decide +kernel)
  have hw12 := hts (.initialized "java/lang/Math") (by decide +kernel)
  have hw13 := hts (.code Lib.Math.max.name Lib.Math.max.code 2 (some .int)) (by decide +kernel)
  have hw14 := hts (.fieldLink RX5 16 "MirrorTowerModel" "dust" "I") (by decide +kernel)
  obtain ⟨H, hH⟩ : ∃ H, H = s.heap := ⟨_, rfl⟩
  rw [← hH] at hP ⊢
  have hS : va_S A s.heap H [] := by rw [hH]; exact hS
  generalize ([] : List Loc) = locs at hS ⊢
  refine lv_aload_n hx hb dX5_plan_0 rfl (lv_at hl 0 rfl) ?_
  refine lv_iconst (v := 0) hx hb dX5_plan_1 (by decide) ?_
  refine va_put (D := (dC, dI)) (ci := 5) (v := .int 0) (ty := .int) (C := RX5) (T := TX5) (N := 33) hx hb hts hin_X5 tyX5 tyX5_ok nmX5 hown hK hP hD hS 0 rfl rfl 0 (by decide) hw0 (fun _ h9 => h9) rfl (by decide +kernel) rfl rfl (Nat.le_of_ble_eq_true rfl) dX5_plan_2 (fun H locs hP hD hS => ?_)
  have hP : va_P (dC, dI) vwCl (wM cI cZ cJ h F G (va_up V 0 0)) H := hP
  have hD : va_D A (wM cI cZ cJ h F G (va_up V 0 0)) := hD
  refine lv_aload_n hx hb dX5_plan_5 rfl (lv_at hl 0 rfl) ?_
  refine va_get (D := (dC, dI)) (ci := 5) (v := .ref (h 18)) (C := RX5) (T := TX5) (N := 33) hx hb hts hin_X5 hown hK hP 0 rfl rfl 28 (by decide) hw2 (fun _ h9 => h9) rfl dX5_plan_6 ?_
  refine lv_astore_n (lv' := [(1, .ref (h 18)), (0, .ref (h 0))]) hx hb dX5_plan_9 rfl hl (by decide) rfl (fun ls hl => ?_)
  refine lv_aload_n hx hb dX5_plan_10 rfl (lv_at hl 1 rfl) ?_
  refine va_get (D := (dC, dI)) (ci := 5) (v := .int (V 3)) (C := RX5) (T := TX5) (N := 33) hx hb hts hin_X5 hown hK hP 0 rfl rfl 3 (by decide) hw3 (fun _ h9 => h9) rfl dX5_plan_11 ?_
  refine lv_topi (fun x_1 ex_1 => ?_)
  obtain rfl : x_1 = nI nw := ex_1.trans (hV3)
  refine lv_istore_n (lv' := [(2, .int (nI nw)), (1, .ref (h 18)), (0, .ref (h 0))]) hx hb dX5_plan_14 rfl hl (by decide) rfl (fun ls hl => ?_)
  have loop15 : ∀ (fu : Nat) (k : Nat) (cm : Nat → Nat) (F1 : Nat → Nat → Int32), (nw ≤ k) → (k ≤ 24) → (∀ i, nw ≤ i → i < k → F1 18 i = nI (cm i) ∧ cm i ≤ 40) → (∀ j, j ∉ ([10, 11, 12, 14, 16, 17, 18] : List Nat) → F1 j = F j) → (24 - k) < fu → ∀ (H : Heap) (locs : List Loc) (ls : Array Slot), va_P (dC, dI) vwCl (wM cI cZ cJ h F1 G (va_up V 0 0)) H → va_D A (wM cI cZ cJ h F1 G (va_up V 0 0)) → va_S A s.heap H locs → lv_has ls 8 [(0, .ref (h 0)), (1, .ref (h 18)), (2, .int (nI k))] → W p l e rm_X5_plan s m args below meth c H locs 0 0 Q (F0 m 15 ls []) := by
    intro fu
    induction fu with
    | zero => intro k cm F1 hk1 hk2 hcm hfr hn_; exact absurd hn_ (Nat.not_lt_zero _)
    | succ fu ih15 =>
      intro k cm F1 hk1 hk2 hcm hfr hn_ H locs ls hP hD hS hl
      have hN_2 : ∀ i, i < 40 → F1 3 i = nI (So i) := by rw [hfr 3 (by decide)]; exact hSo
      have hN_3 : ∀ i, i < 4 → F1 4 i = nI (Lm i) := by rw [hfr 4 (by decide)]; exact hLm
      have hN_4 : ∀ i, i < 24 → F1 7 i = nI (Hh i) := by rw [hfr 7 (by decide)]; exact hHh
      have hN_5 : ∀ i, i < 24 → F1 8 i = nI (Wd i) := by rw [hfr 8 (by decide)]; exact hWd
      have hN_6 : ∀ i, i < 24 → F1 9 i = nI (Pr i) := by rw [hfr 9 (by decide)]; exact hPr
      refine lv_iload_n hx hb dX5_plan_15 rfl (lv_at hl 2 rfl) ?_
      refine lv_bipush (v := 24) hx hb dX5_plan_16 (by decide) ?_
      refine lv_icmp_ge (tgt := 49) hx hb dX5_plan_18 (by decide) (fun c_7 => ?_) (fun c_7 => ?_)
      · have c_7 : 24 ≤ k := (nI_leI (a := 24) (b := k) (by omega) (by omega)).mp c_7
        refine lv_iconst (v := 0) hx hb dX5_plan_49 (by decide) ?_
        refine lv_istore_n (lv' := [(2, .int 0), (0, .ref (h 0)), (1, .ref (h 18))]) hx hb dX5_plan_50 rfl hl (by decide) rfl (fun ls hl => ?_)
        have loop51 : ∀ (fu : Nat) (k2 : Nat) (F2 : Nat → Nat → Int32), (k2 ≤ 402) → (∀ i, nw ≤ i → i < 24 → F2 18 i = nI (cm i) ∧ cm i ≤ 40) → (∀ i, i < k2 → F2 16 (9648 + i) = 0) → (∀ j, j ∉ ([10, 11, 12, 14, 16, 17, 18] : List Nat) → F2 j = F j) → (402 - k2) < fu → ∀ (H : Heap) (locs : List Loc) (ls : Array Slot), va_P (dC, dI) vwCl (wM cI cZ cJ h F2 G (va_up V 0 0)) H → va_D A (wM cI cZ cJ h F2 G (va_up V 0 0)) → va_S A s.heap H locs → lv_has ls 8 [(0, .ref (h 0)), (1, .ref (h 18)), (2, .int (nI k2))] → W p l e rm_X5_plan s m args below meth c H locs 0 0 Q (F0 m 51 ls []) := by
          intro fu
          induction fu with
          | zero => intro k2 F2 hk3 hcm2 hz2 hfr2 hn_; exact absurd hn_ (Nat.not_lt_zero _)
          | succ fu ih51 =>
            intro k2 F2 hk3 hcm2 hz2 hfr2 hn_ H locs ls hP hD hS hl
            refine lv_iload_n hx hb dX5_plan_51 rfl (lv_at hl 2 rfl) ?_
            refine lv_sipush (v := 402) hx hb dX5_plan_52 (by decide) ?_
            refine lv_icmp_ge (tgt := 79) hx hb dX5_plan_55 (by decide) (fun c_8 => ?_) (fun c_8 => ?_)
            · have c_8 : 402 ≤ k2 := (nI_leI (a := 402) (b := k2) (by omega) (by omega)).mp c_8
              refine lv_bipush (v := 23) hx hb dX5_plan_79 (by decide) ?_
              refine lv_istore_n (lv' := [(2, .int 23), (0, .ref (h 0)), (1, .ref (h 18))]) hx hb dX5_plan_81 rfl hl (by decide) rfl (fun ls hl => ?_)
              have loop82 : ∀ (fu : Nat) (k3 : Nat) (F3 : Nat → Nat → Int32), (nw ≤ k3) → (k3 ≤ 24) → (∀ i, nw ≤ i → i < 24 → F3 18 i = nI (cm i) ∧ cm i ≤ 40) → (∀ t, k3 ≤ t → t ≤ 24 → ∀ i, i < 402 → F3 16 (402 * t + i) = rowf Pr cm (24 - t) i) → (∀ j, j ∉ ([10, 11, 12, 14, 16, 17, 18] : List Nat) → F3 j = F j) → (k3 - nw) < fu → ∀ (H : Heap) (locs : List Loc) (ls : Array Slot), va_P (dC, dI) vwCl (wM cI cZ cJ h F3 G (va_up V 0 0)) H → va_D A (wM cI cZ cJ h F3 G (va_up V 0 0)) → va_S A s.heap H locs → lv_has ls 8 [(0, .ref (h 0)), (1, .ref (h 18)), (2, .int (nI k3 - 1))] → W p l e rm_X5_plan s m args below meth c H locs 0 0 Q (F0 m 82 ls []) := by
                intro fu
                induction fu with
                | zero => intro k3 F3 hk4 hk5 hcm3 hW3 hfr3 hn_; exact absurd hn_ (Nat.not_lt_zero _)
                | succ fu ih82 =>
                  intro k3 F3 hk4 hk5 hcm3 hW3 hfr3 hn_ H locs ls hP hD hS hl
                  have hN_9 : ∀ i, i < 24 → F3 9 i = nI (Pr i) := by rw [hfr3 9 (by decide)]; exact hPr
                  rcases Nat.eq_or_lt_of_le hk4 with hkn | hkn
                  · subst hkn
                    refine lv_iload_n hx hb dX5_plan_82 rfl (lv_at hl 2 rfl) ?_
                    refine lv_aload_n hx hb dX5_plan_83 rfl (lv_at hl 0 rfl) ?_
                    refine va_get (D := (dC, dI)) (ci := 5) (v := .int (V 3)) (C := RX5) (T := TX5) (N := 33) hx hb hts hin_X5 hown hK hP 0 rfl rfl 3 (by decide) hw3 (fun _ h9 => h9) rfl dX5_plan_84 ?_
                    refine lv_topi (fun x_10 ex_10 => ?_)
                    obtain rfl : x_10 = nI nw := ex_10.trans (hV3)
                    refine lv_icmp_lt (tgt := 230) hx hb dX5_plan_87 (by decide) (fun c_11 => ?_) (fun c_11 => ?_)
                    · have c_11 : ltI (nI nw - 1) (nI nw) = true := decide_eq_true c_11
                      refine lv_aload_n hx hb dX5_plan_230 rfl (lv_at hl 0 rfl) ?_
                      refine lv_aload_n hx hb dX5_plan_231 rfl (lv_at hl 0 rfl) ?_
                      refine va_get (D := (dC, dI)) (ci := 5) (v := .int (V 3)) (C := RX5) (T := TX5) (N := 33) hx hb hts hin_X5 hown hK hP 0 rfl rfl 3 (by decide) hw3 (fun _ h9 => h9) rfl dX5_plan_232 ?_
                      refine lv_topi (fun x_12 ex_12 => ?_)
                      obtain rfl : x_12 = nI nw := ex_12.trans (hV3)
                      refine va_put (D := (dC, dI)) (ci := 5) (v := .int (nI nw)) (ty := .int) (C := RX5) (T := TX5) (N := 33) hx hb hts hin_X5 tyX5 tyX5_ok nmX5 hown hK hP hD hS 0 rfl rfl 27 (by decide) hw4 (fun _ h9 => h9) rfl (by decide +kernel) rfl rfl (Nat.le_of_ble_eq_true rfl) dX5_plan_235 (fun H locs hP hD hS => ?_)
                      have hP : va_P (dC, dI) vwCl (wM cI cZ cJ h F3 G (va_up (va_up V 0 0) 10 (nI nw))) H := hP
                      have hD : va_D A (wM cI cZ cJ h F3 G (va_up (va_up V 0 0) 10 (nI nw))) := hD
                      refine lv_aload_n hx hb dX5_plan_238 rfl (lv_at hl 0 rfl) ?_
                      refine va_get (D := (dC, dI)) (ci := 5) (v := .int (V 4)) (C := RX5) (T := TX5) (N := 33) hx hb hts hin_X5 hown hK hP 0 rfl rfl 4 (by decide) hw5 (fun _ h9 => h9) rfl dX5_plan_239 ?_
                      refine lv_topi (fun x_13 ex_13 => ?_)
                      obtain rfl : x_13 = nI un := ex_13.trans (hV4)
                      refine lv_istore_n (lv' := [(2, .int (nI un)), (0, .ref (h 0)), (1, .ref (h 18))]) hx hb dX5_plan_242 rfl hl (by decide) rfl (fun ls hl => ?_)
                      refine lv_aload_n hx hb dX5_plan_243 rfl (lv_at hl 1 rfl) ?_
                      refine va_get (D := (dC, dI)) (ci := 5) (v := .int (V 7)) (C := RX5) (T := TX5) (N := 33) hx hb hts hin_X5 hown hK hP 0 rfl rfl 7 (by decide) hw6 (fun _ h9 => h9) rfl dX5_plan_244 ?_
                      refine lv_topi (fun x_14 ex_14 => ?_)
                      obtain rfl : x_14 = nI wm := ex_14.trans (hV7)
                      refine lv_istore_n (lv' := [(3, .int (nI wm)), (2, .int (nI un)), (0, .ref (h 0)), (1, .ref (h 18))]) hx hb dX5_plan_247 rfl hl (by decide) rfl (fun ls hl => ?_)
                      refine lv_aload_n hx hb dX5_plan_248 rfl (lv_at hl 2 rfl) ?_
                      refine va_get (D := (dC, dI)) (ci := 5) (v := .int (V 3)) (C := RX5) (T := TX5) (N := 33) hx hb hts hin_X5 hown hK hP 0 rfl rfl 3 (by decide) hw3 (fun _ h9 => h9) rfl dX5_plan_249 ?_
                      refine lv_topi (fun x_15 ex_15 => ?_)
                      obtain rfl : x_15 = nI nw := ex_15.trans (hV3)
                      refine lv_istore (lv' := [(4, .int (nI nw)), (3, .int (nI wm)), (2, .int (nI un)), (0, .ref (h 0)), (1, .ref (h 18))]) hx hb dX5_plan_252 hl (by decide) rfl (fun ls hl => ?_)
                      have loop254 : ∀ (fu : Nat) (k5 : Nat) (a : Nat) (b : Nat) (F5 : Nat → Nat → Int32), (nw ≤ k5) → (k5 ≤ 24) → (a ≤ 200) → (b ≤ 1) → (∀ i, nw ≤ i → i < 24 → F5 18 i = nI (cm i) ∧ cm i ≤ 40) → (∀ t, nw ≤ t → t ≤ 24 → ∀ i, i < 402 → F5 16 (402 * t + i) = rowf Pr cm (24 - t) i) → (∀ j, j ∉ ([10, 11, 12, 14, 16, 17, 18] : List Nat) → F5 j = F j) → (24 - k5) < fu → ∀ (H : Heap) (locs : List Loc) (ls : Array Slot), va_P (dC, dI) vwCl (wM cI cZ cJ h F5 G (va_up (va_up V 0 0) 10 (nI nw))) H → va_D A (wM cI cZ cJ h F5 G (va_up (va_up V 0 0) 10 (nI nw))) → va_S A s.heap H locs → lv_has ls 8 [(0, .ref (h 0)), (1, .ref (h 18)), (2, .int (nI a)), (3, .int (nI b)), (4, .int (nI k5))] → W p l e rm_X5_plan s m args below meth c H locs 0 0 Q (F0 m 254 ls []) := by
                        intro fu
                        induction fu with
                        | zero => intro k5 a b F5 hj1 hj2 haa hb5 hcm5 hW5 hfr5 hn_; exact absurd hn_ (Nat.not_lt_zero _)
                        | succ fu ih254 =>
                          intro k5 a b F5 hj1 hj2 haa hb5 hcm5 hW5 hfr5 hn_ H locs ls hP hD hS hl
                          refine lv_iload hx hb dX5_plan_254 (lv_at hl 4 rfl) ?_
                          refine lv_bipush (v := 24) hx hb dX5_plan_256 (by decide) ?_
                          refine lv_icmp_ge (tgt := 350) hx hb dX5_plan_258 (by decide) (fun c_16 => ?_) (fun c_16 => ?_)
                          · have c_16 : 24 ≤ k5 := (nI_leI (a := 24) (b := k5) (by omega) (by omega)).mp c_16
                            refine lv_aload_n hx hb dX5_plan_350 rfl (lv_at hl 0 rfl) ?_
                            refine va_get (D := (dC, dI)) (ci := 5) (v := .ref (h 16)) (C := RX5) (T := TX5) (N := 33) hx hb hts hin_X5 hown hK hP 0 rfl rfl 25 (by decide) hw7 (fun _ h9 => h9) rfl dX5_plan_351 ?_
                            refine lv_aload_n hx hb dX5_plan_354 rfl (lv_at hl 0 rfl) ?_
                            refine va_get (D := (dC, dI)) (ci := 5) (v := .int (V 3)) (C := RX5) (T := TX5) (N := 33) hx hb hts hin_X5 hown hK hP 0 rfl rfl 3 (by decide) hw3 (fun _ h9 => h9) rfl dX5_plan_355 ?_
                            refine lv_topi (fun x_17 ex_17 => ?_)
                            obtain rfl : x_17 = nI nw := ex_17.trans (hV3)
                            refine lv_aload_n hx hb dX5_plan_358 rfl (lv_at hl 0 rfl) ?_
                            refine va_get (D := (dC, dI)) (ci := 5) (v := .int (V 4)) (C := RX5) (T := TX5) (N := 33) hx hb hts hin_X5 hown hK hP 0 rfl rfl 4 (by decide) hw5 (fun _ h9 => h9) rfl dX5_plan_359 ?_
                            refine lv_topi (fun x_18 ex_18 => ?_)
                            obtain rfl : x_18 = nI un := ex_18.trans (hV4)
                            refine lv_aload_n hx hb dX5_plan_362 rfl (lv_at hl 0 rfl) ?_
                            refine va_get (D := (dC, dI)) (ci := 5) (v := .int (V 7)) (C := RX5) (T := TX5) (N := 33) hx hb hts hin_X5 hown hK hP 0 rfl rfl 7 (by decide) hw6 (fun _ h9 => h9) rfl dX5_plan_363 ?_
                            refine lv_topi (fun x_19 ex_19 => ?_)
                            obtain rfl : x_19 = nI wm := ex_19.trans (hV7)
                            refine cw_Si (As := [.int (nI nw), .int (nI un), .int (nI wm)]) (rest := [.ref (h 16)]) (c_X5_state l dC dI cI cZ cJ (wM cI cZ cJ h F5 G (va_up (va_up V 0 0) 10 (nI nw))) nw un wm (by omega)) fx (va_cwS 3 hts gX5_plan_X5_state rfl rfl rfl (by decide +kernel) ⟨Nat.le_of_ble_eq_true rfl, Nat.le_of_ble_eq_true rfl⟩) hK hP hD hS hA rfl hl.1 rfl (Nat.le_of_ble_eq_true rfl) dX5_plan_366 ⟨Nat.le_of_ble_eq_true rfl, Nat.le_of_ble_eq_true rfl⟩ (fun r_20 u_21 H locs hw_22 hP hD hS => ?_)
                            have hP : va_P (dC, dI) vwCl (wM cI cZ cJ h F5 G (va_up (va_up V 0 0) 10 (nI nw))) H := hP
                            have hD : va_D A (wM cI cZ cJ h F5 G (va_up (va_up V 0 0) 10 (nI nw))) := hD
                            obtain rfl : r_20 = nI ((201 * nw + un) * 2 + wm) := hw_22
                            refine va_iald hx hb hK hP 16 0 rfl rfl (vp_in_nI (n := (201 * nw + un) * 2 + wm) (N := 10050) (by omega) (by decide)) dX5_plan_369 ?_
                            refine lv_topi (fun x_23 ex_23 => ?_)
                            rw [nI_clamp (n := (201 * nw + un) * 2 + wm) (by omega)] at ex_23
                            exact hret x_23 (F5, G, va_up (va_up V 0 0) 10 (nI nw)) H locs 370 ls rfl dX5_plan_370 (⟨trivial, ⟨n, nw, un, d, wm, nw, sh, am, So, Lm, Hh, Wd, Pr, ⟨hV2, by omega⟩, ⟨hV3, by omega⟩, ⟨hV4, by omega⟩, ⟨hV6, by omega⟩, ⟨hV7, by omega⟩, ⟨rfl, by omega⟩, ⟨hV11, by omega⟩, ⟨hV8, by omega⟩, ⟨(fun i hi => (congrFun (hfr5 3 (by decide)) i).trans (hSo i hi)), bSo⟩, ⟨(fun i hi => (congrFun (hfr5 4 (by decide)) i).trans (hLm i hi)), bLm⟩, ⟨(fun i hi => (congrFun (hfr5 7 (by decide)) i).trans (hHh i hi)), bHh⟩, ⟨(fun i hi => (congrFun (hfr5 8 (by decide)) i).trans (hWd i hi)), bWd⟩, ⟨(fun i hi => (congrFun (hfr5 9 (by decide)) i).trans (hPr i hi)), bPr⟩⟩⟩) (hP) (hD) hS
                          · have c_16 : ¬ 24 ≤ k5 := fun h => c_16 ((nI_leI (a := 24) (b := k5) (by omega) (by omega)).mpr h)
                            refine lv_iload_n hx hb dX5_plan_261 rfl (lv_at hl 2 rfl) ?_
                            refine lv_aload_n hx hb dX5_plan_262 rfl (lv_at hl 1 rfl) ?_
                            refine lv_iload hx hb dX5_plan_263 (lv_at hl 4 rfl) ?_
                            refine va_iald hx hb hK hP 18 0 rfl rfl (vp_in_nI (n := k5) (N := 24) (by omega) (by decide)) dX5_plan_265 ?_
                            have hb_24 := (hcm5 (k5) (by omega) (by omega)).2
                            refine lv_topi (fun x_25 ex_25 => ?_)
                            obtain rfl : x_25 = nI (cm (k5)) := ex_25.trans ((congrArg (F5 18) (nI_clamp (n := k5) (by omega))).trans (hcm5 (k5) (by omega) (by omega)).1)
                            refine cw_Si (As := [.int (nI a), .int (nI (cm (k5)))]) (rest := []) (c_X5_filled l dC dI cI cZ cJ (wM cI cZ cJ h F5 G (va_up (va_up V 0 0) 10 (nI nw))) a (cm (k5)) (by omega)) fx (va_cwS 2 hts gX5_plan_X5_filled rfl rfl rfl (by decide +kernel) ⟨Nat.le_of_ble_eq_true rfl, Nat.le_of_ble_eq_true rfl⟩) hK hP hD hS hA rfl hl.1 rfl (Nat.le_of_ble_eq_true rfl) dX5_plan_266 ⟨Nat.le_of_ble_eq_true rfl, Nat.le_of_ble_eq_true rfl⟩ (fun r_26 u_27 H locs hw_28 hP hD hS => ?_)
                            have hP : va_P (dC, dI) vwCl (wM cI cZ cJ h F5 G (va_up (va_up V 0 0) 10 (nI nw))) H := hP
                            have hD : va_D A (wM cI cZ cJ h F5 G (va_up (va_up V 0 0) 10 (nI nw))) := hD
                            obtain rfl : r_26 = nI (min 200 (a + (cm (k5)))) := hw_28
                            refine lv_istore (lv' := [(5, .int (nI (min 200 (a + (cm (k5)))))), (0, .ref (h 0)), (1, .ref (h 18)), (2, .int (nI a)), (3, .int (nI b)), (4, .int (nI k5))]) hx hb dX5_plan_269 hl (by decide) rfl (fun ls hl => ?_)
                            refine lv_aload_n hx hb dX5_plan_271 rfl (lv_at hl 1 rfl) ?_
                            refine va_get (D := (dC, dI)) (ci := 5) (v := .ref (h 17)) (C := RX5) (T := TX5) (N := 33) hx hb hts hin_X5 hown hK hP 0 rfl rfl 26 (by decide) hw8 (fun _ h9 => h9) rfl dX5_plan_272 ?_
                            refine lv_iload hx hb dX5_plan_275 (lv_at hl 5 rfl) ?_
                            refine lv_aload_n hx hb dX5_plan_277 rfl (lv_at hl 1 rfl) ?_
                            refine va_get (D := (dC, dI)) (ci := 5) (v := .ref (h 16)) (C := RX5) (T := TX5) (N := 33) hx hb hts hin_X5 hown hK hP 0 rfl rfl 25 (by decide) hw7 (fun _ h9 => h9) rfl dX5_plan_278 ?_
                            refine lv_iload hx hb dX5_plan_281 (lv_at hl 5 rfl) ?_
                            refine lv_iconst (v := 1) hx hb dX5_plan_283 (by decide) ?_
                            refine lv_iadd hx hb dX5_plan_284 ?_
                            refine lv_topi (fun x_29 ex_29 => ?_)
                            obtain rfl : x_29 = nI (k5 + 1) := ex_29.trans (nI_add k5 1)
                            refine lv_iload hx hb dX5_plan_285 (lv_at hl 0 rfl) ?_
                            refine lv_iconst (v := 0) hx hb dX5_plan_287 (by decide) ?_
                            refine cw_Si (As := [.int (nI (k5 + 1)), .int (nI (min 200 (a + (cm (k5))))), .int 0]) (rest := [.ref (h 16), .int (nI k5), .ref (h 17)]) (c_X5_state l dC dI cI cZ cJ (wM cI cZ cJ h F5 G (va_up (va_up V 0 0) 10 (nI nw))) (k5 + 1) (min 200 (a + (cm (k5)))) 0 (by omega)) fx (va_cwS 3 hts gX5_plan_X5_state rfl rfl rfl (by decide +kernel) ⟨Nat.le_of_ble_eq_true rfl, Nat.le_of_ble_eq_true rfl⟩) hK hP hD hS hA rfl hl.1 rfl (Nat.le_of_ble_eq_true rfl) dX5_plan_288 ⟨Nat.le_of_ble_eq_true rfl, Nat.le_of_ble_eq_true rfl⟩ (fun r_30 u_31 H locs hw_32 hP hD hS => ?_)
                            have hP : va_P (dC, dI) vwCl (wM cI cZ cJ h F5 G (va_up (va_up V 0 0) 10 (nI nw))) H := hP
                            have hD : va_D A (wM cI cZ cJ h F5 G (va_up (va_up V 0 0) 10 (nI nw))) := hD
                            obtain rfl : r_30 = nI ((201 * (k5 + 1) + (min 200 (a + (cm (k5))))) * 2 + 0) := hw_32
                            refine va_iald hx hb hK hP 16 0 rfl rfl (vp_in_nI (n := (201 * (k5 + 1) + (min 200 (a + (cm (k5))))) * 2 + 0) (N := 10050) (by omega) (by decide)) dX5_plan_291 ?_
                            refine lv_topi (fun x_33 ex_33 => ?_)
                            rw [nI_clamp (n := (201 * (k5 + 1) + (min 200 (a + (cm (k5))))) * 2 + 0) (by omega)] at ex_33
                            refine lv_aload_n hx hb dX5_plan_292 rfl (lv_at hl 1 rfl) ?_
                            refine va_get (D := (dC, dI)) (ci := 5) (v := .ref (h 16)) (C := RX5) (T := TX5) (N := 33) hx hb hts hin_X5 hown hK hP 0 rfl rfl 25 (by decide) hw7 (fun _ h9 => h9) rfl dX5_plan_293 ?_
                            refine lv_iload hx hb dX5_plan_296 (lv_at hl 5 rfl) ?_
                            refine lv_iload_n hx hb dX5_plan_298 rfl (lv_at hl 3 rfl) ?_
                            refine lv_iload_n hx hb dX5_plan_299 rfl (lv_at hl 4 rfl) ?_
                            refine cw_Si (As := [.int (nI k5), .int (nI a), .int (nI b)]) (rest := [.ref (h 16), .int x_33, .int (nI k5), .ref (h 17)]) (c_X5_state l dC dI cI cZ cJ (wM cI cZ cJ h F5 G (va_up (va_up V 0 0) 10 (nI nw))) k5 a b (by omega)) fx (va_cwS 3 hts gX5_plan_X5_state rfl rfl rfl (by decide +kernel) ⟨Nat.le_of_ble_eq_true rfl, Nat.le_of_ble_eq_true rfl⟩) hK hP hD hS hA rfl hl.1 rfl (Nat.le_of_ble_eq_true rfl) dX5_plan_300 ⟨Nat.le_of_ble_eq_true rfl, Nat.le_of_ble_eq_true rfl⟩ (fun r_34 u_35 H locs hw_36 hP hD hS => ?_)
                            have hP : va_P (dC, dI) vwCl (wM cI cZ cJ h F5 G (va_up (va_up V 0 0) 10 (nI nw))) H := hP
                            have hD : va_D A (wM cI cZ cJ h F5 G (va_up (va_up V 0 0) 10 (nI nw))) := hD
                            obtain rfl : r_34 = nI ((201 * k5 + a) * 2 + b) := hw_36
                            refine va_iald hx hb hK hP 16 0 rfl rfl (vp_in_nI (n := (201 * k5 + a) * 2 + b) (N := 10050) (by omega) (by decide)) dX5_plan_303 ?_
                            refine lv_topi (fun x_37 ex_37 => ?_)
                            rw [nI_clamp (n := (201 * k5 + a) * 2 + b) (by omega)] at ex_37
                            refine lv_icmp_ge (tgt := 311) hx hb dX5_plan_304 (by decide) (fun c_38 => ?_) (fun c_38 => ?_)
                            · have c_38 : ltI x_33 x_37 = false := decide_eq_false (Int32.not_lt.mpr c_38)
                              refine lv_iconst (v := 0) hx hb dX5_plan_311 (by decide) ?_
                              refine va_zast hx hb hK hP hD hS 17 1 rfl rfl (vp_in_nI (n := k5) (N := 24) (by omega) (by decide)) dX5_plan_312 (fun H locs hP hD hS => ?_)
                              obtain ⟨F_39, eF_39⟩ : ∃ z : Nat → Nat → Int32, z = va_up F5 17 (upd (F5 17) (nI k5).toNatClampNeg (vp_nar .boolean 0)) := ⟨_, rfl⟩
                              have hP : va_P (dC, dI) vwCl (wM cI cZ cJ h F_39 G (va_up (va_up V 0 0) 10 (nI nw))) H := by rw [eF_39]; exact hP
                              have hD : va_D A (wM cI cZ cJ h F_39 G (va_up (va_up V 0 0) 10 (nI nw))) := by rw [eF_39]; exact hD
                              have hE_40 : F_39 17 k5 = 0 := by rw [eF_39]; show upd _ (nI k5).toNatClampNeg _ _ = _; rw [nI_clamp (by omega)]; exact pk_us.trans (by decide)
                              refine lv_aload_n hx hb dX5_plan_313 rfl (lv_at hl 1 rfl) ?_
                              refine va_get (D := (dC, dI)) (ci := 5) (v := .ref (h 17)) (C := RX5) (T := TX5) (N := 33) hx hb hts hin_X5 hown hK hP 0 rfl rfl 26 (by decide) hw8 (fun _ h9 => h9) rfl dX5_plan_314 ?_
                              refine lv_iload hx hb dX5_plan_317 (lv_at hl 5 rfl) ?_
                              refine va_zald hx hb hK hP 17 1 rfl rfl (vp_in_nI (n := k5) (N := 24) (by omega) (by decide)) dX5_plan_319 ?_
                              refine lv_topi (fun x_41 ex_41 => ?_)
                              obtain rfl : x_41 = 0 := ex_41.trans ((congrArg (F_39 17) (nI_clamp (n := k5) (by omega))).trans hE_40)
                              refine lv_if_eq (tgt := 333) hx hb dX5_plan_320 (by decide) (fun c_42 => ?_) (fun c_42 => ?_)
                              · refine lv_iload hx hb dX5_plan_333 (lv_at hl 0 rfl) ?_
                                refine lv_istore_n (lv' := [(2, .int (nI (min 200 (a + (cm (k5)))))), (5, .int (nI (min 200 (a + (cm (k5)))))), (0, .ref (h 0)), (1, .ref (h 18)), (3, .int (nI b)), (4, .int (nI k5))]) hx hb dX5_plan_335 rfl hl (by decide) rfl (fun ls hl => ?_)
                                refine lv_aload_n hx hb dX5_plan_336 rfl (lv_at hl 2 rfl) ?_
                                refine va_get (D := (dC, dI)) (ci := 5) (v := .ref (h 17)) (C := RX5) (T := TX5) (N := 33) hx hb hts hin_X5 hown hK hP 0 rfl rfl 26 (by decide) hw8 (fun _ h9 => h9) rfl dX5_plan_337 ?_
                                refine lv_iload hx hb dX5_plan_340 (lv_at hl 5 rfl) ?_
                                refine va_zald hx hb hK hP 17 1 rfl rfl (vp_in_nI (n := k5) (N := 24) (by omega) (by decide)) dX5_plan_342 ?_
                                refine lv_topi (fun x_43 ex_43 => ?_)
                                obtain rfl : x_43 = 0 := ex_43.trans ((congrArg (F_39 17) (nI_clamp (n := k5) (by omega))).trans hE_40)
                                refine lv_istore_n (lv' := [(3, .int 0), (2, .int (nI (min 200 (a + (cm (k5)))))), (5, .int (nI (min 200 (a + (cm (k5)))))), (0, .ref (h 0)), (1, .ref (h 18)), (4, .int (nI k5))]) hx hb dX5_plan_343 rfl hl (by decide) rfl (fun ls hl => ?_)
                                refine lv_iinc (v := nI (k5 + 1)) (lv' := [(4, .int (nI (k5 + 1))), (3, .int 0), (2, .int (nI (min 200 (a + (cm (k5)))))), (5, .int (nI (min 200 (a + (cm (k5)))))), (0, .ref (h 0)), (1, .ref (h 18))]) hx hb dX5_plan_344 hl (k := 5) rfl (nI_1 _) (by decide) rfl (fun ls hl => ?_)
                                refine lv_goto (tgt := 254) hx hb dX5_plan_347 (by decide) ?_
                                exact ih254 (k5 + 1) (min 200 (a + (cm (k5)))) 0 F_39 (by omega) (by omega) (by omega) (by omega) (by rw [eF_39]; exact hcm5) (by rw [eF_39]; exact hW5) (fun j hj => ((va_ne eF_39 (fun h => hj (by rw [h]; decide))).trans (hfr5 j hj))) (by omega) H locs ls hP hD hS (lv_sub hl [4, 5, 2, 1, 0] rfl)
                              · exact absurd c_42 (by decide)
                            · have c_38 : ltI x_33 x_37 = true := decide_eq_true (Int32.not_le.mp c_38)
                              refine lv_iconst (v := 1) hx hb dX5_plan_307 (by decide) ?_
                              refine lv_goto (tgt := 312) hx hb dX5_plan_308 (by decide) ?_
                              refine va_zast hx hb hK hP hD hS 17 1 rfl rfl (vp_in_nI (n := k5) (N := 24) (by omega) (by decide)) dX5_plan_312 (fun H locs hP hD hS => ?_)
                              obtain ⟨F_44, eF_44⟩ : ∃ z : Nat → Nat → Int32, z = va_up F5 17 (upd (F5 17) (nI k5).toNatClampNeg (vp_nar .boolean 1)) := ⟨_, rfl⟩
                              have hP : va_P (dC, dI) vwCl (wM cI cZ cJ h F_44 G (va_up (va_up V 0 0) 10 (nI nw))) H := by rw [eF_44]; exact hP
                              have hD : va_D A (wM cI cZ cJ h F_44 G (va_up (va_up V 0 0) 10 (nI nw))) := by rw [eF_44]; exact hD
                              have hE_45 : F_44 17 k5 = 1 := by rw [eF_44]; show upd _ (nI k5).toNatClampNeg _ _ = _; rw [nI_clamp (by omega)]; exact pk_us.trans (by decide)
                              refine lv_aload_n hx hb dX5_plan_313 rfl (lv_at hl 1 rfl) ?_
                              refine va_get (D := (dC, dI)) (ci := 5) (v := .ref (h 17)) (C := RX5) (T := TX5) (N := 33) hx hb hts hin_X5 hown hK hP 0 rfl rfl 26 (by decide) hw8 (fun _ h9 => h9) rfl dX5_plan_314 ?_
                              refine lv_iload hx hb dX5_plan_317 (lv_at hl 5 rfl) ?_
                              refine va_zald hx hb hK hP 17 1 rfl rfl (vp_in_nI (n := k5) (N := 24) (by omega) (by decide)) dX5_plan_319 ?_
                              refine lv_topi (fun x_46 ex_46 => ?_)
                              obtain rfl : x_46 = 1 := ex_46.trans ((congrArg (F_44 17) (nI_clamp (n := k5) (by omega))).trans hE_45)
                              refine lv_if_eq (tgt := 333) hx hb dX5_plan_320 (by decide) (fun c_47 => ?_) (fun c_47 => ?_)
                              · exact absurd c_47 (by decide)
                              · have hs5 : 7 - 2 * b ≤ (min 200 (a + cm (k5))) := wval_run (L := rowf Pr cm (23 - k5)) (g := 5 * Pr k5) (by
                                  have q1 : x_33 = rowf Pr cm (23 - k5) (2 * (min 200 (a + cm (k5)))) := (ex_33).trans ((congrArg (F5 16) (show _ = 402 * (k5 + 1) + 2 * (min 200 (a + cm (k5))) by omega)).trans ((hW5 (k5 + 1) (by omega) (by omega) _ (by omega)).trans (by rw [show 24 - (k5 + 1) = 23 - k5 by omega])))
                                  have q2 : x_37 = rowf Pr cm (24 - k5) (2 * a + b) := (ex_37).trans ((congrArg (F5 16) (show _ = 402 * k5 + (2 * a + b) by omega)).trans (hW5 k5 (by omega) (by omega) _ (by omega)))
                                  rw [rowf_at _ _ (by omega) hb5] at q2
                                  rw [← q1, ← q2]; exact c_38)
                                refine lv_iload hx hb dX5_plan_323 (lv_at hl 0 rfl) ?_
                                refine lv_iload_n hx hb dX5_plan_325 rfl (lv_at hl 4 rfl) ?_
                                refine cw_Si (As := [.int (nI b)]) (rest := [.int (nI (min 200 (a + (cm (k5)))))]) (c_X5_takes l dC dI cI cZ cJ (wM cI cZ cJ h F_44 G (va_up (va_up V 0 0) 10 (nI nw))) b (by omega)) fx (va_cwS 1 hts gX5_plan_X5_takes rfl rfl rfl (by decide +kernel) ⟨Nat.le_of_ble_eq_true rfl, Nat.le_of_ble_eq_true rfl⟩) hK hP hD hS hA rfl hl.1 rfl (Nat.le_of_ble_eq_true rfl) dX5_plan_326 ⟨Nat.le_of_ble_eq_true rfl, Nat.le_of_ble_eq_true rfl⟩ (fun r_48 u_49 H locs hw_50 hP hD hS => ?_)
                                have hP : va_P (dC, dI) vwCl (wM cI cZ cJ h F_44 G (va_up (va_up V 0 0) 10 (nI nw))) H := hP
                                have hD : va_D A (wM cI cZ cJ h F_44 G (va_up (va_up V 0 0) 10 (nI nw))) := hD
                                obtain rfl : r_48 = nI (7 - 2 * b) := hw_50
                                refine lv_isub hx hb dX5_plan_329 ?_
                                refine lv_topi (fun x_51 ex_51 => ?_)
                                obtain rfl : x_51 = nI ((min 200 (a + (cm (k5)))) - (7 - 2 * b)) := ex_51.trans (pk_sub (a := min 200 (a + (cm (k5)))) (b := 7 - 2 * b) (by omega))
                                refine lv_goto (tgt := 335) hx hb dX5_plan_330 (by decide) ?_
                                refine lv_istore_n (lv' := [(2, .int (nI ((min 200 (a + (cm (k5)))) - (7 - 2 * b)))), (5, .int (nI (min 200 (a + (cm (k5)))))), (0, .ref (h 0)), (1, .ref (h 18)), (3, .int (nI b)), (4, .int (nI k5))]) hx hb dX5_plan_335 rfl hl (by decide) rfl (fun ls hl => ?_)
                                refine lv_aload_n hx hb dX5_plan_336 rfl (lv_at hl 2 rfl) ?_
                                refine va_get (D := (dC, dI)) (ci := 5) (v := .ref (h 17)) (C := RX5) (T := TX5) (N := 33) hx hb hts hin_X5 hown hK hP 0 rfl rfl 26 (by decide) hw8 (fun _ h9 => h9) rfl dX5_plan_337 ?_
                                refine lv_iload hx hb dX5_plan_340 (lv_at hl 5 rfl) ?_
                                refine va_zald hx hb hK hP 17 1 rfl rfl (vp_in_nI (n := k5) (N := 24) (by omega) (by decide)) dX5_plan_342 ?_
                                refine lv_topi (fun x_52 ex_52 => ?_)
                                obtain rfl : x_52 = 1 := ex_52.trans ((congrArg (F_44 17) (nI_clamp (n := k5) (by omega))).trans hE_45)
                                refine lv_istore_n (lv' := [(3, .int 1), (2, .int (nI ((min 200 (a + (cm (k5)))) - (7 - 2 * b)))), (5, .int (nI (min 200 (a + (cm (k5)))))), (0, .ref (h 0)), (1, .ref (h 18)), (4, .int (nI k5))]) hx hb dX5_plan_343 rfl hl (by decide) rfl (fun ls hl => ?_)
                                refine lv_iinc (v := nI (k5 + 1)) (lv' := [(4, .int (nI (k5 + 1))), (3, .int 1), (2, .int (nI ((min 200 (a + (cm (k5)))) - (7 - 2 * b)))), (5, .int (nI (min 200 (a + (cm (k5)))))), (0, .ref (h 0)), (1, .ref (h 18))]) hx hb dX5_plan_344 hl (k := 5) rfl (nI_1 _) (by decide) rfl (fun ls hl => ?_)
                                refine lv_goto (tgt := 254) hx hb dX5_plan_347 (by decide) ?_
                                exact ih254 (k5 + 1) ((min 200 (a + (cm (k5)))) - (7 - 2 * b)) 1 F_44 (by omega) (by omega) (by omega) (by omega) (by rw [eF_44]; exact hcm5) (by rw [eF_44]; exact hW5) (fun j hj => ((va_ne eF_44 (fun h => hj (by rw [h]; decide))).trans (hfr5 j hj))) (by omega) H locs ls hP hD hS (lv_sub hl [4, 5, 2, 1, 0] rfl)
                      exact loop254 _ nw un wm F3 (by omega) (by omega) (by omega) (by omega) hcm3 hW3 hfr3 (Nat.lt_succ_self _) H locs ls hP hD hS (lv_sub hl [3, 4, 2, 1, 0] rfl)
                    · exact absurd (pred_lt (by omega)) c_11
                  · obtain ⟨q, rfl⟩ : ∃ q, k3 = q + 1 := ⟨k3 - 1, by omega⟩
                    rw [nI_pred] at hl
                    refine lv_iload_n hx hb dX5_plan_82 rfl (lv_at hl 2 rfl) ?_
                    refine lv_aload_n hx hb dX5_plan_83 rfl (lv_at hl 0 rfl) ?_
                    refine va_get (D := (dC, dI)) (ci := 5) (v := .int (V 3)) (C := RX5) (T := TX5) (N := 33) hx hb hts hin_X5 hown hK hP 0 rfl rfl 3 (by decide) hw3 (fun _ h9 => h9) rfl dX5_plan_84 ?_
                    refine lv_topi (fun x_53 ex_53 => ?_)
                    obtain rfl : x_53 = nI nw := ex_53.trans (hV3)
                    refine lv_icmp_lt (tgt := 230) hx hb dX5_plan_87 (by decide) (fun c_54 => ?_) (fun c_54 => ?_)
                    · exact absurd ((nI_ltI (a := q) (b := nw) (by omega) (by omega)).mp c_54) (by omega)
                    · have c_54 : ¬ q < nw := fun h => c_54 ((nI_ltI (a := q) (b := nw) (by omega) (by omega)).mpr h)
                      refine lv_iconst (v := 0) hx hb dX5_plan_90 (by decide) ?_
                      refine lv_istore_n (lv' := [(3, .int 0), (0, .ref (h 0)), (1, .ref (h 18)), (2, .int (nI q))]) hx hb dX5_plan_91 rfl hl (by decide) rfl (fun ls hl => ?_)
                      have loop92 : ∀ (fu : Nat) (u : Nat) (F4 : Nat → Nat → Int32), (u ≤ 201) → (∀ i, nw ≤ i → i < 24 → F4 18 i = nI (cm i) ∧ cm i ≤ 40) → (∀ i, i < 2 * u → F4 16 (402 * q + i) = rowf Pr cm (24 - q) i) → (∀ t, q + 1 ≤ t → t ≤ 24 → ∀ i, i < 402 → F4 16 (402 * t + i) = rowf Pr cm (24 - t) i) → (∀ j, j ∉ ([10, 11, 12, 14, 16, 17, 18] : List Nat) → F4 j = F j) → (201 - u) < fu → ∀ (H : Heap) (locs : List Loc) (ls : Array Slot), va_P (dC, dI) vwCl (wM cI cZ cJ h F4 G (va_up V 0 0)) H → va_D A (wM cI cZ cJ h F4 G (va_up V 0 0)) → va_S A s.heap H locs → lv_has ls 8 [(0, .ref (h 0)), (1, .ref (h 18)), (2, .int (nI q)), (3, .int (nI u))] → W p l e rm_X5_plan s m args below meth c H locs 0 0 Q (F0 m 92 ls []) := by
                        intro fu
                        induction fu with
                        | zero => intro u F4 hu hcm4 hlo4 hW4 hfr4 hn_; exact absurd hn_ (Nat.not_lt_zero _)
                        | succ fu ih92 =>
                          intro u F4 hu hcm4 hlo4 hW4 hfr4 hn_ H locs ls hP hD hS hl
                          have hN_55 : ∀ i, i < 24 → F4 9 i = nI (Pr i) := by rw [hfr4 9 (by decide)]; exact hPr
                          refine lv_iload_n hx hb dX5_plan_92 rfl (lv_at hl 3 rfl) ?_
                          refine lv_sipush (v := 200) hx hb dX5_plan_93 (by decide) ?_
                          refine lv_icmp_gt (tgt := 224) hx hb dX5_plan_96 (by decide) (fun c_56 => ?_) (fun c_56 => ?_)
                          · have c_56 : 200 < u := (nI_ltI (a := 200) (b := u) (by omega) (by omega)).mp c_56
                            refine lv_iinc (v := nI q - 1) (lv' := [(2, .int (nI q - 1)), (0, .ref (h 0)), (1, .ref (h 18)), (3, .int (nI u))]) hx hb dX5_plan_224 hl (k := 2) rfl (by rw [Int32.sub_eq_add_neg]; rfl) (by decide) rfl (fun ls hl => ?_)
                            refine lv_goto (tgt := 82) hx hb dX5_plan_227 (by decide) ?_
                            exact ih82 q F4 (by omega) (by omega) hcm4 (fun t h1 h2 i hi => by
                              by_cases e : t = q
                              · rw [e]; exact hlo4 i (by omega)
                              · exact hW4 t (by omega) h2 i hi) hfr4 (by omega) H locs ls hP hD hS (lv_sub hl [1, 2, 0] rfl)
                          · have c_56 : ¬ 200 < u := fun h => c_56 ((nI_ltI (a := 200) (b := u) (by omega) (by omega)).mpr h)
                            refine lv_iconst (v := 0) hx hb dX5_plan_99 (by decide) ?_
                            refine lv_istore (lv' := [(4, .int 0), (0, .ref (h 0)), (1, .ref (h 18)), (2, .int (nI q)), (3, .int (nI u))]) hx hb dX5_plan_100 hl (by decide) rfl (fun ls hl => ?_)
                            refine lv_iload hx hb dX5_plan_102 (lv_at hl 0 rfl) ?_
                            refine lv_iconst (v := 2) hx hb dX5_plan_104 (by decide) ?_
                            refine lv_icmp_ge (tgt := 218) hx hb dX5_plan_105 (by decide) (fun c_57 => ?_) (fun c_57 => ?_)
                            · exact absurd c_57 (by decide)
                            · refine lv_iload_n hx hb dX5_plan_108 rfl (lv_at hl 4 rfl) ?_
                              refine lv_aload_n hx hb dX5_plan_109 rfl (lv_at hl 2 rfl) ?_
                              refine lv_iload_n hx hb dX5_plan_110 rfl (lv_at hl 3 rfl) ?_
                              refine va_iald hx hb hK hP 18 0 rfl rfl (vp_in_nI (n := q) (N := 24) (by omega) (by decide)) dX5_plan_111 ?_
                              have hb_58 := (hcm4 (q) (by omega) (by omega)).2
                              refine lv_topi (fun x_59 ex_59 => ?_)
                              obtain rfl : x_59 = nI (cm (q)) := ex_59.trans ((congrArg (F4 18) (nI_clamp (n := q) (by omega))).trans (hcm4 (q) (by omega) (by omega)).1)
                              refine cw_Si (As := [.int (nI u), .int (nI (cm (q)))]) (rest := []) (c_X5_filled l dC dI cI cZ cJ (wM cI cZ cJ h F4 G (va_up V 0 0)) u (cm (q)) (by omega)) fx (va_cwS 2 hts gX5_plan_X5_filled rfl rfl rfl (by decide +kernel) ⟨Nat.le_of_ble_eq_true rfl, Nat.le_of_ble_eq_true rfl⟩) hK hP hD hS hA rfl hl.1 rfl (Nat.le_of_ble_eq_true rfl) dX5_plan_112 ⟨Nat.le_of_ble_eq_true rfl, Nat.le_of_ble_eq_true rfl⟩ (fun r_60 u_61 H locs hw_62 hP hD hS => ?_)
                              have hP : va_P (dC, dI) vwCl (wM cI cZ cJ h F4 G (va_up V 0 0)) H := hP
                              have hD : va_D A (wM cI cZ cJ h F4 G (va_up V 0 0)) := hD
                              obtain rfl : r_60 = nI (min 200 (u + (cm (q)))) := hw_62
                              refine lv_istore (lv' := [(5, .int (nI (min 200 (u + (cm (q)))))), (4, .int 0), (0, .ref (h 0)), (1, .ref (h 18)), (2, .int (nI q)), (3, .int (nI u))]) hx hb dX5_plan_115 hl (by decide) rfl (fun ls hl => ?_)
                              refine lv_aload_n hx hb dX5_plan_117 rfl (lv_at hl 2 rfl) ?_
                              refine va_get (D := (dC, dI)) (ci := 5) (v := .ref (h 16)) (C := RX5) (T := TX5) (N := 33) hx hb hts hin_X5 hown hK hP 0 rfl rfl 25 (by decide) hw7 (fun _ h9 => h9) rfl dX5_plan_118 ?_
                              refine lv_iload_n hx hb dX5_plan_121 rfl (lv_at hl 4 rfl) ?_
                              refine lv_iconst (v := 1) hx hb dX5_plan_122 (by decide) ?_
                              refine lv_iadd hx hb dX5_plan_123 ?_
                              refine lv_topi (fun x_63 ex_63 => ?_)
                              obtain rfl : x_63 = nI (q + 1) := ex_63.trans (nI_add q 1)
                              refine lv_iload hx hb dX5_plan_124 (lv_at hl 0 rfl) ?_
                              refine lv_iconst (v := 0) hx hb dX5_plan_126 (by decide) ?_
                              refine cw_Si (As := [.int (nI (q + 1)), .int (nI (min 200 (u + (cm (q))))), .int 0]) (rest := [.ref (h 16)]) (c_X5_state l dC dI cI cZ cJ (wM cI cZ cJ h F4 G (va_up V 0 0)) (q + 1) (min 200 (u + (cm (q)))) 0 (by omega)) fx (va_cwS 3 hts gX5_plan_X5_state rfl rfl rfl (by decide +kernel) ⟨Nat.le_of_ble_eq_true rfl, Nat.le_of_ble_eq_true rfl⟩) hK hP hD hS hA rfl hl.1 rfl (Nat.le_of_ble_eq_true rfl) dX5_plan_127 ⟨Nat.le_of_ble_eq_true rfl, Nat.le_of_ble_eq_true rfl⟩ (fun r_64 u_65 H locs hw_66 hP hD hS => ?_)
                              have hP : va_P (dC, dI) vwCl (wM cI cZ cJ h F4 G (va_up V 0 0)) H := hP
                              have hD : va_D A (wM cI cZ cJ h F4 G (va_up V 0 0)) := hD
                              obtain rfl : r_64 = nI ((201 * (q + 1) + (min 200 (u + (cm (q))))) * 2 + 0) := hw_66
                              refine va_iald hx hb hK hP 16 0 rfl rfl (vp_in_nI (n := (201 * (q + 1) + (min 200 (u + (cm (q))))) * 2 + 0) (N := 10050) (by omega) (by decide)) dX5_plan_130 ?_
                              refine lv_topi (fun x_67 ex_67 => ?_)
                              rw [nI_clamp (n := (201 * (q + 1) + (min 200 (u + (cm (q))))) * 2 + 0) (by omega)] at ex_67
                              refine lv_istore (lv' := [(6, .int x_67), (5, .int (nI (min 200 (u + (cm (q)))))), (4, .int 0), (0, .ref (h 0)), (1, .ref (h 18)), (2, .int (nI q)), (3, .int (nI u))]) hx hb dX5_plan_131 hl (by decide) rfl (fun ls hl => ?_)
                              refine lv_iload hx hb dX5_plan_133 (lv_at hl 2 rfl) ?_
                              refine lv_iconst (v := 1) hx hb dX5_plan_135 (by decide) ?_
                              refine lv_icmp_ne (tgt := 143) hx hb dX5_plan_136 (by decide) (fun c_68 => ?_) (fun c_68 => ?_)
                              · refine lv_iconst (v := 0) hx hb dX5_plan_143 (by decide) ?_
                                refine cw_Si (As := [.int 0]) (rest := []) (c_X5_takes l dC dI cI cZ cJ (wM cI cZ cJ h F4 G (va_up V 0 0)) 0 (by omega)) fx (va_cwS 1 hts gX5_plan_X5_takes rfl rfl rfl (by decide +kernel) ⟨Nat.le_of_ble_eq_true rfl, Nat.le_of_ble_eq_true rfl⟩) hK hP hD hS hA rfl hl.1 rfl (Nat.le_of_ble_eq_true rfl) dX5_plan_144 ⟨Nat.le_of_ble_eq_true rfl, Nat.le_of_ble_eq_true rfl⟩ (fun r_69 u_70 H locs hw_71 hP hD hS => ?_)
                                have hP : va_P (dC, dI) vwCl (wM cI cZ cJ h F4 G (va_up V 0 0)) H := hP
                                have hD : va_D A (wM cI cZ cJ h F4 G (va_up V 0 0)) := hD
                                obtain rfl : r_69 = 7 := hw_71
                                refine lv_istore (lv' := [(7, .int 7), (6, .int x_67), (5, .int (nI (min 200 (u + (cm (q)))))), (4, .int 0), (0, .ref (h 0)), (1, .ref (h 18)), (2, .int (nI q)), (3, .int (nI u))]) hx hb dX5_plan_147 hl (by decide) rfl (fun ls hl => ?_)
                                refine lv_iload hx hb dX5_plan_149 (lv_at hl 2 rfl) ?_
                                refine lv_iload hx hb dX5_plan_151 (lv_at hl 0 rfl) ?_
                                refine lv_icmp_lt (tgt := 189) hx hb dX5_plan_153 (by decide) (fun c_72 => ?_) (fun c_72 => ?_)
                                · have c_72 : (min 200 (u + (cm (q)))) < 7 := (nI_ltI (a := min 200 (u + (cm (q)))) (b := 7) (by omega) (by omega)).mp c_72
                                  refine lv_aload_n hx hb dX5_plan_189 rfl (lv_at hl 4 rfl) ?_
                                  refine va_get (D := (dC, dI)) (ci := 5) (v := .ref (h 16)) (C := RX5) (T := TX5) (N := 33) hx hb hts hin_X5 hown hK hP 0 rfl rfl 25 (by decide) hw7 (fun _ h9 => h9) rfl dX5_plan_190 ?_
                                  refine lv_iload_n hx hb dX5_plan_193 rfl (lv_at hl 6 rfl) ?_
                                  refine lv_iload_n hx hb dX5_plan_194 rfl (lv_at hl 7 rfl) ?_
                                  refine lv_iload hx hb dX5_plan_195 (lv_at hl 3 rfl) ?_
                                  refine lv_iconst (v := 1) hx hb dX5_plan_197 (by decide) ?_
                                  refine lv_icmp_ne (tgt := 205) hx hb dX5_plan_198 (by decide) (fun c_73 => ?_) (fun c_73 => ?_)
                                  · refine lv_iconst (v := 0) hx hb dX5_plan_205 (by decide) ?_
                                    refine cw_Si (As := [.int (nI q), .int (nI u), .int 0]) (rest := [.ref (h 16)]) (c_X5_state l dC dI cI cZ cJ (wM cI cZ cJ h F4 G (va_up V 0 0)) q u 0 (by omega)) fx (va_cwS 3 hts gX5_plan_X5_state rfl rfl rfl (by decide +kernel) ⟨Nat.le_of_ble_eq_true rfl, Nat.le_of_ble_eq_true rfl⟩) hK hP hD hS hA rfl hl.1 rfl (Nat.le_of_ble_eq_true rfl) dX5_plan_206 ⟨Nat.le_of_ble_eq_true rfl, Nat.le_of_ble_eq_true rfl⟩ (fun r_74 u_75 H locs hw_76 hP hD hS => ?_)
                                    have hP : va_P (dC, dI) vwCl (wM cI cZ cJ h F4 G (va_up V 0 0)) H := hP
                                    have hD : va_D A (wM cI cZ cJ h F4 G (va_up V 0 0)) := hD
                                    obtain rfl : r_74 = nI ((201 * q + u) * 2 + 0) := hw_76
                                    refine lv_iload hx hb dX5_plan_209 (lv_at hl 1 rfl) ?_
                                    refine va_iast hx hb hK hP hD hS 16 0 rfl rfl (vp_in_nI (n := (201 * q + u) * 2 + 0) (N := 10050) (by omega) (by decide)) dX5_plan_211 (fun H locs hP hD hS => ?_)
                                    obtain ⟨F_77, eF_77⟩ : ∃ z : Nat → Nat → Int32, z = va_up F4 16 (upd (F4 16) (nI ((201 * q + u) * 2 + 0)).toNatClampNeg x_67) := ⟨_, rfl⟩
                                    have hP : va_P (dC, dI) vwCl (wM cI cZ cJ h F_77 G (va_up V 0 0)) H := by rw [eF_77]; exact hP
                                    have hD : va_D A (wM cI cZ cJ h F_77 G (va_up V 0 0)) := by rw [eF_77]; exact hD
                                    have hN_78 : ∀ i, i < 24 → F_77 9 i = nI (Pr i) := by rw [eF_77]; exact hN_55
                                    have hb_79 : x_67 = rowf Pr cm (24 - q) (2 * u + 0) := by
                                      rw [rowf_at _ _ (by omega) (by omega)]
                                      have q1 : x_67 = rowf Pr cm (23 - q) (2 * (min 200 (u + cm (q)))) := (ex_67).trans ((congrArg (F4 16) (show _ = 402 * (q + 1) + 2 * (min 200 (u + cm (q))) by omega)).trans ((hW4 (q + 1) (by omega) (by omega) _ (by omega)).trans (by rw [show 24 - (q + 1) = 23 - q by omega])))
                                      rw [q1]; exact wval_low _ _ _ _ (by omega)
                                    have hb_80 : ∀ i, i < 2 * u + 0 + 1 → F_77 16 (402 * q + i) = rowf Pr cm (24 - q) i := fun i hi => by
                                      rw [eF_77]
                                      show upd (F4 16) (nI ((201 * q + u) * 2 + 0)).toNatClampNeg _ (402 * q + i) = _
                                      rw [nI_clamp (by omega)]
                                      by_cases e : i = 2 * u + 0
                                      · rw [show 402 * q + i = (201 * q + u) * 2 + 0 by omega, e, ← hb_79]; exact pk_us
                                      · rw [pk_un (by omega)]; exact hlo4 i (by omega)
                                    have hb_81 : ∀ t, q + 1 ≤ t → t ≤ 24 → ∀ i, i < 402 → F_77 16 (402 * t + i) = rowf Pr cm (24 - t) i := fun t h1 h2 i hi => by
                                      rw [eF_77]
                                      show upd (F4 16) (nI ((201 * q + u) * 2 + 0)).toNatClampNeg _ (402 * t + i) = _
                                      rw [nI_clamp (by omega), pk_un (by omega)]; exact hW4 t h1 h2 i hi
                                    have hb_82 : ∀ i, nw ≤ i → i < 24 → F_77 18 i = nI (cm i) ∧ cm i ≤ 40 := by rw [eF_77]; exact hcm4
                                    refine lv_iinc (v := 1) (lv' := [(4, .int 1), (7, .int 7), (6, .int x_67), (5, .int (nI (min 200 (u + (cm (q)))))), (0, .ref (h 0)), (1, .ref (h 18)), (2, .int (nI q)), (3, .int (nI u))]) hx hb dX5_plan_212 hl (k := 3) rfl (by decide) (by decide) rfl (fun ls hl => ?_)
                                    refine lv_goto (tgt := 102) hx hb dX5_plan_215 (by decide) ?_
                                    refine lv_iload hx hb dX5_plan_102 (lv_at hl 0 rfl) ?_
                                    refine lv_iconst (v := 2) hx hb dX5_plan_104 (by decide) ?_
                                    refine lv_icmp_ge (tgt := 218) hx hb dX5_plan_105 (by decide) (fun c_83 => ?_) (fun c_83 => ?_)
                                    · exact absurd c_83 (by decide)
                                    · refine lv_iload_n hx hb dX5_plan_108 rfl (lv_at hl 7 rfl) ?_
                                      refine lv_aload_n hx hb dX5_plan_109 rfl (lv_at hl 5 rfl) ?_
                                      refine lv_iload_n hx hb dX5_plan_110 rfl (lv_at hl 6 rfl) ?_
                                      refine va_iald hx hb hK hP 18 0 rfl rfl (vp_in_nI (n := q) (N := 24) (by omega) (by decide)) dX5_plan_111 ?_
                                      have hb_84 := (hb_82 (q) (by omega) (by omega)).2
                                      refine lv_topi (fun x_85 ex_85 => ?_)
                                      obtain rfl : x_85 = nI (cm (q)) := ex_85.trans ((congrArg (F_77 18) (nI_clamp (n := q) (by omega))).trans (hb_82 (q) (by omega) (by omega)).1)
                                      refine cw_Si (As := [.int (nI u), .int (nI (cm (q)))]) (rest := []) (c_X5_filled l dC dI cI cZ cJ (wM cI cZ cJ h F_77 G (va_up V 0 0)) u (cm (q)) (by omega)) fx (va_cwS 2 hts gX5_plan_X5_filled rfl rfl rfl (by decide +kernel) ⟨Nat.le_of_ble_eq_true rfl, Nat.le_of_ble_eq_true rfl⟩) hK hP hD hS hA rfl hl.1 rfl (Nat.le_of_ble_eq_true rfl) dX5_plan_112 ⟨Nat.le_of_ble_eq_true rfl, Nat.le_of_ble_eq_true rfl⟩ (fun r_86 u_87 H locs hw_88 hP hD hS => ?_)
                                      have hP : va_P (dC, dI) vwCl (wM cI cZ cJ h F_77 G (va_up V 0 0)) H := hP
                                      have hD : va_D A (wM cI cZ cJ h F_77 G (va_up V 0 0)) := hD
                                      obtain rfl : r_86 = nI (min 200 (u + (cm (q)))) := hw_88
                                      refine lv_istore (lv' := [(5, .int (nI (min 200 (u + (cm (q)))))), (4, .int 1), (7, .int 7), (6, .int x_67), (0, .ref (h 0)), (1, .ref (h 18)), (2, .int (nI q)), (3, .int (nI u))]) hx hb dX5_plan_115 hl (by decide) rfl (fun ls hl => ?_)
                                      refine lv_aload_n hx hb dX5_plan_117 rfl (lv_at hl 4 rfl) ?_
                                      refine va_get (D := (dC, dI)) (ci := 5) (v := .ref (h 16)) (C := RX5) (T := TX5) (N := 33) hx hb hts hin_X5 hown hK hP 0 rfl rfl 25 (by decide) hw7 (fun _ h9 => h9) rfl dX5_plan_118 ?_
                                      refine lv_iload_n hx hb dX5_plan_121 rfl (lv_at hl 6 rfl) ?_
                                      refine lv_iconst (v := 1) hx hb dX5_plan_122 (by decide) ?_
                                      refine lv_iadd hx hb dX5_plan_123 ?_
                                      refine lv_topi (fun x_89 ex_89 => ?_)
                                      obtain rfl : x_89 = nI (q + 1) := ex_89.trans (nI_add q 1)
                                      refine lv_iload hx hb dX5_plan_124 (lv_at hl 0 rfl) ?_
                                      refine lv_iconst (v := 0) hx hb dX5_plan_126 (by decide) ?_
                                      refine cw_Si (As := [.int (nI (q + 1)), .int (nI (min 200 (u + (cm (q))))), .int 0]) (rest := [.ref (h 16)]) (c_X5_state l dC dI cI cZ cJ (wM cI cZ cJ h F_77 G (va_up V 0 0)) (q + 1) (min 200 (u + (cm (q)))) 0 (by omega)) fx (va_cwS 3 hts gX5_plan_X5_state rfl rfl rfl (by decide +kernel) ⟨Nat.le_of_ble_eq_true rfl, Nat.le_of_ble_eq_true rfl⟩) hK hP hD hS hA rfl hl.1 rfl (Nat.le_of_ble_eq_true rfl) dX5_plan_127 ⟨Nat.le_of_ble_eq_true rfl, Nat.le_of_ble_eq_true rfl⟩ (fun r_90 u_91 H locs hw_92 hP hD hS => ?_)
                                      have hP : va_P (dC, dI) vwCl (wM cI cZ cJ h F_77 G (va_up V 0 0)) H := hP
                                      have hD : va_D A (wM cI cZ cJ h F_77 G (va_up V 0 0)) := hD
                                      obtain rfl : r_90 = nI ((201 * (q + 1) + (min 200 (u + (cm (q))))) * 2 + 0) := hw_92
                                      refine va_iald hx hb hK hP 16 0 rfl rfl (vp_in_nI (n := (201 * (q + 1) + (min 200 (u + (cm (q))))) * 2 + 0) (N := 10050) (by omega) (by decide)) dX5_plan_130 ?_
                                      refine lv_topi (fun x_93 ex_93 => ?_)
                                      rw [nI_clamp (n := (201 * (q + 1) + (min 200 (u + (cm (q))))) * 2 + 0) (by omega)] at ex_93
                                      refine lv_istore (lv' := [(6, .int x_93), (5, .int (nI (min 200 (u + (cm (q)))))), (4, .int 1), (7, .int 7), (0, .ref (h 0)), (1, .ref (h 18)), (2, .int (nI q)), (3, .int (nI u))]) hx hb dX5_plan_131 hl (by decide) rfl (fun ls hl => ?_)
                                      refine lv_iload hx hb dX5_plan_133 (lv_at hl 2 rfl) ?_
                                      refine lv_iconst (v := 1) hx hb dX5_plan_135 (by decide) ?_
                                      refine lv_icmp_ne (tgt := 143) hx hb dX5_plan_136 (by decide) (fun c_94 => ?_) (fun c_94 => ?_)
                                      · exact absurd c_94 (by decide)
                                      · refine lv_iconst (v := 1) hx hb dX5_plan_139 (by decide) ?_
                                        refine lv_goto (tgt := 144) hx hb dX5_plan_140 (by decide) ?_
                                        refine cw_Si (As := [.int 1]) (rest := []) (c_X5_takes l dC dI cI cZ cJ (wM cI cZ cJ h F_77 G (va_up V 0 0)) 1 (by omega)) fx (va_cwS 1 hts gX5_plan_X5_takes rfl rfl rfl (by decide +kernel) ⟨Nat.le_of_ble_eq_true rfl, Nat.le_of_ble_eq_true rfl⟩) hK hP hD hS hA rfl hl.1 rfl (Nat.le_of_ble_eq_true rfl) dX5_plan_144 ⟨Nat.le_of_ble_eq_true rfl, Nat.le_of_ble_eq_true rfl⟩ (fun r_95 u_96 H locs hw_97 hP hD hS => ?_)
                                        have hP : va_P (dC, dI) vwCl (wM cI cZ cJ h F_77 G (va_up V 0 0)) H := hP
                                        have hD : va_D A (wM cI cZ cJ h F_77 G (va_up V 0 0)) := hD
                                        obtain rfl : r_95 = 5 := hw_97
                                        refine lv_istore (lv' := [(7, .int 5), (6, .int x_93), (5, .int (nI (min 200 (u + (cm (q)))))), (4, .int 1), (0, .ref (h 0)), (1, .ref (h 18)), (2, .int (nI q)), (3, .int (nI u))]) hx hb dX5_plan_147 hl (by decide) rfl (fun ls hl => ?_)
                                        refine lv_iload hx hb dX5_plan_149 (lv_at hl 2 rfl) ?_
                                        refine lv_iload hx hb dX5_plan_151 (lv_at hl 0 rfl) ?_
                                        refine lv_icmp_lt (tgt := 189) hx hb dX5_plan_153 (by decide) (fun c_98 => ?_) (fun c_98 => ?_)
                                        · have c_98 : (min 200 (u + (cm (q)))) < 5 := (nI_ltI (a := min 200 (u + (cm (q)))) (b := 5) (by omega) (by omega)).mp c_98
                                          refine lv_aload_n hx hb dX5_plan_189 rfl (lv_at hl 4 rfl) ?_
                                          refine va_get (D := (dC, dI)) (ci := 5) (v := .ref (h 16)) (C := RX5) (T := TX5) (N := 33) hx hb hts hin_X5 hown hK hP 0 rfl rfl 25 (by decide) hw7 (fun _ h9 => h9) rfl dX5_plan_190 ?_
                                          refine lv_iload_n hx hb dX5_plan_193 rfl (lv_at hl 6 rfl) ?_
                                          refine lv_iload_n hx hb dX5_plan_194 rfl (lv_at hl 7 rfl) ?_
                                          refine lv_iload hx hb dX5_plan_195 (lv_at hl 3 rfl) ?_
                                          refine lv_iconst (v := 1) hx hb dX5_plan_197 (by decide) ?_
                                          refine lv_icmp_ne (tgt := 205) hx hb dX5_plan_198 (by decide) (fun c_99 => ?_) (fun c_99 => ?_)
                                          · exact absurd c_99 (by decide)
                                          · refine lv_iconst (v := 1) hx hb dX5_plan_201 (by decide) ?_
                                            refine lv_goto (tgt := 206) hx hb dX5_plan_202 (by decide) ?_
                                            refine cw_Si (As := [.int (nI q), .int (nI u), .int 1]) (rest := [.ref (h 16)]) (c_X5_state l dC dI cI cZ cJ (wM cI cZ cJ h F_77 G (va_up V 0 0)) q u 1 (by omega)) fx (va_cwS 3 hts gX5_plan_X5_state rfl rfl rfl (by decide +kernel) ⟨Nat.le_of_ble_eq_true rfl, Nat.le_of_ble_eq_true rfl⟩) hK hP hD hS hA rfl hl.1 rfl (Nat.le_of_ble_eq_true rfl) dX5_plan_206 ⟨Nat.le_of_ble_eq_true rfl, Nat.le_of_ble_eq_true rfl⟩ (fun r_100 u_101 H locs hw_102 hP hD hS => ?_)
                                            have hP : va_P (dC, dI) vwCl (wM cI cZ cJ h F_77 G (va_up V 0 0)) H := hP
                                            have hD : va_D A (wM cI cZ cJ h F_77 G (va_up V 0 0)) := hD
                                            obtain rfl : r_100 = nI ((201 * q + u) * 2 + 1) := hw_102
                                            refine lv_iload hx hb dX5_plan_209 (lv_at hl 1 rfl) ?_
                                            refine va_iast hx hb hK hP hD hS 16 0 rfl rfl (vp_in_nI (n := (201 * q + u) * 2 + 1) (N := 10050) (by omega) (by decide)) dX5_plan_211 (fun H locs hP hD hS => ?_)
                                            obtain ⟨F_103, eF_103⟩ : ∃ z : Nat → Nat → Int32, z = va_up F_77 16 (upd (F_77 16) (nI ((201 * q + u) * 2 + 1)).toNatClampNeg x_93) := ⟨_, rfl⟩
                                            have hP : va_P (dC, dI) vwCl (wM cI cZ cJ h F_103 G (va_up V 0 0)) H := by rw [eF_103]; exact hP
                                            have hD : va_D A (wM cI cZ cJ h F_103 G (va_up V 0 0)) := by rw [eF_103]; exact hD
                                            have hN_104 : ∀ i, i < 24 → F_103 9 i = nI (Pr i) := by rw [eF_103]; exact hN_78
                                            have hb_105 : x_93 = rowf Pr cm (24 - q) (2 * u + 1) := by
                                              rw [rowf_at _ _ (by omega) (by omega)]
                                              have q1 : x_93 = rowf Pr cm (23 - q) (2 * (min 200 (u + cm (q)))) := (ex_93).trans ((congrArg (F_77 16) (show _ = 402 * (q + 1) + 2 * (min 200 (u + cm (q))) by omega)).trans ((hb_81 (q + 1) (by omega) (by omega) _ (by omega)).trans (by rw [show 24 - (q + 1) = 23 - q by omega])))
                                              rw [q1]; exact wval_low _ _ _ _ (by omega)
                                            have hb_106 : ∀ i, i < 2 * u + 1 + 1 → F_103 16 (402 * q + i) = rowf Pr cm (24 - q) i := fun i hi => by
                                              rw [eF_103]
                                              show upd (F_77 16) (nI ((201 * q + u) * 2 + 1)).toNatClampNeg _ (402 * q + i) = _
                                              rw [nI_clamp (by omega)]
                                              by_cases e : i = 2 * u + 1
                                              · rw [show 402 * q + i = (201 * q + u) * 2 + 1 by omega, e, ← hb_105]; exact pk_us
                                              · rw [pk_un (by omega)]; exact hb_80 i (by omega)
                                            have hb_107 : ∀ t, q + 1 ≤ t → t ≤ 24 → ∀ i, i < 402 → F_103 16 (402 * t + i) = rowf Pr cm (24 - t) i := fun t h1 h2 i hi => by
                                              rw [eF_103]
                                              show upd (F_77 16) (nI ((201 * q + u) * 2 + 1)).toNatClampNeg _ (402 * t + i) = _
                                              rw [nI_clamp (by omega), pk_un (by omega)]; exact hb_81 t h1 h2 i hi
                                            have hb_108 : ∀ i, nw ≤ i → i < 24 → F_103 18 i = nI (cm i) ∧ cm i ≤ 40 := by rw [eF_103]; exact hb_82
                                            refine lv_iinc (v := 2) (lv' := [(4, .int 2), (7, .int 5), (6, .int x_93), (5, .int (nI (min 200 (u + (cm (q)))))), (0, .ref (h 0)), (1, .ref (h 18)), (2, .int (nI q)), (3, .int (nI u))]) hx hb dX5_plan_212 hl (k := 3) rfl (by decide) (by decide) rfl (fun ls hl => ?_)
                                            refine lv_goto (tgt := 102) hx hb dX5_plan_215 (by decide) ?_
                                            refine lv_iload hx hb dX5_plan_102 (lv_at hl 0 rfl) ?_
                                            refine lv_iconst (v := 2) hx hb dX5_plan_104 (by decide) ?_
                                            refine lv_icmp_ge (tgt := 218) hx hb dX5_plan_105 (by decide) (fun c_109 => ?_) (fun c_109 => ?_)
                                            · refine lv_iinc (v := nI (u + 1)) (lv' := [(3, .int (nI (u + 1))), (4, .int 2), (7, .int 5), (6, .int x_93), (5, .int (nI (min 200 (u + (cm (q)))))), (0, .ref (h 0)), (1, .ref (h 18)), (2, .int (nI q))]) hx hb dX5_plan_218 hl (k := 7) rfl (nI_1 _) (by decide) rfl (fun ls hl => ?_)
                                              refine lv_goto (tgt := 92) hx hb dX5_plan_221 (by decide) ?_
                                              exact ih92 (u + 1) F_103 (by omega) hb_108 hb_106 hb_107 (fun j hj => ((va_ne eF_103 (fun h => hj (by rw [h]; decide))).trans ((va_ne eF_77 (fun h => hj (by rw [h]; decide))).trans (hfr4 j hj)))) (by omega) H locs ls hP hD hS (lv_sub hl [5, 6, 7, 0] rfl)
                                            · exact absurd c_109 (by decide)
                                        · have c_98 : ¬ (min 200 (u + (cm (q)))) < 5 := fun h => c_98 ((nI_ltI (a := min 200 (u + (cm (q)))) (b := 5) (by omega) (by omega)).mpr h)
                                          refine lv_iload hx hb dX5_plan_156 (lv_at hl 1 rfl) ?_
                                          refine lv_iconst (v := 5) hx hb dX5_plan_158 (by decide) ?_
                                          refine lv_aload_n hx hb dX5_plan_159 rfl (lv_at hl 4 rfl) ?_
                                          refine va_get (D := (dC, dI)) (ci := 5) (v := .ref (h 9)) (C := RX5) (T := TX5) (N := 33) hx hb hts hin_X5 hown hK hP 0 rfl rfl 16 (by decide) hw9 (fun _ h9 => h9) rfl dX5_plan_160 ?_
                                          refine lv_iload_n hx hb dX5_plan_163 rfl (lv_at hl 6 rfl) ?_
                                          refine va_iald hx hb hK hP 9 0 rfl rfl (vp_in_nI (n := q) (N := 24) (by omega) (by decide)) dX5_plan_164 ?_
                                          have hb_110 := bPr q (by omega)
                                          refine lv_topi (fun x_111 ex_111 => ?_)
                                          obtain rfl : x_111 = nI (Pr q) := ex_111.trans ((congrArg (F_77 9) (nI_clamp (n := q) (by omega))).trans (hN_78 q (by omega)))
                                          refine lv_imul hx hb dX5_plan_165 ?_
                                          refine lv_topi (fun x_112 ex_112 => ?_)
                                          obtain rfl : x_112 = nI (5 * (Pr q)) := ex_112.trans (pk_mul 5 (Pr q))
                                          refine lv_aload_n hx hb dX5_plan_166 rfl (lv_at hl 4 rfl) ?_
                                          refine va_get (D := (dC, dI)) (ci := 5) (v := .ref (h 16)) (C := RX5) (T := TX5) (N := 33) hx hb hts hin_X5 hown hK hP 0 rfl rfl 25 (by decide) hw7 (fun _ h9 => h9) rfl dX5_plan_167 ?_
                                          refine lv_iload_n hx hb dX5_plan_170 rfl (lv_at hl 6 rfl) ?_
                                          refine lv_iconst (v := 1) hx hb dX5_plan_171 (by decide) ?_
                                          refine lv_iadd hx hb dX5_plan_172 ?_
                                          refine lv_topi (fun x_113 ex_113 => ?_)
                                          obtain rfl : x_113 = nI (q + 1) := ex_113.trans (nI_add q 1)
                                          refine lv_iload hx hb dX5_plan_173 (lv_at hl 2 rfl) ?_
                                          refine lv_iload hx hb dX5_plan_175 (lv_at hl 0 rfl) ?_
                                          refine lv_isub hx hb dX5_plan_177 ?_
                                          refine lv_topi (fun x_114 ex_114 => ?_)
                                          obtain rfl : x_114 = nI ((min 200 (u + (cm (q)))) - 5) := ex_114.trans (pk_sub (a := min 200 (u + (cm (q)))) (b := 5) (by omega))
                                          refine lv_iconst (v := 1) hx hb dX5_plan_178 (by decide) ?_
                                          refine cw_Si (As := [.int (nI (q + 1)), .int (nI ((min 200 (u + (cm (q)))) - 5)), .int 1]) (rest := [.ref (h 16), .int (nI (5 * (Pr q))), .int x_93]) (c_X5_state l dC dI cI cZ cJ (wM cI cZ cJ h F_77 G (va_up V 0 0)) (q + 1) ((min 200 (u + (cm (q)))) - 5) 1 (by omega)) fx (va_cwS 3 hts gX5_plan_X5_state rfl rfl rfl (by decide +kernel) ⟨Nat.le_of_ble_eq_true rfl, Nat.le_of_ble_eq_true rfl⟩) hK hP hD hS hA rfl hl.1 rfl (Nat.le_of_ble_eq_true rfl) dX5_plan_179 ⟨Nat.le_of_ble_eq_true rfl, Nat.le_of_ble_eq_true rfl⟩ (fun r_115 u_116 H locs hw_117 hP hD hS => ?_)
                                          have hP : va_P (dC, dI) vwCl (wM cI cZ cJ h F_77 G (va_up V 0 0)) H := hP
                                          have hD : va_D A (wM cI cZ cJ h F_77 G (va_up V 0 0)) := hD
                                          obtain rfl : r_115 = nI ((201 * (q + 1) + ((min 200 (u + (cm (q)))) - 5)) * 2 + 1) := hw_117
                                          refine va_iald hx hb hK hP 16 0 rfl rfl (vp_in_nI (n := (201 * (q + 1) + ((min 200 (u + (cm (q)))) - 5)) * 2 + 1) (N := 10050) (by omega) (by decide)) dX5_plan_182 ?_
                                          refine lv_topi (fun x_118 ex_118 => ?_)
                                          rw [nI_clamp (n := (201 * (q + 1) + ((min 200 (u + (cm (q)))) - 5)) * 2 + 1) (by omega)] at ex_118
                                          refine lv_iadd hx hb dX5_plan_183 ?_
                                          refine va_mmax hx hb (hml.trans hl.1.symm) hown hw10 hw11 hw12 hw13 (Nat.le_of_ble_eq_true rfl) (Nat.le_of_ble_eq_true rfl) (Nat.le_of_ble_eq_true rfl) (Nat.le_of_ble_eq_true rfl) dX5_plan_184 ?_
                                          refine lv_topi (fun x_119 ex_119 => ?_)
                                          refine lv_istore (lv' := [(6, .int x_119), (7, .int 5), (5, .int (nI (min 200 (u + (cm (q)))))), (4, .int 1), (0, .ref (h 0)), (1, .ref (h 18)), (2, .int (nI q)), (3, .int (nI u))]) hx hb dX5_plan_187 hl (by decide) rfl (fun ls hl => ?_)
                                          refine lv_aload_n hx hb dX5_plan_189 rfl (lv_at hl 4 rfl) ?_
                                          refine va_get (D := (dC, dI)) (ci := 5) (v := .ref (h 16)) (C := RX5) (T := TX5) (N := 33) hx hb hts hin_X5 hown hK hP 0 rfl rfl 25 (by decide) hw7 (fun _ h9 => h9) rfl dX5_plan_190 ?_
                                          refine lv_iload_n hx hb dX5_plan_193 rfl (lv_at hl 6 rfl) ?_
                                          refine lv_iload_n hx hb dX5_plan_194 rfl (lv_at hl 7 rfl) ?_
                                          refine lv_iload hx hb dX5_plan_195 (lv_at hl 3 rfl) ?_
                                          refine lv_iconst (v := 1) hx hb dX5_plan_197 (by decide) ?_
                                          refine lv_icmp_ne (tgt := 205) hx hb dX5_plan_198 (by decide) (fun c_120 => ?_) (fun c_120 => ?_)
                                          · exact absurd c_120 (by decide)
                                          · refine lv_iconst (v := 1) hx hb dX5_plan_201 (by decide) ?_
                                            refine lv_goto (tgt := 206) hx hb dX5_plan_202 (by decide) ?_
                                            refine cw_Si (As := [.int (nI q), .int (nI u), .int 1]) (rest := [.ref (h 16)]) (c_X5_state l dC dI cI cZ cJ (wM cI cZ cJ h F_77 G (va_up V 0 0)) q u 1 (by omega)) fx (va_cwS 3 hts gX5_plan_X5_state rfl rfl rfl (by decide +kernel) ⟨Nat.le_of_ble_eq_true rfl, Nat.le_of_ble_eq_true rfl⟩) hK hP hD hS hA rfl hl.1 rfl (Nat.le_of_ble_eq_true rfl) dX5_plan_206 ⟨Nat.le_of_ble_eq_true rfl, Nat.le_of_ble_eq_true rfl⟩ (fun r_121 u_122 H locs hw_123 hP hD hS => ?_)
                                            have hP : va_P (dC, dI) vwCl (wM cI cZ cJ h F_77 G (va_up V 0 0)) H := hP
                                            have hD : va_D A (wM cI cZ cJ h F_77 G (va_up V 0 0)) := hD
                                            obtain rfl : r_121 = nI ((201 * q + u) * 2 + 1) := hw_123
                                            refine lv_iload hx hb dX5_plan_209 (lv_at hl 0 rfl) ?_
                                            refine va_iast hx hb hK hP hD hS 16 0 rfl rfl (vp_in_nI (n := (201 * q + u) * 2 + 1) (N := 10050) (by omega) (by decide)) dX5_plan_211 (fun H locs hP hD hS => ?_)
                                            obtain ⟨F_124, eF_124⟩ : ∃ z : Nat → Nat → Int32, z = va_up F_77 16 (upd (F_77 16) (nI ((201 * q + u) * 2 + 1)).toNatClampNeg x_119) := ⟨_, rfl⟩
                                            have hP : va_P (dC, dI) vwCl (wM cI cZ cJ h F_124 G (va_up V 0 0)) H := by rw [eF_124]; exact hP
                                            have hD : va_D A (wM cI cZ cJ h F_124 G (va_up V 0 0)) := by rw [eF_124]; exact hD
                                            have hN_125 : ∀ i, i < 24 → F_124 9 i = nI (Pr i) := by rw [eF_124]; exact hN_78
                                            have hb_126 : x_119 = rowf Pr cm (24 - q) (2 * u + 1) := by
                                              rw [rowf_at _ _ (by omega) (by omega)]
                                              have q1 : x_93 = rowf Pr cm (23 - q) (2 * (min 200 (u + cm (q)))) := (ex_93).trans ((congrArg (F_77 16) (show _ = 402 * (q + 1) + 2 * (min 200 (u + cm (q))) by omega)).trans ((hb_81 (q + 1) (by omega) (by omega) _ (by omega)).trans (by rw [show 24 - (q + 1) = 23 - q by omega])))
                                              have q2 : x_118 = rowf Pr cm (23 - q) (2 * ((min 200 (u + cm (q))) - (7 - 2 * 1)) + 1) := (ex_118).trans ((congrArg (F_77 16) (show _ = 402 * (q + 1) + (2 * ((min 200 (u + cm (q))) - (7 - 2 * 1)) + 1) by omega)).trans ((hb_81 (q + 1) (by omega) (by omega) _ (by omega)).trans (by rw [show 24 - (q + 1) = 23 - q by omega])))
                                              rw [ex_119, q1, q2]; exact wval_max _ _ _ _ (by omega)
                                            have hb_127 : ∀ i, i < 2 * u + 1 + 1 → F_124 16 (402 * q + i) = rowf Pr cm (24 - q) i := fun i hi => by
                                              rw [eF_124]
                                              show upd (F_77 16) (nI ((201 * q + u) * 2 + 1)).toNatClampNeg _ (402 * q + i) = _
                                              rw [nI_clamp (by omega)]
                                              by_cases e : i = 2 * u + 1
                                              · rw [show 402 * q + i = (201 * q + u) * 2 + 1 by omega, e, ← hb_126]; exact pk_us
                                              · rw [pk_un (by omega)]; exact hb_80 i (by omega)
                                            have hb_128 : ∀ t, q + 1 ≤ t → t ≤ 24 → ∀ i, i < 402 → F_124 16 (402 * t + i) = rowf Pr cm (24 - t) i := fun t h1 h2 i hi => by
                                              rw [eF_124]
                                              show upd (F_77 16) (nI ((201 * q + u) * 2 + 1)).toNatClampNeg _ (402 * t + i) = _
                                              rw [nI_clamp (by omega), pk_un (by omega)]; exact hb_81 t h1 h2 i hi
                                            have hb_129 : ∀ i, nw ≤ i → i < 24 → F_124 18 i = nI (cm i) ∧ cm i ≤ 40 := by rw [eF_124]; exact hb_82
                                            refine lv_iinc (v := 2) (lv' := [(4, .int 2), (6, .int x_119), (7, .int 5), (5, .int (nI (min 200 (u + (cm (q)))))), (0, .ref (h 0)), (1, .ref (h 18)), (2, .int (nI q)), (3, .int (nI u))]) hx hb dX5_plan_212 hl (k := 3) rfl (by decide) (by decide) rfl (fun ls hl => ?_)
                                            refine lv_goto (tgt := 102) hx hb dX5_plan_215 (by decide) ?_
                                            refine lv_iload hx hb dX5_plan_102 (lv_at hl 0 rfl) ?_
                                            refine lv_iconst (v := 2) hx hb dX5_plan_104 (by decide) ?_
                                            refine lv_icmp_ge (tgt := 218) hx hb dX5_plan_105 (by decide) (fun c_130 => ?_) (fun c_130 => ?_)
                                            · refine lv_iinc (v := nI (u + 1)) (lv' := [(3, .int (nI (u + 1))), (4, .int 2), (6, .int x_119), (7, .int 5), (5, .int (nI (min 200 (u + (cm (q)))))), (0, .ref (h 0)), (1, .ref (h 18)), (2, .int (nI q))]) hx hb dX5_plan_218 hl (k := 7) rfl (nI_1 _) (by decide) rfl (fun ls hl => ?_)
                                              refine lv_goto (tgt := 92) hx hb dX5_plan_221 (by decide) ?_
                                              exact ih92 (u + 1) F_124 (by omega) hb_129 hb_127 hb_128 (fun j hj => ((va_ne eF_124 (fun h => hj (by rw [h]; decide))).trans ((va_ne eF_77 (fun h => hj (by rw [h]; decide))).trans (hfr4 j hj)))) (by omega) H locs ls hP hD hS (lv_sub hl [5, 6, 7, 0] rfl)
                                            · exact absurd c_130 (by decide)
                                  · exact absurd c_73 (by decide)
                                · have c_72 : ¬ (min 200 (u + (cm (q)))) < 7 := fun h => c_72 ((nI_ltI (a := min 200 (u + (cm (q)))) (b := 7) (by omega) (by omega)).mpr h)
                                  refine lv_iload hx hb dX5_plan_156 (lv_at hl 1 rfl) ?_
                                  refine lv_iconst (v := 5) hx hb dX5_plan_158 (by decide) ?_
                                  refine lv_aload_n hx hb dX5_plan_159 rfl (lv_at hl 4 rfl) ?_
                                  refine va_get (D := (dC, dI)) (ci := 5) (v := .ref (h 9)) (C := RX5) (T := TX5) (N := 33) hx hb hts hin_X5 hown hK hP 0 rfl rfl 16 (by decide) hw9 (fun _ h9 => h9) rfl dX5_plan_160 ?_
                                  refine lv_iload_n hx hb dX5_plan_163 rfl (lv_at hl 6 rfl) ?_
                                  refine va_iald hx hb hK hP 9 0 rfl rfl (vp_in_nI (n := q) (N := 24) (by omega) (by decide)) dX5_plan_164 ?_
                                  have hb_131 := bPr q (by omega)
                                  refine lv_topi (fun x_132 ex_132 => ?_)
                                  obtain rfl : x_132 = nI (Pr q) := ex_132.trans ((congrArg (F4 9) (nI_clamp (n := q) (by omega))).trans (hN_55 q (by omega)))
                                  refine lv_imul hx hb dX5_plan_165 ?_
                                  refine lv_topi (fun x_133 ex_133 => ?_)
                                  obtain rfl : x_133 = nI (5 * (Pr q)) := ex_133.trans (pk_mul 5 (Pr q))
                                  refine lv_aload_n hx hb dX5_plan_166 rfl (lv_at hl 4 rfl) ?_
                                  refine va_get (D := (dC, dI)) (ci := 5) (v := .ref (h 16)) (C := RX5) (T := TX5) (N := 33) hx hb hts hin_X5 hown hK hP 0 rfl rfl 25 (by decide) hw7 (fun _ h9 => h9) rfl dX5_plan_167 ?_
                                  refine lv_iload_n hx hb dX5_plan_170 rfl (lv_at hl 6 rfl) ?_
                                  refine lv_iconst (v := 1) hx hb dX5_plan_171 (by decide) ?_
                                  refine lv_iadd hx hb dX5_plan_172 ?_
                                  refine lv_topi (fun x_134 ex_134 => ?_)
                                  obtain rfl : x_134 = nI (q + 1) := ex_134.trans (nI_add q 1)
                                  refine lv_iload hx hb dX5_plan_173 (lv_at hl 2 rfl) ?_
                                  refine lv_iload hx hb dX5_plan_175 (lv_at hl 0 rfl) ?_
                                  refine lv_isub hx hb dX5_plan_177 ?_
                                  refine lv_topi (fun x_135 ex_135 => ?_)
                                  obtain rfl : x_135 = nI ((min 200 (u + (cm (q)))) - 7) := ex_135.trans (pk_sub (a := min 200 (u + (cm (q)))) (b := 7) (by omega))
                                  refine lv_iconst (v := 1) hx hb dX5_plan_178 (by decide) ?_
                                  refine cw_Si (As := [.int (nI (q + 1)), .int (nI ((min 200 (u + (cm (q)))) - 7)), .int 1]) (rest := [.ref (h 16), .int (nI (5 * (Pr q))), .int x_67]) (c_X5_state l dC dI cI cZ cJ (wM cI cZ cJ h F4 G (va_up V 0 0)) (q + 1) ((min 200 (u + (cm (q)))) - 7) 1 (by omega)) fx (va_cwS 3 hts gX5_plan_X5_state rfl rfl rfl (by decide +kernel) ⟨Nat.le_of_ble_eq_true rfl, Nat.le_of_ble_eq_true rfl⟩) hK hP hD hS hA rfl hl.1 rfl (Nat.le_of_ble_eq_true rfl) dX5_plan_179 ⟨Nat.le_of_ble_eq_true rfl, Nat.le_of_ble_eq_true rfl⟩ (fun r_136 u_137 H locs hw_138 hP hD hS => ?_)
                                  have hP : va_P (dC, dI) vwCl (wM cI cZ cJ h F4 G (va_up V 0 0)) H := hP
                                  have hD : va_D A (wM cI cZ cJ h F4 G (va_up V 0 0)) := hD
                                  obtain rfl : r_136 = nI ((201 * (q + 1) + ((min 200 (u + (cm (q)))) - 7)) * 2 + 1) := hw_138
                                  refine va_iald hx hb hK hP 16 0 rfl rfl (vp_in_nI (n := (201 * (q + 1) + ((min 200 (u + (cm (q)))) - 7)) * 2 + 1) (N := 10050) (by omega) (by decide)) dX5_plan_182 ?_
                                  refine lv_topi (fun x_139 ex_139 => ?_)
                                  rw [nI_clamp (n := (201 * (q + 1) + ((min 200 (u + (cm (q)))) - 7)) * 2 + 1) (by omega)] at ex_139
                                  refine lv_iadd hx hb dX5_plan_183 ?_
                                  refine va_mmax hx hb (hml.trans hl.1.symm) hown hw10 hw11 hw12 hw13 (Nat.le_of_ble_eq_true rfl) (Nat.le_of_ble_eq_true rfl) (Nat.le_of_ble_eq_true rfl) (Nat.le_of_ble_eq_true rfl) dX5_plan_184 ?_
                                  refine lv_topi (fun x_140 ex_140 => ?_)
                                  refine lv_istore (lv' := [(6, .int x_140), (7, .int 7), (5, .int (nI (min 200 (u + (cm (q)))))), (4, .int 0), (0, .ref (h 0)), (1, .ref (h 18)), (2, .int (nI q)), (3, .int (nI u))]) hx hb dX5_plan_187 hl (by decide) rfl (fun ls hl => ?_)
                                  refine lv_aload_n hx hb dX5_plan_189 rfl (lv_at hl 4 rfl) ?_
                                  refine va_get (D := (dC, dI)) (ci := 5) (v := .ref (h 16)) (C := RX5) (T := TX5) (N := 33) hx hb hts hin_X5 hown hK hP 0 rfl rfl 25 (by decide) hw7 (fun _ h9 => h9) rfl dX5_plan_190 ?_
                                  refine lv_iload_n hx hb dX5_plan_193 rfl (lv_at hl 6 rfl) ?_
                                  refine lv_iload_n hx hb dX5_plan_194 rfl (lv_at hl 7 rfl) ?_
                                  refine lv_iload hx hb dX5_plan_195 (lv_at hl 3 rfl) ?_
                                  refine lv_iconst (v := 1) hx hb dX5_plan_197 (by decide) ?_
                                  refine lv_icmp_ne (tgt := 205) hx hb dX5_plan_198 (by decide) (fun c_141 => ?_) (fun c_141 => ?_)
                                  · refine lv_iconst (v := 0) hx hb dX5_plan_205 (by decide) ?_
                                    refine cw_Si (As := [.int (nI q), .int (nI u), .int 0]) (rest := [.ref (h 16)]) (c_X5_state l dC dI cI cZ cJ (wM cI cZ cJ h F4 G (va_up V 0 0)) q u 0 (by omega)) fx (va_cwS 3 hts gX5_plan_X5_state rfl rfl rfl (by decide +kernel) ⟨Nat.le_of_ble_eq_true rfl, Nat.le_of_ble_eq_true rfl⟩) hK hP hD hS hA rfl hl.1 rfl (Nat.le_of_ble_eq_true rfl) dX5_plan_206 ⟨Nat.le_of_ble_eq_true rfl, Nat.le_of_ble_eq_true rfl⟩ (fun r_142 u_143 H locs hw_144 hP hD hS => ?_)
                                    have hP : va_P (dC, dI) vwCl (wM cI cZ cJ h F4 G (va_up V 0 0)) H := hP
                                    have hD : va_D A (wM cI cZ cJ h F4 G (va_up V 0 0)) := hD
                                    obtain rfl : r_142 = nI ((201 * q + u) * 2 + 0) := hw_144
                                    refine lv_iload hx hb dX5_plan_209 (lv_at hl 0 rfl) ?_
                                    refine va_iast hx hb hK hP hD hS 16 0 rfl rfl (vp_in_nI (n := (201 * q + u) * 2 + 0) (N := 10050) (by omega) (by decide)) dX5_plan_211 (fun H locs hP hD hS => ?_)
                                    obtain ⟨F_145, eF_145⟩ : ∃ z : Nat → Nat → Int32, z = va_up F4 16 (upd (F4 16) (nI ((201 * q + u) * 2 + 0)).toNatClampNeg x_140) := ⟨_, rfl⟩
                                    have hP : va_P (dC, dI) vwCl (wM cI cZ cJ h F_145 G (va_up V 0 0)) H := by rw [eF_145]; exact hP
                                    have hD : va_D A (wM cI cZ cJ h F_145 G (va_up V 0 0)) := by rw [eF_145]; exact hD
                                    have hN_146 : ∀ i, i < 24 → F_145 9 i = nI (Pr i) := by rw [eF_145]; exact hN_55
                                    have hb_147 : x_140 = rowf Pr cm (24 - q) (2 * u + 0) := by
                                      rw [rowf_at _ _ (by omega) (by omega)]
                                      have q1 : x_67 = rowf Pr cm (23 - q) (2 * (min 200 (u + cm (q)))) := (ex_67).trans ((congrArg (F4 16) (show _ = 402 * (q + 1) + 2 * (min 200 (u + cm (q))) by omega)).trans ((hW4 (q + 1) (by omega) (by omega) _ (by omega)).trans (by rw [show 24 - (q + 1) = 23 - q by omega])))
                                      have q2 : x_139 = rowf Pr cm (23 - q) (2 * ((min 200 (u + cm (q))) - (7 - 2 * 0)) + 1) := (ex_139).trans ((congrArg (F4 16) (show _ = 402 * (q + 1) + (2 * ((min 200 (u + cm (q))) - (7 - 2 * 0)) + 1) by omega)).trans ((hW4 (q + 1) (by omega) (by omega) _ (by omega)).trans (by rw [show 24 - (q + 1) = 23 - q by omega])))
                                      rw [ex_140, q1, q2]; exact wval_max _ _ _ _ (by omega)
                                    have hb_148 : ∀ i, i < 2 * u + 0 + 1 → F_145 16 (402 * q + i) = rowf Pr cm (24 - q) i := fun i hi => by
                                      rw [eF_145]
                                      show upd (F4 16) (nI ((201 * q + u) * 2 + 0)).toNatClampNeg _ (402 * q + i) = _
                                      rw [nI_clamp (by omega)]
                                      by_cases e : i = 2 * u + 0
                                      · rw [show 402 * q + i = (201 * q + u) * 2 + 0 by omega, e, ← hb_147]; exact pk_us
                                      · rw [pk_un (by omega)]; exact hlo4 i (by omega)
                                    have hb_149 : ∀ t, q + 1 ≤ t → t ≤ 24 → ∀ i, i < 402 → F_145 16 (402 * t + i) = rowf Pr cm (24 - t) i := fun t h1 h2 i hi => by
                                      rw [eF_145]
                                      show upd (F4 16) (nI ((201 * q + u) * 2 + 0)).toNatClampNeg _ (402 * t + i) = _
                                      rw [nI_clamp (by omega), pk_un (by omega)]; exact hW4 t h1 h2 i hi
                                    have hb_150 : ∀ i, nw ≤ i → i < 24 → F_145 18 i = nI (cm i) ∧ cm i ≤ 40 := by rw [eF_145]; exact hcm4
                                    refine lv_iinc (v := 1) (lv' := [(4, .int 1), (6, .int x_140), (7, .int 7), (5, .int (nI (min 200 (u + (cm (q)))))), (0, .ref (h 0)), (1, .ref (h 18)), (2, .int (nI q)), (3, .int (nI u))]) hx hb dX5_plan_212 hl (k := 3) rfl (by decide) (by decide) rfl (fun ls hl => ?_)
                                    refine lv_goto (tgt := 102) hx hb dX5_plan_215 (by decide) ?_
                                    refine lv_iload hx hb dX5_plan_102 (lv_at hl 0 rfl) ?_
                                    refine lv_iconst (v := 2) hx hb dX5_plan_104 (by decide) ?_
                                    refine lv_icmp_ge (tgt := 218) hx hb dX5_plan_105 (by decide) (fun c_151 => ?_) (fun c_151 => ?_)
                                    · exact absurd c_151 (by decide)
                                    · refine lv_iload_n hx hb dX5_plan_108 rfl (lv_at hl 7 rfl) ?_
                                      refine lv_aload_n hx hb dX5_plan_109 rfl (lv_at hl 5 rfl) ?_
                                      refine lv_iload_n hx hb dX5_plan_110 rfl (lv_at hl 6 rfl) ?_
                                      refine va_iald hx hb hK hP 18 0 rfl rfl (vp_in_nI (n := q) (N := 24) (by omega) (by decide)) dX5_plan_111 ?_
                                      have hb_152 := (hb_150 (q) (by omega) (by omega)).2
                                      refine lv_topi (fun x_153 ex_153 => ?_)
                                      obtain rfl : x_153 = nI (cm (q)) := ex_153.trans ((congrArg (F_145 18) (nI_clamp (n := q) (by omega))).trans (hb_150 (q) (by omega) (by omega)).1)
                                      refine cw_Si (As := [.int (nI u), .int (nI (cm (q)))]) (rest := []) (c_X5_filled l dC dI cI cZ cJ (wM cI cZ cJ h F_145 G (va_up V 0 0)) u (cm (q)) (by omega)) fx (va_cwS 2 hts gX5_plan_X5_filled rfl rfl rfl (by decide +kernel) ⟨Nat.le_of_ble_eq_true rfl, Nat.le_of_ble_eq_true rfl⟩) hK hP hD hS hA rfl hl.1 rfl (Nat.le_of_ble_eq_true rfl) dX5_plan_112 ⟨Nat.le_of_ble_eq_true rfl, Nat.le_of_ble_eq_true rfl⟩ (fun r_154 u_155 H locs hw_156 hP hD hS => ?_)
                                      have hP : va_P (dC, dI) vwCl (wM cI cZ cJ h F_145 G (va_up V 0 0)) H := hP
                                      have hD : va_D A (wM cI cZ cJ h F_145 G (va_up V 0 0)) := hD
                                      obtain rfl : r_154 = nI (min 200 (u + (cm (q)))) := hw_156
                                      refine lv_istore (lv' := [(5, .int (nI (min 200 (u + (cm (q)))))), (4, .int 1), (6, .int x_140), (7, .int 7), (0, .ref (h 0)), (1, .ref (h 18)), (2, .int (nI q)), (3, .int (nI u))]) hx hb dX5_plan_115 hl (by decide) rfl (fun ls hl => ?_)
                                      refine lv_aload_n hx hb dX5_plan_117 rfl (lv_at hl 4 rfl) ?_
                                      refine va_get (D := (dC, dI)) (ci := 5) (v := .ref (h 16)) (C := RX5) (T := TX5) (N := 33) hx hb hts hin_X5 hown hK hP 0 rfl rfl 25 (by decide) hw7 (fun _ h9 => h9) rfl dX5_plan_118 ?_
                                      refine lv_iload_n hx hb dX5_plan_121 rfl (lv_at hl 6 rfl) ?_
                                      refine lv_iconst (v := 1) hx hb dX5_plan_122 (by decide) ?_
                                      refine lv_iadd hx hb dX5_plan_123 ?_
                                      refine lv_topi (fun x_157 ex_157 => ?_)
                                      obtain rfl : x_157 = nI (q + 1) := ex_157.trans (nI_add q 1)
                                      refine lv_iload hx hb dX5_plan_124 (lv_at hl 0 rfl) ?_
                                      refine lv_iconst (v := 0) hx hb dX5_plan_126 (by decide) ?_
                                      refine cw_Si (As := [.int (nI (q + 1)), .int (nI (min 200 (u + (cm (q))))), .int 0]) (rest := [.ref (h 16)]) (c_X5_state l dC dI cI cZ cJ (wM cI cZ cJ h F_145 G (va_up V 0 0)) (q + 1) (min 200 (u + (cm (q)))) 0 (by omega)) fx (va_cwS 3 hts gX5_plan_X5_state rfl rfl rfl (by decide +kernel) ⟨Nat.le_of_ble_eq_true rfl, Nat.le_of_ble_eq_true rfl⟩) hK hP hD hS hA rfl hl.1 rfl (Nat.le_of_ble_eq_true rfl) dX5_plan_127 ⟨Nat.le_of_ble_eq_true rfl, Nat.le_of_ble_eq_true rfl⟩ (fun r_158 u_159 H locs hw_160 hP hD hS => ?_)
                                      have hP : va_P (dC, dI) vwCl (wM cI cZ cJ h F_145 G (va_up V 0 0)) H := hP
                                      have hD : va_D A (wM cI cZ cJ h F_145 G (va_up V 0 0)) := hD
                                      obtain rfl : r_158 = nI ((201 * (q + 1) + (min 200 (u + (cm (q))))) * 2 + 0) := hw_160
                                      refine va_iald hx hb hK hP 16 0 rfl rfl (vp_in_nI (n := (201 * (q + 1) + (min 200 (u + (cm (q))))) * 2 + 0) (N := 10050) (by omega) (by decide)) dX5_plan_130 ?_
                                      refine lv_topi (fun x_161 ex_161 => ?_)
                                      rw [nI_clamp (n := (201 * (q + 1) + (min 200 (u + (cm (q))))) * 2 + 0) (by omega)] at ex_161
                                      refine lv_istore (lv' := [(6, .int x_161), (5, .int (nI (min 200 (u + (cm (q)))))), (4, .int 1), (7, .int 7), (0, .ref (h 0)), (1, .ref (h 18)), (2, .int (nI q)), (3, .int (nI u))]) hx hb dX5_plan_131 hl (by decide) rfl (fun ls hl => ?_)
                                      refine lv_iload hx hb dX5_plan_133 (lv_at hl 2 rfl) ?_
                                      refine lv_iconst (v := 1) hx hb dX5_plan_135 (by decide) ?_
                                      refine lv_icmp_ne (tgt := 143) hx hb dX5_plan_136 (by decide) (fun c_162 => ?_) (fun c_162 => ?_)
                                      · exact absurd c_162 (by decide)
                                      · refine lv_iconst (v := 1) hx hb dX5_plan_139 (by decide) ?_
                                        refine lv_goto (tgt := 144) hx hb dX5_plan_140 (by decide) ?_
                                        refine cw_Si (As := [.int 1]) (rest := []) (c_X5_takes l dC dI cI cZ cJ (wM cI cZ cJ h F_145 G (va_up V 0 0)) 1 (by omega)) fx (va_cwS 1 hts gX5_plan_X5_takes rfl rfl rfl (by decide +kernel) ⟨Nat.le_of_ble_eq_true rfl, Nat.le_of_ble_eq_true rfl⟩) hK hP hD hS hA rfl hl.1 rfl (Nat.le_of_ble_eq_true rfl) dX5_plan_144 ⟨Nat.le_of_ble_eq_true rfl, Nat.le_of_ble_eq_true rfl⟩ (fun r_163 u_164 H locs hw_165 hP hD hS => ?_)
                                        have hP : va_P (dC, dI) vwCl (wM cI cZ cJ h F_145 G (va_up V 0 0)) H := hP
                                        have hD : va_D A (wM cI cZ cJ h F_145 G (va_up V 0 0)) := hD
                                        obtain rfl : r_163 = 5 := hw_165
                                        refine lv_istore (lv' := [(7, .int 5), (6, .int x_161), (5, .int (nI (min 200 (u + (cm (q)))))), (4, .int 1), (0, .ref (h 0)), (1, .ref (h 18)), (2, .int (nI q)), (3, .int (nI u))]) hx hb dX5_plan_147 hl (by decide) rfl (fun ls hl => ?_)
                                        refine lv_iload hx hb dX5_plan_149 (lv_at hl 2 rfl) ?_
                                        refine lv_iload hx hb dX5_plan_151 (lv_at hl 0 rfl) ?_
                                        refine lv_icmp_lt (tgt := 189) hx hb dX5_plan_153 (by decide) (fun c_166 => ?_) (fun c_166 => ?_)
                                        · have c_166 : (min 200 (u + (cm (q)))) < 5 := (nI_ltI (a := min 200 (u + (cm (q)))) (b := 5) (by omega) (by omega)).mp c_166
                                          refine lv_aload_n hx hb dX5_plan_189 rfl (lv_at hl 4 rfl) ?_
                                          refine va_get (D := (dC, dI)) (ci := 5) (v := .ref (h 16)) (C := RX5) (T := TX5) (N := 33) hx hb hts hin_X5 hown hK hP 0 rfl rfl 25 (by decide) hw7 (fun _ h9 => h9) rfl dX5_plan_190 ?_
                                          refine lv_iload_n hx hb dX5_plan_193 rfl (lv_at hl 6 rfl) ?_
                                          refine lv_iload_n hx hb dX5_plan_194 rfl (lv_at hl 7 rfl) ?_
                                          refine lv_iload hx hb dX5_plan_195 (lv_at hl 3 rfl) ?_
                                          refine lv_iconst (v := 1) hx hb dX5_plan_197 (by decide) ?_
                                          refine lv_icmp_ne (tgt := 205) hx hb dX5_plan_198 (by decide) (fun c_167 => ?_) (fun c_167 => ?_)
                                          · exact absurd c_167 (by decide)
                                          · refine lv_iconst (v := 1) hx hb dX5_plan_201 (by decide) ?_
                                            refine lv_goto (tgt := 206) hx hb dX5_plan_202 (by decide) ?_
                                            refine cw_Si (As := [.int (nI q), .int (nI u), .int 1]) (rest := [.ref (h 16)]) (c_X5_state l dC dI cI cZ cJ (wM cI cZ cJ h F_145 G (va_up V 0 0)) q u 1 (by omega)) fx (va_cwS 3 hts gX5_plan_X5_state rfl rfl rfl (by decide +kernel) ⟨Nat.le_of_ble_eq_true rfl, Nat.le_of_ble_eq_true rfl⟩) hK hP hD hS hA rfl hl.1 rfl (Nat.le_of_ble_eq_true rfl) dX5_plan_206 ⟨Nat.le_of_ble_eq_true rfl, Nat.le_of_ble_eq_true rfl⟩ (fun r_168 u_169 H locs hw_170 hP hD hS => ?_)
                                            have hP : va_P (dC, dI) vwCl (wM cI cZ cJ h F_145 G (va_up V 0 0)) H := hP
                                            have hD : va_D A (wM cI cZ cJ h F_145 G (va_up V 0 0)) := hD
                                            obtain rfl : r_168 = nI ((201 * q + u) * 2 + 1) := hw_170
                                            refine lv_iload hx hb dX5_plan_209 (lv_at hl 1 rfl) ?_
                                            refine va_iast hx hb hK hP hD hS 16 0 rfl rfl (vp_in_nI (n := (201 * q + u) * 2 + 1) (N := 10050) (by omega) (by decide)) dX5_plan_211 (fun H locs hP hD hS => ?_)
                                            obtain ⟨F_171, eF_171⟩ : ∃ z : Nat → Nat → Int32, z = va_up F_145 16 (upd (F_145 16) (nI ((201 * q + u) * 2 + 1)).toNatClampNeg x_161) := ⟨_, rfl⟩
                                            have hP : va_P (dC, dI) vwCl (wM cI cZ cJ h F_171 G (va_up V 0 0)) H := by rw [eF_171]; exact hP
                                            have hD : va_D A (wM cI cZ cJ h F_171 G (va_up V 0 0)) := by rw [eF_171]; exact hD
                                            have hN_172 : ∀ i, i < 24 → F_171 9 i = nI (Pr i) := by rw [eF_171]; exact hN_146
                                            have hb_173 : x_161 = rowf Pr cm (24 - q) (2 * u + 1) := by
                                              rw [rowf_at _ _ (by omega) (by omega)]
                                              have q1 : x_161 = rowf Pr cm (23 - q) (2 * (min 200 (u + cm (q)))) := (ex_161).trans ((congrArg (F_145 16) (show _ = 402 * (q + 1) + 2 * (min 200 (u + cm (q))) by omega)).trans ((hb_149 (q + 1) (by omega) (by omega) _ (by omega)).trans (by rw [show 24 - (q + 1) = 23 - q by omega])))
                                              rw [q1]; exact wval_low _ _ _ _ (by omega)
                                            have hb_174 : ∀ i, i < 2 * u + 1 + 1 → F_171 16 (402 * q + i) = rowf Pr cm (24 - q) i := fun i hi => by
                                              rw [eF_171]
                                              show upd (F_145 16) (nI ((201 * q + u) * 2 + 1)).toNatClampNeg _ (402 * q + i) = _
                                              rw [nI_clamp (by omega)]
                                              by_cases e : i = 2 * u + 1
                                              · rw [show 402 * q + i = (201 * q + u) * 2 + 1 by omega, e, ← hb_173]; exact pk_us
                                              · rw [pk_un (by omega)]; exact hb_148 i (by omega)
                                            have hb_175 : ∀ t, q + 1 ≤ t → t ≤ 24 → ∀ i, i < 402 → F_171 16 (402 * t + i) = rowf Pr cm (24 - t) i := fun t h1 h2 i hi => by
                                              rw [eF_171]
                                              show upd (F_145 16) (nI ((201 * q + u) * 2 + 1)).toNatClampNeg _ (402 * t + i) = _
                                              rw [nI_clamp (by omega), pk_un (by omega)]; exact hb_149 t h1 h2 i hi
                                            have hb_176 : ∀ i, nw ≤ i → i < 24 → F_171 18 i = nI (cm i) ∧ cm i ≤ 40 := by rw [eF_171]; exact hb_150
                                            refine lv_iinc (v := 2) (lv' := [(4, .int 2), (7, .int 5), (6, .int x_161), (5, .int (nI (min 200 (u + (cm (q)))))), (0, .ref (h 0)), (1, .ref (h 18)), (2, .int (nI q)), (3, .int (nI u))]) hx hb dX5_plan_212 hl (k := 3) rfl (by decide) (by decide) rfl (fun ls hl => ?_)
                                            refine lv_goto (tgt := 102) hx hb dX5_plan_215 (by decide) ?_
                                            refine lv_iload hx hb dX5_plan_102 (lv_at hl 0 rfl) ?_
                                            refine lv_iconst (v := 2) hx hb dX5_plan_104 (by decide) ?_
                                            refine lv_icmp_ge (tgt := 218) hx hb dX5_plan_105 (by decide) (fun c_177 => ?_) (fun c_177 => ?_)
                                            · refine lv_iinc (v := nI (u + 1)) (lv' := [(3, .int (nI (u + 1))), (4, .int 2), (7, .int 5), (6, .int x_161), (5, .int (nI (min 200 (u + (cm (q)))))), (0, .ref (h 0)), (1, .ref (h 18)), (2, .int (nI q))]) hx hb dX5_plan_218 hl (k := 7) rfl (nI_1 _) (by decide) rfl (fun ls hl => ?_)
                                              refine lv_goto (tgt := 92) hx hb dX5_plan_221 (by decide) ?_
                                              exact ih92 (u + 1) F_171 (by omega) hb_176 hb_174 hb_175 (fun j hj => ((va_ne eF_171 (fun h => hj (by rw [h]; decide))).trans ((va_ne eF_145 (fun h => hj (by rw [h]; decide))).trans (hfr4 j hj)))) (by omega) H locs ls hP hD hS (lv_sub hl [5, 6, 7, 0] rfl)
                                            · exact absurd c_177 (by decide)
                                        · have c_166 : ¬ (min 200 (u + (cm (q)))) < 5 := fun h => c_166 ((nI_ltI (a := min 200 (u + (cm (q)))) (b := 5) (by omega) (by omega)).mpr h)
                                          refine lv_iload hx hb dX5_plan_156 (lv_at hl 1 rfl) ?_
                                          refine lv_iconst (v := 5) hx hb dX5_plan_158 (by decide) ?_
                                          refine lv_aload_n hx hb dX5_plan_159 rfl (lv_at hl 4 rfl) ?_
                                          refine va_get (D := (dC, dI)) (ci := 5) (v := .ref (h 9)) (C := RX5) (T := TX5) (N := 33) hx hb hts hin_X5 hown hK hP 0 rfl rfl 16 (by decide) hw9 (fun _ h9 => h9) rfl dX5_plan_160 ?_
                                          refine lv_iload_n hx hb dX5_plan_163 rfl (lv_at hl 6 rfl) ?_
                                          refine va_iald hx hb hK hP 9 0 rfl rfl (vp_in_nI (n := q) (N := 24) (by omega) (by decide)) dX5_plan_164 ?_
                                          have hb_178 := bPr q (by omega)
                                          refine lv_topi (fun x_179 ex_179 => ?_)
                                          obtain rfl : x_179 = nI (Pr q) := ex_179.trans ((congrArg (F_145 9) (nI_clamp (n := q) (by omega))).trans (hN_146 q (by omega)))
                                          refine lv_imul hx hb dX5_plan_165 ?_
                                          refine lv_topi (fun x_180 ex_180 => ?_)
                                          obtain rfl : x_180 = nI (5 * (Pr q)) := ex_180.trans (pk_mul 5 (Pr q))
                                          refine lv_aload_n hx hb dX5_plan_166 rfl (lv_at hl 4 rfl) ?_
                                          refine va_get (D := (dC, dI)) (ci := 5) (v := .ref (h 16)) (C := RX5) (T := TX5) (N := 33) hx hb hts hin_X5 hown hK hP 0 rfl rfl 25 (by decide) hw7 (fun _ h9 => h9) rfl dX5_plan_167 ?_
                                          refine lv_iload_n hx hb dX5_plan_170 rfl (lv_at hl 6 rfl) ?_
                                          refine lv_iconst (v := 1) hx hb dX5_plan_171 (by decide) ?_
                                          refine lv_iadd hx hb dX5_plan_172 ?_
                                          refine lv_topi (fun x_181 ex_181 => ?_)
                                          obtain rfl : x_181 = nI (q + 1) := ex_181.trans (nI_add q 1)
                                          refine lv_iload hx hb dX5_plan_173 (lv_at hl 2 rfl) ?_
                                          refine lv_iload hx hb dX5_plan_175 (lv_at hl 0 rfl) ?_
                                          refine lv_isub hx hb dX5_plan_177 ?_
                                          refine lv_topi (fun x_182 ex_182 => ?_)
                                          obtain rfl : x_182 = nI ((min 200 (u + (cm (q)))) - 5) := ex_182.trans (pk_sub (a := min 200 (u + (cm (q)))) (b := 5) (by omega))
                                          refine lv_iconst (v := 1) hx hb dX5_plan_178 (by decide) ?_
                                          refine cw_Si (As := [.int (nI (q + 1)), .int (nI ((min 200 (u + (cm (q)))) - 5)), .int 1]) (rest := [.ref (h 16), .int (nI (5 * (Pr q))), .int x_161]) (c_X5_state l dC dI cI cZ cJ (wM cI cZ cJ h F_145 G (va_up V 0 0)) (q + 1) ((min 200 (u + (cm (q)))) - 5) 1 (by omega)) fx (va_cwS 3 hts gX5_plan_X5_state rfl rfl rfl (by decide +kernel) ⟨Nat.le_of_ble_eq_true rfl, Nat.le_of_ble_eq_true rfl⟩) hK hP hD hS hA rfl hl.1 rfl (Nat.le_of_ble_eq_true rfl) dX5_plan_179 ⟨Nat.le_of_ble_eq_true rfl, Nat.le_of_ble_eq_true rfl⟩ (fun r_183 u_184 H locs hw_185 hP hD hS => ?_)
                                          have hP : va_P (dC, dI) vwCl (wM cI cZ cJ h F_145 G (va_up V 0 0)) H := hP
                                          have hD : va_D A (wM cI cZ cJ h F_145 G (va_up V 0 0)) := hD
                                          obtain rfl : r_183 = nI ((201 * (q + 1) + ((min 200 (u + (cm (q)))) - 5)) * 2 + 1) := hw_185
                                          refine va_iald hx hb hK hP 16 0 rfl rfl (vp_in_nI (n := (201 * (q + 1) + ((min 200 (u + (cm (q)))) - 5)) * 2 + 1) (N := 10050) (by omega) (by decide)) dX5_plan_182 ?_
                                          refine lv_topi (fun x_186 ex_186 => ?_)
                                          rw [nI_clamp (n := (201 * (q + 1) + ((min 200 (u + (cm (q)))) - 5)) * 2 + 1) (by omega)] at ex_186
                                          refine lv_iadd hx hb dX5_plan_183 ?_
                                          refine va_mmax hx hb (hml.trans hl.1.symm) hown hw10 hw11 hw12 hw13 (Nat.le_of_ble_eq_true rfl) (Nat.le_of_ble_eq_true rfl) (Nat.le_of_ble_eq_true rfl) (Nat.le_of_ble_eq_true rfl) dX5_plan_184 ?_
                                          refine lv_topi (fun x_187 ex_187 => ?_)
                                          refine lv_istore (lv' := [(6, .int x_187), (7, .int 5), (5, .int (nI (min 200 (u + (cm (q)))))), (4, .int 1), (0, .ref (h 0)), (1, .ref (h 18)), (2, .int (nI q)), (3, .int (nI u))]) hx hb dX5_plan_187 hl (by decide) rfl (fun ls hl => ?_)
                                          refine lv_aload_n hx hb dX5_plan_189 rfl (lv_at hl 4 rfl) ?_
                                          refine va_get (D := (dC, dI)) (ci := 5) (v := .ref (h 16)) (C := RX5) (T := TX5) (N := 33) hx hb hts hin_X5 hown hK hP 0 rfl rfl 25 (by decide) hw7 (fun _ h9 => h9) rfl dX5_plan_190 ?_
                                          refine lv_iload_n hx hb dX5_plan_193 rfl (lv_at hl 6 rfl) ?_
                                          refine lv_iload_n hx hb dX5_plan_194 rfl (lv_at hl 7 rfl) ?_
                                          refine lv_iload hx hb dX5_plan_195 (lv_at hl 3 rfl) ?_
                                          refine lv_iconst (v := 1) hx hb dX5_plan_197 (by decide) ?_
                                          refine lv_icmp_ne (tgt := 205) hx hb dX5_plan_198 (by decide) (fun c_188 => ?_) (fun c_188 => ?_)
                                          · exact absurd c_188 (by decide)
                                          · refine lv_iconst (v := 1) hx hb dX5_plan_201 (by decide) ?_
                                            refine lv_goto (tgt := 206) hx hb dX5_plan_202 (by decide) ?_
                                            refine cw_Si (As := [.int (nI q), .int (nI u), .int 1]) (rest := [.ref (h 16)]) (c_X5_state l dC dI cI cZ cJ (wM cI cZ cJ h F_145 G (va_up V 0 0)) q u 1 (by omega)) fx (va_cwS 3 hts gX5_plan_X5_state rfl rfl rfl (by decide +kernel) ⟨Nat.le_of_ble_eq_true rfl, Nat.le_of_ble_eq_true rfl⟩) hK hP hD hS hA rfl hl.1 rfl (Nat.le_of_ble_eq_true rfl) dX5_plan_206 ⟨Nat.le_of_ble_eq_true rfl, Nat.le_of_ble_eq_true rfl⟩ (fun r_189 u_190 H locs hw_191 hP hD hS => ?_)
                                            have hP : va_P (dC, dI) vwCl (wM cI cZ cJ h F_145 G (va_up V 0 0)) H := hP
                                            have hD : va_D A (wM cI cZ cJ h F_145 G (va_up V 0 0)) := hD
                                            obtain rfl : r_189 = nI ((201 * q + u) * 2 + 1) := hw_191
                                            refine lv_iload hx hb dX5_plan_209 (lv_at hl 0 rfl) ?_
                                            refine va_iast hx hb hK hP hD hS 16 0 rfl rfl (vp_in_nI (n := (201 * q + u) * 2 + 1) (N := 10050) (by omega) (by decide)) dX5_plan_211 (fun H locs hP hD hS => ?_)
                                            obtain ⟨F_192, eF_192⟩ : ∃ z : Nat → Nat → Int32, z = va_up F_145 16 (upd (F_145 16) (nI ((201 * q + u) * 2 + 1)).toNatClampNeg x_187) := ⟨_, rfl⟩
                                            have hP : va_P (dC, dI) vwCl (wM cI cZ cJ h F_192 G (va_up V 0 0)) H := by rw [eF_192]; exact hP
                                            have hD : va_D A (wM cI cZ cJ h F_192 G (va_up V 0 0)) := by rw [eF_192]; exact hD
                                            have hN_193 : ∀ i, i < 24 → F_192 9 i = nI (Pr i) := by rw [eF_192]; exact hN_146
                                            have hb_194 : x_187 = rowf Pr cm (24 - q) (2 * u + 1) := by
                                              rw [rowf_at _ _ (by omega) (by omega)]
                                              have q1 : x_161 = rowf Pr cm (23 - q) (2 * (min 200 (u + cm (q)))) := (ex_161).trans ((congrArg (F_145 16) (show _ = 402 * (q + 1) + 2 * (min 200 (u + cm (q))) by omega)).trans ((hb_149 (q + 1) (by omega) (by omega) _ (by omega)).trans (by rw [show 24 - (q + 1) = 23 - q by omega])))
                                              have q2 : x_186 = rowf Pr cm (23 - q) (2 * ((min 200 (u + cm (q))) - (7 - 2 * 1)) + 1) := (ex_186).trans ((congrArg (F_145 16) (show _ = 402 * (q + 1) + (2 * ((min 200 (u + cm (q))) - (7 - 2 * 1)) + 1) by omega)).trans ((hb_149 (q + 1) (by omega) (by omega) _ (by omega)).trans (by rw [show 24 - (q + 1) = 23 - q by omega])))
                                              rw [ex_187, q1, q2]; exact wval_max _ _ _ _ (by omega)
                                            have hb_195 : ∀ i, i < 2 * u + 1 + 1 → F_192 16 (402 * q + i) = rowf Pr cm (24 - q) i := fun i hi => by
                                              rw [eF_192]
                                              show upd (F_145 16) (nI ((201 * q + u) * 2 + 1)).toNatClampNeg _ (402 * q + i) = _
                                              rw [nI_clamp (by omega)]
                                              by_cases e : i = 2 * u + 1
                                              · rw [show 402 * q + i = (201 * q + u) * 2 + 1 by omega, e, ← hb_194]; exact pk_us
                                              · rw [pk_un (by omega)]; exact hb_148 i (by omega)
                                            have hb_196 : ∀ t, q + 1 ≤ t → t ≤ 24 → ∀ i, i < 402 → F_192 16 (402 * t + i) = rowf Pr cm (24 - t) i := fun t h1 h2 i hi => by
                                              rw [eF_192]
                                              show upd (F_145 16) (nI ((201 * q + u) * 2 + 1)).toNatClampNeg _ (402 * t + i) = _
                                              rw [nI_clamp (by omega), pk_un (by omega)]; exact hb_149 t h1 h2 i hi
                                            have hb_197 : ∀ i, nw ≤ i → i < 24 → F_192 18 i = nI (cm i) ∧ cm i ≤ 40 := by rw [eF_192]; exact hb_150
                                            refine lv_iinc (v := 2) (lv' := [(4, .int 2), (6, .int x_187), (7, .int 5), (5, .int (nI (min 200 (u + (cm (q)))))), (0, .ref (h 0)), (1, .ref (h 18)), (2, .int (nI q)), (3, .int (nI u))]) hx hb dX5_plan_212 hl (k := 3) rfl (by decide) (by decide) rfl (fun ls hl => ?_)
                                            refine lv_goto (tgt := 102) hx hb dX5_plan_215 (by decide) ?_
                                            refine lv_iload hx hb dX5_plan_102 (lv_at hl 0 rfl) ?_
                                            refine lv_iconst (v := 2) hx hb dX5_plan_104 (by decide) ?_
                                            refine lv_icmp_ge (tgt := 218) hx hb dX5_plan_105 (by decide) (fun c_198 => ?_) (fun c_198 => ?_)
                                            · refine lv_iinc (v := nI (u + 1)) (lv' := [(3, .int (nI (u + 1))), (4, .int 2), (6, .int x_187), (7, .int 5), (5, .int (nI (min 200 (u + (cm (q)))))), (0, .ref (h 0)), (1, .ref (h 18)), (2, .int (nI q))]) hx hb dX5_plan_218 hl (k := 7) rfl (nI_1 _) (by decide) rfl (fun ls hl => ?_)
                                              refine lv_goto (tgt := 92) hx hb dX5_plan_221 (by decide) ?_
                                              exact ih92 (u + 1) F_192 (by omega) hb_197 hb_195 hb_196 (fun j hj => ((va_ne eF_192 (fun h => hj (by rw [h]; decide))).trans ((va_ne eF_145 (fun h => hj (by rw [h]; decide))).trans (hfr4 j hj)))) (by omega) H locs ls hP hD hS (lv_sub hl [5, 6, 7, 0] rfl)
                                            · exact absurd c_198 (by decide)
                                  · exact absurd c_141 (by decide)
                              · exact absurd c_68 (by decide)
                      exact loop92 _ 0 F3 (by omega) hcm3 (fun i hi => absurd hi (by omega)) hW3 hfr3 (Nat.lt_succ_self _) H locs ls hP hD hS (lv_sub hl [1, 2, 3, 0] rfl)
              exact loop82 _ 24 F2 (by omega) (by omega) hcm2 (fun t h1 h2 i hi => by
                obtain rfl : t = 24 := by omega
                exact hz2 i (by omega)) hfr2 (Nat.lt_succ_self _) H locs ls hP hD hS (lv_sub hl [1, 2, 0] rfl)
            · have c_8 : ¬ 402 ≤ k2 := fun h => c_8 ((nI_leI (a := 402) (b := k2) (by omega) (by omega)).mpr h)
              refine lv_aload_n hx hb dX5_plan_58 rfl (lv_at hl 0 rfl) ?_
              refine va_get (D := (dC, dI)) (ci := 5) (v := .ref (h 16)) (C := RX5) (T := TX5) (N := 33) hx hb hts hin_X5 hown hK hP 0 rfl rfl 25 (by decide) hw7 (fun _ h9 => h9) rfl dX5_plan_59 ?_
              refine lv_bipush (v := 24) hx hb dX5_plan_62 (by decide) ?_
              refine lv_iconst (v := 0) hx hb dX5_plan_64 (by decide) ?_
              refine lv_iconst (v := 0) hx hb dX5_plan_65 (by decide) ?_
              refine cw_Si (As := [.int 24, .int 0, .int 0]) (rest := [.ref (h 16)]) (c_X5_state l dC dI cI cZ cJ (wM cI cZ cJ h F2 G (va_up V 0 0)) 24 0 0 (by omega)) fx (va_cwS 3 hts gX5_plan_X5_state rfl rfl rfl (by decide +kernel) ⟨Nat.le_of_ble_eq_true rfl, Nat.le_of_ble_eq_true rfl⟩) hK hP hD hS hA rfl hl.1 rfl (Nat.le_of_ble_eq_true rfl) dX5_plan_66 ⟨Nat.le_of_ble_eq_true rfl, Nat.le_of_ble_eq_true rfl⟩ (fun r_199 u_200 H locs hw_201 hP hD hS => ?_)
              have hP : va_P (dC, dI) vwCl (wM cI cZ cJ h F2 G (va_up V 0 0)) H := hP
              have hD : va_D A (wM cI cZ cJ h F2 G (va_up V 0 0)) := hD
              obtain rfl : r_199 = 9648 := hw_201
              refine lv_iload_n hx hb dX5_plan_69 rfl (lv_at hl 2 rfl) ?_
              refine lv_iadd hx hb dX5_plan_70 ?_
              refine lv_topi (fun x_202 ex_202 => ?_)
              obtain rfl : x_202 = nI (9648 + k2) := ex_202.trans (nI_add 9648 k2)
              refine lv_iconst (v := 0) hx hb dX5_plan_71 (by decide) ?_
              refine va_iast hx hb hK hP hD hS 16 0 rfl rfl (vp_in_nI (n := 9648 + k2) (N := 10050) (by omega) (by decide)) dX5_plan_72 (fun H locs hP hD hS => ?_)
              obtain ⟨F_203, eF_203⟩ : ∃ z : Nat → Nat → Int32, z = va_up F2 16 (upd (F2 16) (nI (9648 + k2)).toNatClampNeg 0) := ⟨_, rfl⟩
              have hP : va_P (dC, dI) vwCl (wM cI cZ cJ h F_203 G (va_up V 0 0)) H := by rw [eF_203]; exact hP
              have hD : va_D A (wM cI cZ cJ h F_203 G (va_up V 0 0)) := by rw [eF_203]; exact hD
              have hE_204 : F_203 16 (9648 + k2) = 0 := by rw [eF_203]; show upd _ (nI (9648 + k2)).toNatClampNeg _ _ = _; rw [nI_clamp (by omega)]; exact pk_us
              refine lv_iinc (v := nI (k2 + 1)) (lv' := [(2, .int (nI (k2 + 1))), (0, .ref (h 0)), (1, .ref (h 18))]) hx hb dX5_plan_73 hl (k := 2) rfl (nI_1 _) (by decide) rfl (fun ls hl => ?_)
              refine lv_goto (tgt := 51) hx hb dX5_plan_76 (by decide) ?_
              have hb_205 : ∀ i, i < k2 + 1 → F_203 16 (9648 + i) = 0 := fun i hi => by
                rw [eF_203]
                show upd (F2 16) (nI (9648 + k2)).toNatClampNeg 0 (9648 + i) = 0
                rw [nI_clamp (by omega)]
                by_cases q : i = k2
                · rw [q]; exact pk_us
                · rw [pk_un (by omega)]; exact hz2 i (by omega)
              have hb_206 : ∀ i, nw ≤ i → i < 24 → F_203 18 i = nI (cm i) ∧ cm i ≤ 40 := by rw [eF_203]; exact hcm2
              exact ih51 (k2 + 1) F_203 (by omega) hb_206 hb_205 (fun j hj => ((va_ne eF_203 (fun h => hj (by rw [h]; decide))).trans (hfr2 j hj))) (by omega) H locs ls hP hD hS (lv_sub hl [1, 2, 0] rfl)
        exact loop51 _ 0 F1 (by omega) (fun i h1 h2 => hcm i h1 (by omega)) (fun i hi => absurd hi (Nat.not_lt_zero i)) hfr (Nat.lt_succ_self _) H locs ls hP hD hS (lv_sub hl [1, 2, 0] rfl)
      · have c_7 : ¬ 24 ≤ k := fun h => c_7 ((nI_leI (a := 24) (b := k) (by omega) (by omega)).mpr h)
        refine lv_aload_n hx hb dX5_plan_21 rfl (lv_at hl 1 rfl) ?_
        refine lv_iload_n hx hb dX5_plan_22 rfl (lv_at hl 2 rfl) ?_
        refine lv_aload_n hx hb dX5_plan_23 rfl (lv_at hl 0 rfl) ?_
        refine lv_iload_n hx hb dX5_plan_24 rfl (lv_at hl 2 rfl) ?_
        refine lv_aload_n hx hb dX5_plan_25 rfl (lv_at hl 0 rfl) ?_
        refine va_get (D := (dC, dI)) (ci := 5) (v := .int (V 6)) (C := RX5) (T := TX5) (N := 33) hx hb hts hin_X5 hown hK hP 0 rfl rfl 6 (by decide) hw14 (fun _ h9 => h9) rfl dX5_plan_26 ?_
        refine lv_topi (fun x_207 ex_207 => ?_)
        obtain rfl : x_207 = nI d := ex_207.trans (hV6)
        refine lv_iload_n hx hb dX5_plan_29 rfl (lv_at hl 2 rfl) ?_
        refine lv_aload_n hx hb dX5_plan_30 rfl (lv_at hl 0 rfl) ?_
        refine va_get (D := (dC, dI)) (ci := 5) (v := .int (V 3)) (C := RX5) (T := TX5) (N := 33) hx hb hts hin_X5 hown hK hP 0 rfl rfl 3 (by decide) hw3 (fun _ h9 => h9) rfl dX5_plan_31 ?_
        refine lv_topi (fun x_208 ex_208 => ?_)
        obtain rfl : x_208 = nI nw := ex_208.trans (hV3)
        have hkd : d * (k - nw) ≤ 20 * 23 := Nat.mul_le_mul bV6 (by omega)
        refine lv_isub hx hb dX5_plan_34 ?_
        refine lv_topi (fun x_209 ex_209 => ?_)
        obtain rfl : x_209 = nI (k - nw) := ex_209.trans (pk_sub (a := k) (b := nw) (by omega))
        refine lv_imul hx hb dX5_plan_35 ?_
        refine lv_topi (fun x_210 ex_210 => ?_)
        obtain rfl : x_210 = nI (d * (k - nw)) := ex_210.trans (pk_mul d (k - nw))
        refine cw_Vi (As := [.int (nI k), .int (nI (d * (k - nw)))]) (rest := [.int (nI k), .ref (h 18)]) (c_X5_aims l dC dI cI cZ cJ h F1 G (va_up V 0 0) n hV2 (by omega) So hN_2 bSo Hh hN_4 bHh Wd hN_5 bWd Lm hN_3 bLm k (d * (k - nw)) (by omega) (by omega)) fx (cwV 2 hts gX5_plan_X5_aims rfl rfl rfl (by decide +kernel) ⟨Nat.le_of_ble_eq_true rfl, Nat.le_of_ble_eq_true rfl⟩) hK hP hD hS hA 0 rfl rfl rfl rfl hl.1 rfl (Nat.le_of_ble_eq_true rfl) dX5_plan_36 ⟨Nat.le_of_ble_eq_true rfl, Nat.le_of_ble_eq_true rfl⟩ (fun r_211 u_212 H locs hw_213 hP hD hS => ?_)
        obtain ⟨F_214, rfl⟩ : ∃ z, z = u_212 := ⟨_, rfl⟩
        obtain ⟨Pa_215, hq_216, hq_217, hf_218, -, -, -, -⟩ := hw_213
        have hf_218 : ∀ j, j ∉ ([10, 11, 12, 14] : List Nat) → F_214 j = F1 j := hf_218
        have hP : va_P (dC, dI) vwCl (wM cI cZ cJ h F_214 G (va_up V 0 0)) H := hP
        have hD : va_D A (wM cI cZ cJ h F_214 G (va_up V 0 0)) := hD
        have hN_219 : ∀ i, i < 40 → F_214 3 i = nI (So i) := by rw [hf_218 3 (by decide)]; exact hN_2
        have hN_220 : ∀ i, i < 4 → F_214 4 i = nI (Lm i) := by rw [hf_218 4 (by decide)]; exact hN_3
        have hN_221 : ∀ i, i < 24 → F_214 7 i = nI (Hh i) := by rw [hf_218 7 (by decide)]; exact hN_4
        have hN_222 : ∀ i, i < 24 → F_214 8 i = nI (Wd i) := by rw [hf_218 8 (by decide)]; exact hN_5
        have hN_223 : ∀ i, i < 24 → F_214 9 i = nI (Pr i) := by rw [hf_218 9 (by decide)]; exact hN_6
        have hb_224 : aimH Pa_215 (ordn Pa_215 n) Lm n ≤ 4000 := aimHn_le (by omega) hq_216
        obtain rfl : r_211 = nI (aimH Pa_215 (ordn Pa_215 n) Lm n) := hq_217
        refine lv_bipush (v := 100) hx hb dX5_plan_39 (by decide) ?_
        refine lv_idiv hx hb dX5_plan_41 (by decide) ?_
        refine lv_topi (fun x_225 ex_225 => ?_)
        obtain rfl : x_225 = nI ((aimH Pa_215 (ordn Pa_215 n) Lm n) / 100) := ex_225.trans (pk_div (a := aimH Pa_215 (ordn Pa_215 n) Lm n) (d := 100) (by omega) (by omega) (by omega))
        refine va_iast hx hb hK hP hD hS 18 0 rfl rfl (vp_in_nI (n := k) (N := 24) (by omega) (by decide)) dX5_plan_42 (fun H locs hP hD hS => ?_)
        obtain ⟨F_226, eF_226⟩ : ∃ z : Nat → Nat → Int32, z = va_up F_214 18 (upd (F_214 18) (nI k).toNatClampNeg (nI ((aimH Pa_215 (ordn Pa_215 n) Lm n) / 100))) := ⟨_, rfl⟩
        have hP : va_P (dC, dI) vwCl (wM cI cZ cJ h F_226 G (va_up V 0 0)) H := by rw [eF_226]; exact hP
        have hD : va_D A (wM cI cZ cJ h F_226 G (va_up V 0 0)) := by rw [eF_226]; exact hD
        have hN_227 : ∀ i, i < 40 → F_226 3 i = nI (So i) := by rw [eF_226]; exact hN_219
        have hN_228 : ∀ i, i < 4 → F_226 4 i = nI (Lm i) := by rw [eF_226]; exact hN_220
        have hN_229 : ∀ i, i < 24 → F_226 7 i = nI (Hh i) := by rw [eF_226]; exact hN_221
        have hN_230 : ∀ i, i < 24 → F_226 8 i = nI (Wd i) := by rw [eF_226]; exact hN_222
        have hN_231 : ∀ i, i < 24 → F_226 9 i = nI (Pr i) := by rw [eF_226]; exact hN_223
        refine lv_iinc (v := nI (k + 1)) (lv' := [(2, .int (nI (k + 1))), (0, .ref (h 0)), (1, .ref (h 18))]) hx hb dX5_plan_43 hl (k := 2) rfl (nI_1 _) (by decide) rfl (fun ls hl => ?_)
        refine lv_goto (tgt := 15) hx hb dX5_plan_46 (by decide) ?_
        have hb_232 : ∀ i, nw ≤ i → i < k + 1 → F_226 18 i = nI (nup cm k ((aimH Pa_215 (ordn Pa_215 n) Lm n) / 100) i) ∧ nup cm k ((aimH Pa_215 (ordn Pa_215 n) Lm n) / 100) i ≤ 40 := fun i h1 h2 => by
          rw [eF_226]
          show upd (F_214 18) (nI k).toNatClampNeg _ i = nI (if i = k then _ else cm i) ∧ (if i = k then _ else cm i) ≤ 40
          rw [nI_clamp (by omega), hf_218 18 (by decide)]
          by_cases q : i = k
          · rw [if_pos q, q]; exact ⟨pk_us, by omega⟩
          · rw [if_neg q, pk_un q]; exact hcm i h1 (by omega)
        exact ih15 (k + 1) (nup cm k ((aimH Pa_215 (ordn Pa_215 n) Lm n) / 100)) F_226 (by omega) (by omega) hb_232 (fun j hj => ((va_ne eF_226 (fun h => hj (by rw [h]; decide))).trans ((hf_218 j (fun h => hj ((by decide : ∀ x ∈ ([10, 11, 12, 14] : List Nat), x ∈ ([10, 11, 12, 14, 16, 17, 18] : List Nat)) j h))).trans (hfr j hj)))) (by omega) H locs ls hP hD hS (lv_sub hl [1, 2, 0] rfl)
  exact loop15 _ nw (fun _ => 0) F (by omega) (by omega) (fun i h1 h2 => absurd h1 (by omega)) (fun _ _ => rfl) (Nat.lt_succ_self _) H locs ls hP hD hS (lv_sub hl [2, 1, 0] rfl)
