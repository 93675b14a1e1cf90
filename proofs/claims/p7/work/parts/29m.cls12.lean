def rm_X3_layPlan : Room := { frames := 6, cells := 0, slots := 0, locals := 131 }
set_option maxHeartbeats 4000000 in
set_option maxRecDepth 100000 in
theorem c_X3_layPlan (l : Launch) (dC : Nat → ClassId) (dI : Nat → Nat → Nat) (cI cZ cJ : ClassId) (h : Nat → Nat) (F : Nat → Nat → Int32) (V : Nat → Int32) (n : Nat) (hV1 : V 1 = nI n) (bV1 : n ≤ 40) (d : Nat) (hV2 : V 2 = nI d) (bV2 : d ≤ 20) (nw : Nat) (hV4 : V 4 = nI nw) (bV4 : nw ≤ 23) (un : Nat) (hV5 : V 5 = nI un) (bV5 : un ≤ 200) (wm : Nat) (hV6 : V 6 = nI wm) (bV6 : wm ≤ 1) (So : Nat → Nat) (hSo : ∀ i, i < 40 → F 9 i = nI (So i)) (bSo : ∀ i, i < 40 → So i ≤ 90) (Hh : Nat → Nat) (hHh : ∀ i, i < 24 → F 12 i = nI (Hh i)) (bHh : ∀ i, i < 24 → Hh i ≤ 9) (Wd : Nat → Nat) (hWd : ∀ i, i < 24 → F 13 i = nI (Wd i)) (bWd : ∀ i, i < 24 → Wd i ≤ 99) (Lm : Nat → Nat) (hLm : ∀ i, i < 4 → F 14 i = nI (Lm i)) (bLm : ∀ i, i < 4 → Lm i ≤ 10000) (Pr : Nat → Nat) (hPr : ∀ i, i < 24 → F 23 i = nI (Pr i)) (bPr : ∀ i, i < 24 → Pr i ≤ 999)    : CtI l (dC, dI) vwCl (tys3 cI cZ cJ) yX3_layPlan wsX3_layPlan rm_X3_layPlan [.ref (h 3)] (wC cI cZ h F V) (S := (Nat → Nat) × (Nat → Nat → Int32) × (Nat → Int32)) (fun r u => r = rowf Pr (cmF F Hh So Wd Lm d n nw) (24 - nw) (2 * un + wm) ∧ (∀ j, j ≠ 24 → j ≠ 25 → u.1 j = h j) ∧ (∀ j, j ∉ ([15, 16, 17, 18, 24, 25, 26, 27, 28] : List Nat) → u.2.1 j = F j) ∧ (∀ i, i ≠ 8 → i ≠ 9 → u.2.2 i = V i) ∧ u.2.2 9 = nI nw ∧ ∃ C : Nat → Int32, u.2.2 8 = fcP C (cmF F Hh So Wd Lm d n nw) nw un wm (24 - nw) ∧ ∀ t, nw ≤ t → t < 24 → ∀ a, a ≤ mhF (cmF F Hh So Wd Lm d n nw) nw un t → ∀ b, b ≤ 1 → tkb (C (2 * a + b)) t = wrun (rowf Pr (cmF F Hh So Wd Lm d n nw) (23 - t)) (5 * Pr t) (min 200 (a + cmF F Hh So Wd Lm d n nw t)) (7 - 2 * b)) (fun u => wC cI cZ u.1 u.2.1 u.2.2) 0 0 := by
  refine ct_I (cc := cX3_layPlan) (maxL := 3) (ty := .int) (own := RX3) (by decide) rfl rfl (Nat.le_of_ble_eq_true rfl) (lv := [(0, .ref (h 3))]) rfl ?_
  intro p e s m args below meth c A Q ls fx hK hP hD hA hl hret
  obtain ⟨hx, hb, hml, hown, hts⟩ := id fx
  have hS : va_S A s.heap s.heap [] := va_S.rf
  have hw0 := hts (.fieldLink RX3 29 "MirrorTower$Store" "gains" "[I") (by decide +kernel)
  have hin_X3 : ∀ w ∈ u_ws RX3 TX3 14, w ∈ wsX3_layPlan := by decide +kernel
  have hw2 := hts (.fieldLink RX3 35 "MirrorTower$Store" "choices" "[I") (by decide +kernel)
  have hw3 := hts (.fieldLink RX3 48 "MirrorTower$Store" "now" "I") (by decide +kernel)
  have hw4 := hts (.fieldLink RX3 51 "MirrorTower$Store" "units" "I") (by decide +kernel)
  have hw5 := hts (.fieldLink RX3 54 "MirrorTower$Store" "warm" "Z") (by decide +kernel)
  have hw6 := hts (.fieldLink RX3 32 "MirrorTower$Store" "laterGains" "[I") (by decide +kernel)
  obtain ⟨H, hH⟩ : ∃ H, H = s.heap := ⟨_, rfl⟩
  rw [← hH] at hP ⊢
  have hS : va_S A s.heap H [] := by rw [hH]; exact hS
  generalize ([] : List Loc) = locs at hS ⊢
  refine lv_aload_n hx hb dX3_layPlan_0 rfl (lv_at hl 0 rfl) ?_
  refine cw_Vv (As := []) (rest := []) (c_X3_lookAhead l dC dI cI cZ cJ h F V n hV1 (by omega) d hV2 (by omega) nw hV4 (by omega) un hV5 (by omega) So hSo bSo Hh hHh bHh Wd hWd bWd Lm hLm bLm) fx (cwV 0 hts gX3_layPlan_X3_lookAhead rfl rfl rfl (by decide +kernel) ⟨Nat.le_of_ble_eq_true rfl, Nat.le_of_ble_eq_true rfl⟩) hK hP hD hS hA 3 rfl rfl rfl rfl hl.1 rfl (Nat.le_of_ble_eq_true rfl) dX3_layPlan_1 ⟨Nat.le_of_ble_eq_true rfl, Nat.le_of_ble_eq_true rfl⟩ (fun u_2 H locs hw_3 hP hD hS => ?_)
  obtain ⟨F_4, rfl⟩ : ∃ z, z = u_2 := ⟨_, rfl⟩
  have hf_5 : ∀ j, j ∉ ([15, 16, 17, 18, 27, 28] : List Nat) → F_4 j = F j := hw_3.1
  have hP : va_P (dC, dI) vwCl (wC cI cZ h F_4 V) H := hP
  have hD : va_D A (wC cI cZ h F_4 V) := hD
  have hN_6 : ∀ i, i < 40 → F_4 9 i = nI (So i) := by rw [hf_5 9 (by decide)]; exact hSo
  have hN_7 : ∀ i, i < 24 → F_4 12 i = nI (Hh i) := by rw [hf_5 12 (by decide)]; exact hHh
  have hN_8 : ∀ i, i < 24 → F_4 13 i = nI (Wd i) := by rw [hf_5 13 (by decide)]; exact hWd
  have hN_9 : ∀ i, i < 4 → F_4 14 i = nI (Lm i) := by rw [hf_5 14 (by decide)]; exact hLm
  have hN_10 : ∀ i, i < 24 → F_4 23 i = nI (Pr i) := by rw [hf_5 23 (by decide)]; exact hPr
  refine lv_aload_n hx hb dX3_layPlan_4 rfl (lv_at hl 0 rfl) ?_
  refine va_get (D := (dC, dI)) (ci := 3) (v := .ref (h 24)) (C := RX3) (T := TX3) (N := 14) hx hb hts hin_X3 hown hK hP 3 rfl rfl 7 (by decide) hw0 (fun _ h9 => h9) rfl dX3_layPlan_5 ?_
  refine lv_iconst (v := 0) hx hb dX3_layPlan_8 (by decide) ?_
  refine cl_Sv (As := [.ref (h 24), .int 0]) (rest := []) (wr := (wC cI cZ h F_4 V).eraseIdx 24) (c_J7_fill l dC dI cI cZ cJ (h 24) 402 (F_4 24) 0 (by decide)) fx (va_cwS 2 hts gX3_layPlan_J7_fill_53178 rfl rfl rfl (by decide +kernel) ⟨Nat.le_of_ble_eq_true rfl, Nat.le_of_ble_eq_true rfl⟩) hK hP hD hS hA [24] [0, 1, 2, 3, 4, 5, 6, 7, 8, 9, 10, 11, 12, 13, 14, 15, 16, 17, 18, 19, 20, 21, 22, 23, 25, 26, 27, 28, 29, 30] rfl rfl (by decide) (by decide) (by decide) rfl hl.1 rfl (Nat.le_of_ble_eq_true rfl) dX3_layPlan_9 ⟨Nat.le_of_ble_eq_true rfl, Nat.le_of_ble_eq_true rfl⟩ (fun u_11 H locs hw_12 hP hD hS => ?_)
  have hw_12 : ∀ i, i < 402 → u_11 i = 0 := hw_12
  obtain ⟨F_13, eF_13⟩ : ∃ z : Nat → Nat → Int32, z = va_up F_4 24 u_11 := ⟨_, rfl⟩
  have hP : va_P (dC, dI) vwCl (wC cI cZ h F_13 V) H := by rw [eF_13]; exact hP.sub [0, 1, 2, 3, 4, 5, 6, 7, 8, 9, 10, 11, 12, 13, 14, 15, 16, 17, 18, 19, 20, 21, 22, 23, 30, 24, 25, 26, 27, 28, 29] rfl
  have hD : va_D A (wC cI cZ h F_13 V) := by rw [eF_13]; exact hD.sub [0, 1, 2, 3, 4, 5, 6, 7, 8, 9, 10, 11, 12, 13, 14, 15, 16, 17, 18, 19, 20, 21, 22, 23, 30, 24, 25, 26, 27, 28, 29] (by decide) rfl
  have hF_14 : ∀ i, i < 402 → F_13 24 i = 0 := by rw [eF_13]; exact hw_12
  have hN_15 : ∀ i, i < 40 → F_13 9 i = nI (So i) := by rw [eF_13]; exact hN_6
  have hN_16 : ∀ i, i < 24 → F_13 12 i = nI (Hh i) := by rw [eF_13]; exact hN_7
  have hN_17 : ∀ i, i < 24 → F_13 13 i = nI (Wd i) := by rw [eF_13]; exact hN_8
  have hN_18 : ∀ i, i < 4 → F_13 14 i = nI (Lm i) := by rw [eF_13]; exact hN_9
  have hN_19 : ∀ i, i < 24 → F_13 23 i = nI (Pr i) := by rw [eF_13]; exact hN_10
  refine lv_aload_n hx hb dX3_layPlan_12 rfl (lv_at hl 0 rfl) ?_
  refine va_get (D := (dC, dI)) (ci := 3) (v := .ref (h 26)) (C := RX3) (T := TX3) (N := 14) hx hb hts hin_X3 hown hK hP 3 rfl rfl 9 (by decide) hw2 (fun _ h9 => h9) rfl dX3_layPlan_13 ?_
  refine lv_iconst (v := 0) hx hb dX3_layPlan_16 (by decide) ?_
  refine cl_Sv (As := [.ref (h 26), .int 0]) (rest := []) (wr := (wC cI cZ h F_13 V).eraseIdx 26) (c_J7_fill l dC dI cI cZ cJ (h 26) 402 (F_13 26) 0 (by decide)) fx (va_cwS 2 hts gX3_layPlan_J7_fill_53178 rfl rfl rfl (by decide +kernel) ⟨Nat.le_of_ble_eq_true rfl, Nat.le_of_ble_eq_true rfl⟩) hK hP hD hS hA [26] [0, 1, 2, 3, 4, 5, 6, 7, 8, 9, 10, 11, 12, 13, 14, 15, 16, 17, 18, 19, 20, 21, 22, 23, 24, 25, 27, 28, 29, 30] rfl rfl (by decide) (by decide) (by decide) rfl hl.1 rfl (Nat.le_of_ble_eq_true rfl) dX3_layPlan_17 ⟨Nat.le_of_ble_eq_true rfl, Nat.le_of_ble_eq_true rfl⟩ (fun u_20 H locs hw_21 hP hD hS => ?_)
  have hw_21 : ∀ i, i < 402 → u_20 i = 0 := hw_21
  obtain ⟨F_22, eF_22⟩ : ∃ z : Nat → Nat → Int32, z = va_up F_13 26 u_20 := ⟨_, rfl⟩
  have hP : va_P (dC, dI) vwCl (wC cI cZ h F_22 V) H := by rw [eF_22]; exact hP.sub [0, 1, 2, 3, 4, 5, 6, 7, 8, 9, 10, 11, 12, 13, 14, 15, 16, 17, 18, 19, 20, 21, 22, 23, 24, 25, 30, 26, 27, 28, 29] rfl
  have hD : va_D A (wC cI cZ h F_22 V) := by rw [eF_22]; exact hD.sub [0, 1, 2, 3, 4, 5, 6, 7, 8, 9, 10, 11, 12, 13, 14, 15, 16, 17, 18, 19, 20, 21, 22, 23, 24, 25, 30, 26, 27, 28, 29] (by decide) rfl
  have hF_23 : ∀ i, i < 402 → F_22 24 i = 0 := by rw [eF_22]; exact hF_14
  have hF_24 : ∀ i, i < 402 → F_22 26 i = 0 := by rw [eF_22]; exact hw_21
  have hN_25 : ∀ i, i < 40 → F_22 9 i = nI (So i) := by rw [eF_22]; exact hN_15
  have hN_26 : ∀ i, i < 24 → F_22 12 i = nI (Hh i) := by rw [eF_22]; exact hN_16
  have hN_27 : ∀ i, i < 24 → F_22 13 i = nI (Wd i) := by rw [eF_22]; exact hN_17
  have hN_28 : ∀ i, i < 4 → F_22 14 i = nI (Lm i) := by rw [eF_22]; exact hN_18
  have hN_29 : ∀ i, i < 24 → F_22 23 i = nI (Pr i) := by rw [eF_22]; exact hN_19
  have hfb : ∀ j, j ∉ ([15, 16, 17, 18, 24, 25, 26, 27, 28] : List Nat) → F_22 j = F j := fun j hj => ((va_ne eF_22 (fun h => hj (by rw [h]; decide))).trans ((va_ne eF_13 (fun h => hj (by rw [h]; decide))).trans (hf_5 j (fun h => hj ((by decide : ∀ x ∈ ([15, 16, 17, 18, 27, 28] : List Nat), x ∈ ([15, 16, 17, 18, 24, 25, 26, 27, 28] : List Nat)) j h)))))
  have hA0 : ∀ i, nw ≤ i → i < 24 → F_22 27 i = nI (cmF F Hh So Wd Lm d n nw i) ∧ F_22 28 i = nI (mhF (cmF F Hh So Wd Lm d n nw) nw un i) := by rw [eF_22, eF_13]; exact hw_3.2
  refine lv_bipush (v := 23) hx hb dX3_layPlan_20 (by decide) ?_
  refine lv_istore_n (lv' := [(1, .int 23), (0, .ref (h 3))]) hx hb dX3_layPlan_22 rfl hl (by decide) rfl (fun ls hl => ?_)
  have loop23 : ∀ (fu : Nat) (k : Nat) (h1 : Nat → Nat) (F1 : Nat → Nat → Int32), (nw ≤ k) → (k ≤ 24) → (∀ i, i < 2 * (mhF (cmF F Hh So Wd Lm d n nw) nw un k + 1) → F1 24 i = rowf Pr (cmF F Hh So Wd Lm d n nw) (24 - k) i) → (∀ t, k ≤ t → t < 24 → ∀ a, a ≤ mhF (cmF F Hh So Wd Lm d n nw) nw un t → ∀ b, b ≤ 1 → tkb (F1 26 (2 * a + b)) t = wrun (rowf Pr (cmF F Hh So Wd Lm d n nw) (23 - t)) (5 * Pr t) (min 200 (a + cmF F Hh So Wd Lm d n nw t)) (7 - 2 * b)) → (∀ t, t < 24 → ∀ a, a ≤ 200 → ∀ b, b ≤ 1 → (t < k ∨ mhF (cmF F Hh So Wd Lm d n nw) nw un t < a) → tkb (F1 26 (2 * a + b)) t = false) → (∀ i, nw ≤ i → i < 24 → F1 27 i = nI (cmF F Hh So Wd Lm d n nw i) ∧ F1 28 i = nI (mhF (cmF F Hh So Wd Lm d n nw) nw un i)) → (∀ j, j ≠ 24 → j ≠ 25 → h1 j = h j) → (∀ j, j ∉ ([15, 16, 17, 18, 24, 25, 26, 27, 28] : List Nat) → F1 j = F j) → (k - nw) < fu → ∀ (H : Heap) (locs : List Loc) (ls : Array Slot), va_P (dC, dI) vwCl (wC cI cZ h1 F1 V) H → va_D A (wC cI cZ h1 F1 V) → va_S A s.heap H locs → lv_has ls 3 [(0, .ref (h1 3)), (1, .int (nI k - 1))] → W p l e rm_X3_layPlan s m args below meth c H locs 0 0 Q (F0 m 23 ls []) := by
    intro fu
    induction fu with
    | zero => intro k h1 F1 hk hk2 hG hC hC0 hA1 hh1 hfr hn_; exact absurd hn_ (Nat.not_lt_zero _)
    | succ fu ih23 =>
      intro k h1 F1 hk hk2 hG hC hC0 hA1 hh1 hfr hn_ H locs ls hP hD hS hl
      have hN_30 : ∀ i, i < 24 → F1 23 i = nI (Pr i) := by rw [hfr 23 (by decide)]; exact hPr
      rcases Nat.eq_or_lt_of_le hk with hkn | hkn
      · subst hkn
        refine lv_iload_n hx hb dX3_layPlan_23 rfl (lv_at hl 1 rfl) ?_
        refine lv_aload_n hx hb dX3_layPlan_24 rfl (lv_at hl 0 rfl) ?_
        refine va_get (D := (dC, dI)) (ci := 3) (v := .int (V 4)) (C := RX3) (T := TX3) (N := 14) hx hb hts hin_X3 hown hK hP 3 rfl rfl 3 (by decide) hw3 (fun _ h9 => h9) rfl dX3_layPlan_25 ?_
        refine lv_topi (fun x_31 ex_31 => ?_)
        obtain rfl : x_31 = nI nw := ex_31.trans (hV4)
        refine lv_icmp_lt (tgt := 60) hx hb dX3_layPlan_28 (by decide) (fun c_32 => ?_) (fun c_32 => ?_)
        · have c_32 : ltI (nI nw - 1) (nI nw) = true := decide_eq_true c_32
          refine lv_aload_n hx hb dX3_layPlan_60 rfl (lv_at hl 0 rfl) ?_
          refine cw_Vv (As := []) (rest := []) (c_X3_followChoices l dC dI cI cZ cJ h1 F1 V nw hV4 (by omega) un hV5 (by omega) wm hV6 (by omega) (cmF F Hh So Wd Lm d n nw) (fun k h1 h2 => (hA1 k h1 h2).1) (fun k h1 h2 => cmF_le bV1 (bHh k h2)) (fun t h1 h2 a ha b hb hx => by
              by_cases q : a ≤ mhF (cmF F Hh So Wd Lm d n nw) nw un t
              · have e := (hC t h1 h2 a q b hb).symm.trans hx
                unfold wrun at e
                rw [Bool.and_eq_true] at e
                exact of_decide_eq_true e.1
              · rw [hC0 t h2 a ha b hb (Or.inr (by omega))] at hx
                cases hx)) fx (cwV 0 hts gX3_layPlan_X3_followChoices rfl rfl rfl (by decide +kernel) ⟨Nat.le_of_ble_eq_true rfl, Nat.le_of_ble_eq_true rfl⟩) hK hP hD hS hA 3 rfl rfl rfl rfl hl.1 rfl (Nat.le_of_ble_eq_true rfl) dX3_layPlan_61 ⟨Nat.le_of_ble_eq_true rfl, Nat.le_of_ble_eq_true rfl⟩ (fun u_34 H locs hw_35 hP hD hS => ?_)
          obtain ⟨V_36, rfl⟩ : ∃ z, z = u_34 := ⟨_, rfl⟩
          have hP : va_P (dC, dI) vwCl (wC cI cZ h1 F1 V_36) H := hP
          have hD : va_D A (wC cI cZ h1 F1 V_36) := hD
          have hV_37 : V_36 4 = nI nw := by rw [hw_35.2.2 4 (by decide) (by decide)]; exact hV4
          have hV_38 : V_36 5 = nI un := by rw [hw_35.2.2 5 (by decide) (by decide)]; exact hV5
          have hV_39 : V_36 6 = nI wm := by rw [hw_35.2.2 6 (by decide) (by decide)]; exact hV6
          refine lv_aload_n hx hb dX3_layPlan_64 rfl (lv_at hl 0 rfl) ?_
          refine va_get (D := (dC, dI)) (ci := 3) (v := .ref (h1 24)) (C := RX3) (T := TX3) (N := 14) hx hb hts hin_X3 hown hK hP 3 rfl rfl 7 (by decide) hw0 (fun _ h9 => h9) rfl dX3_layPlan_65 ?_
          refine lv_aload_n hx hb dX3_layPlan_68 rfl (lv_at hl 0 rfl) ?_
          refine va_get (D := (dC, dI)) (ci := 3) (v := .int (V_36 5)) (C := RX3) (T := TX3) (N := 14) hx hb hts hin_X3 hown hK hP 3 rfl rfl 4 (by decide) hw4 (fun _ h9 => h9) rfl dX3_layPlan_69 ?_
          refine lv_topi (fun x_40 ex_40 => ?_)
          obtain rfl : x_40 = nI un := ex_40.trans (hV_38)
          refine lv_aload_n hx hb dX3_layPlan_72 rfl (lv_at hl 0 rfl) ?_
          refine va_get (D := (dC, dI)) (ci := 3) (v := .int (V_36 6)) (C := RX3) (T := TX3) (N := 14) hx hb hts hin_X3 hown hK hP 3 rfl rfl 5 (by decide) hw5 (fun _ h9 => h9) rfl dX3_layPlan_73 ?_
          refine lv_topi (fun x_41 ex_41 => ?_)
          obtain rfl : x_41 = nI wm := ex_41.trans (hV_39)
          refine cw_Si (As := [.int (nI un), .int (nI wm)]) (rest := [.ref (h1 24)]) (c_X3_stateOf l dC dI cI cZ cJ (wC cI cZ h1 F1 V_36) un wm (by omega)) fx (va_cwS 2 hts gX3_layPlan_X3_stateOf rfl rfl rfl (by decide +kernel) ⟨Nat.le_of_ble_eq_true rfl, Nat.le_of_ble_eq_true rfl⟩) hK hP hD hS hA rfl hl.1 rfl (Nat.le_of_ble_eq_true rfl) dX3_layPlan_76 ⟨Nat.le_of_ble_eq_true rfl, Nat.le_of_ble_eq_true rfl⟩ (fun r_42 u_43 H locs hw_44 hP hD hS => ?_)
          have hP : va_P (dC, dI) vwCl (wC cI cZ h1 F1 V_36) H := hP
          have hD : va_D A (wC cI cZ h1 F1 V_36) := hD
          obtain rfl : r_42 = nI (2 * un + wm) := hw_44
          refine va_iald hx hb hK hP 24 0 rfl rfl (vp_in_nI (n := 2 * un + wm) (N := 402) (by omega) (by decide)) dX3_layPlan_79 ?_
          refine lv_topi (fun x_45 ex_45 => ?_)
          rw [nI_clamp (n := 2 * un + wm) (by omega)] at ex_45
          exact hret x_45 (h1, F1, V_36) H locs 80 ls rfl dX3_layPlan_80 (by
                      refine ⟨?_, hh1, hfr, hw_35.2.2, hw_35.2.1, F1 26, hw_35.1, fun t h1 h2 a ha b hb => hC t h1 h2 a ha b hb⟩
                      rw [ex_45]
                      exact hG _ (by rw [mhF_at _ _ _ _ (Nat.le_refl nw)]; omega)) (hP) (hD) hS
        · exact absurd (pred_lt (by omega)) c_32
      · obtain ⟨q, rfl⟩ : ∃ q, k = q + 1 := ⟨k - 1, by omega⟩
        rw [nI_pred] at hl
        refine lv_iload_n hx hb dX3_layPlan_23 rfl (lv_at hl 1 rfl) ?_
        refine lv_aload_n hx hb dX3_layPlan_24 rfl (lv_at hl 0 rfl) ?_
        refine va_get (D := (dC, dI)) (ci := 3) (v := .int (V 4)) (C := RX3) (T := TX3) (N := 14) hx hb hts hin_X3 hown hK hP 3 rfl rfl 3 (by decide) hw3 (fun _ h9 => h9) rfl dX3_layPlan_25 ?_
        refine lv_topi (fun x_46 ex_46 => ?_)
        obtain rfl : x_46 = nI nw := ex_46.trans (hV4)
        refine lv_icmp_lt (tgt := 60) hx hb dX3_layPlan_28 (by decide) (fun c_47 => ?_) (fun c_47 => ?_)
        · exact absurd ((nI_ltI (a := q) (b := nw) (by omega) (by omega)).mp c_47) (by omega)
        · have c_47 : ¬ q < nw := fun h => c_47 ((nI_ltI (a := q) (b := nw) (by omega) (by omega)).mpr h)
          refine lv_aload_n hx hb dX3_layPlan_31 rfl (lv_at hl 0 rfl) ?_
          refine va_get (D := (dC, dI)) (ci := 3) (v := .ref (h1 24)) (C := RX3) (T := TX3) (N := 14) hx hb hts hin_X3 hown hK hP 3 rfl rfl 7 (by decide) hw0 (fun _ h9 => h9) rfl dX3_layPlan_32 ?_
          refine lv_astore_n (lv' := [(2, .ref (h1 24)), (0, .ref (h1 3)), (1, .int (nI q))]) hx hb dX3_layPlan_35 rfl hl (by decide) rfl (fun ls hl => ?_)
          refine lv_aload_n hx hb dX3_layPlan_36 rfl (lv_at hl 1 rfl) ?_
          refine lv_aload_n hx hb dX3_layPlan_37 rfl (lv_at hl 1 rfl) ?_
          refine va_get (D := (dC, dI)) (ci := 3) (v := .ref (h1 25)) (C := RX3) (T := TX3) (N := 14) hx hb hts hin_X3 hown hK hP 3 rfl rfl 8 (by decide) hw6 (fun _ h9 => h9) rfl dX3_layPlan_38 ?_
          refine va_put (D := (dC, dI)) (ci := 3) (v := .ref (h1 25)) (ty := tyX3 7) (C := RX3) (T := TX3) (N := 14) hx hb hts hin_X3 tyX3 tyX3_ok nmX3 hown hK hP hD hS 3 rfl rfl 7 (by decide) hw0 (fun _ h9 => h9) rfl (tyX3_ok 7 (by decide)) rfl rfl (Nat.le_of_ble_eq_true rfl) dX3_layPlan_41 (fun H locs hP hD hS => ?_)
          refine lv_aload_n hx hb dX3_layPlan_44 rfl (lv_at hl 1 rfl) ?_
          refine lv_aload_n hx hb dX3_layPlan_45 rfl (lv_at hl 0 rfl) ?_
          refine va_put (D := (dC, dI)) (ci := 3) (v := .ref (h1 24)) (ty := tyX3 8) (C := RX3) (T := TX3) (N := 14) hx hb hts hin_X3 tyX3 tyX3_ok nmX3 hown hK hP hD hS 3 rfl rfl 8 (by decide) hw6 (fun _ h9 => h9) rfl (tyX3_ok 8 (by decide)) rfl rfl (Nat.le_of_ble_eq_true rfl) dX3_layPlan_46 (fun H locs hP hD hS => ?_)
          obtain ⟨h_48, eh_48⟩ : ∃ z : Nat → Nat, z = fun j => if j = 24 then h1 25 else if j = 25 then h1 24 else h1 j := ⟨_, rfl⟩
          obtain ⟨F_49, eF_49⟩ : ∃ z : Nat → Nat → Int32, z = fun j => if j = 24 then F1 25 else if j = 25 then F1 24 else F1 j := ⟨_, rfl⟩
          have hP : va_P (dC, dI) vwCl (wC cI cZ h_48 F_49 V) H := by rw [eh_48, eF_49]; exact hP.sub [0, 1, 2, 3, 4, 5, 6, 7, 8, 9, 10, 11, 12, 13, 14, 15, 16, 17, 18, 19, 20, 21, 22, 23, 25, 24, 26, 27, 28, 29, 30] rfl
          have hD : va_D A (wC cI cZ h_48 F_49 V) := by rw [eh_48, eF_49]; exact hD.sub [0, 1, 2, 3, 4, 5, 6, 7, 8, 9, 10, 11, 12, 13, 14, 15, 16, 17, 18, 19, 20, 21, 22, 23, 25, 24, 26, 27, 28, 29, 30] (by decide) rfl
          have hl : lv_has ls 3 [(2, .ref (h_48 25)), (0, .ref (h_48 3)), (1, .int (nI q))] := by rw [eh_48]; exact hl
          have s24 : F_49 24 = F1 25 := by rw [eF_49]; rfl
          have s25 : F_49 25 = F1 24 := by rw [eF_49]; rfl
          have s26 : F_49 26 = F1 26 := by rw [eF_49]; rfl
          have s27 : F_49 27 = F1 27 := by rw [eF_49]; rfl
          have s28 : F_49 28 = F1 28 := by rw [eF_49]; rfl
          have sfr : ∀ j, j ∉ ([24, 25] : List Nat) → F_49 j = F1 j := fun j hj => by
            rw [eF_49]
            show (if j = 24 then _ else if j = 25 then _ else F1 j) = _
            rw [if_neg (fun z => hj (by rw [z]; decide)), if_neg (fun z => hj (by rw [z]; decide))]
          have hN_50 : ∀ i, i < 24 → F_49 23 i = nI (Pr i) := by rw [sfr 23 (by decide)]; exact hN_30
          have hE27 : F_49 27 q = nI (cmF F Hh So Wd Lm d n nw q) := by rw [s27]; exact (hA1 q (by omega) (by omega)).1
          have hE28 : F_49 28 q = nI (mhF (cmF F Hh So Wd Lm d n nw) nw un q) := by rw [s28]; exact (hA1 q (by omega) (by omega)).2
          have bq := cmF_le (F := F) (S := So) (W := Wd) (Lm := Lm) (d := d) (nw := nw) (k := q) bV1 (bHh q (by omega))
          have mq := mhF_le (c := cmF F Hh So Wd Lm d n nw) (nw := nw) bV5 q
          refine lv_aload_n hx hb dX3_layPlan_49 rfl (lv_at hl 1 rfl) ?_
          refine lv_iload_n hx hb dX3_layPlan_50 rfl (lv_at hl 2 rfl) ?_
          refine cw_Vv (As := [.int (nI q)]) (rest := []) (c_X3_weighHour l dC dI cI cZ cJ h_48 F_49 V Pr hN_50 bPr q (cmF F Hh So Wd Lm d n nw q) (mhF (cmF F Hh So Wd Lm d n nw) nw un q) (by omega) hE27 bq hE28 mq) fx (cwV 1 hts gX3_layPlan_X3_weighHour rfl rfl rfl (by decide +kernel) ⟨Nat.le_of_ble_eq_true rfl, Nat.le_of_ble_eq_true rfl⟩) hK hP hD hS hA 3 rfl rfl rfl rfl hl.1 rfl (Nat.le_of_ble_eq_true rfl) dX3_layPlan_51 ⟨Nat.le_of_ble_eq_true rfl, Nat.le_of_ble_eq_true rfl⟩ (fun u_52 H locs hw_53 hP hD hS => ?_)
          obtain ⟨F_54, rfl⟩ : ∃ z, z = u_52 := ⟨_, rfl⟩
          have hf_55 : ∀ j, j ∉ ([24, 26] : List Nat) → F_54 j = F_49 j := hw_53.1
          have hP : va_P (dC, dI) vwCl (wC cI cZ h_48 F_54 V) H := hP
          have hD : va_D A (wC cI cZ h_48 F_54 V) := hD
          have hN_56 : ∀ i, i < 24 → F_54 23 i = nI (Pr i) := by rw [hf_55 23 (by decide)]; exact hN_50
          refine lv_iinc (v := nI q - 1) (lv' := [(1, .int (nI q - 1)), (2, .ref (h_48 25)), (0, .ref (h_48 3))]) hx hb dX3_layPlan_54 hl (k := 2) rfl (by rw [Int32.sub_eq_add_neg]; rfl) (by decide) rfl (fun ls hl => ?_)
          refine lv_goto (tgt := 23) hx hb dX3_layPlan_57 (by decide) ?_
          have mup : mhF (cmF F Hh So Wd Lm d n nw) nw un (q + 1) = min 200 (mhF (cmF F Hh So Wd Lm d n nw) nw un q + cmF F Hh So Wd Lm d n nw q) := mhF_up _ (by omega)
          have wc : ∀ a, a ≤ mhF (cmF F Hh So Wd Lm d n nw) nw un q → ∀ b, b ≤ 1 → wval (F_49 25) (5 * Pr q) (min 200 (a + cmF F Hh So Wd Lm d n nw q)) (7 - 2 * b) = wval (rowf Pr (cmF F Hh So Wd Lm d n nw) (23 - q)) (5 * Pr q) (min 200 (a + cmF F Hh So Wd Lm d n nw q)) (7 - 2 * b) ∧ wrun (F_49 25) (5 * Pr q) (min 200 (a + cmF F Hh So Wd Lm d n nw q)) (7 - 2 * b) = wrun (rowf Pr (cmF F Hh So Wd Lm d n nw) (23 - q)) (5 * Pr q) (min 200 (a + cmF F Hh So Wd Lm d n nw q)) (7 - 2 * b) := fun a ha b hb => by
            rw [s25]
            refine wval_cong ?_ ?_
            · rw [hG _ (by omega), show 24 - (q + 1) = 23 - q by omega]
            · rw [hG _ (by omega), show 24 - (q + 1) = 23 - q by omega]
          have hb_57 : ∀ i, i < 2 * (mhF (cmF F Hh So Wd Lm d n nw) nw un q + 1) → F_54 24 i = rowf Pr (cmF F Hh So Wd Lm d n nw) (24 - q) i := fun i hi => by
            have e : i = 2 * (i / 2) + i % 2 := by omega
            rw [e, rowf_at _ _ (by omega) (by omega), (hw_53.2.1 (i / 2) (by omega) (i % 2) (by omega)).1]
            exact (wc (i / 2) (by omega) (i % 2) (by omega)).1
          have c26 : ∀ a, a ≤ 200 → ∀ b, b ≤ 1 → ∀ t, t < 24 → t ≠ q → tkb (F_54 26 (2 * a + b)) t = tkb (F1 26 (2 * a + b)) t := fun a ha b hb t ht hn => by
            by_cases h : a ≤ mhF (cmF F Hh So Wd Lm d n nw) nw un q
            · rw [(hw_53.2.1 a h b hb).2, tkb_chE (by omega) (by omega), decide_eq_false hn, Bool.and_false, Bool.or_false, s26]
            · rw [(hw_53.2.2 (2 * a + b) (by omega)).2, s26]
          have hb_58 : ∀ t, q ≤ t → t < 24 → ∀ a, a ≤ mhF (cmF F Hh So Wd Lm d n nw) nw un t → ∀ b, b ≤ 1 → tkb (F_54 26 (2 * a + b)) t = wrun (rowf Pr (cmF F Hh So Wd Lm d n nw) (23 - t)) (5 * Pr t) (min 200 (a + cmF F Hh So Wd Lm d n nw t)) (7 - 2 * b) := fun t h1 h2 a ha b hb => by
            have m2 := mhF_le (c := cmF F Hh So Wd Lm d n nw) (nw := nw) bV5 t
            by_cases h : t = q
            · rw [h] at ha ⊢
              rw [(hw_53.2.1 a ha b hb).2, tkb_chE (by omega) (by omega), s26, hC0 q (by omega) a (by omega) b hb (Or.inl (by omega)), decide_eq_true rfl, Bool.and_true, Bool.false_or]
              exact (wc a ha b hb).2
            · rw [c26 a (by omega) b hb t h2 h]; exact hC t (by omega) h2 a ha b hb
          have hb_59 : ∀ t, t < 24 → ∀ a, a ≤ 200 → ∀ b, b ≤ 1 → (t < q ∨ mhF (cmF F Hh So Wd Lm d n nw) nw un t < a) → tkb (F_54 26 (2 * a + b)) t = false := fun t h2 a ha b hb ho => by
            by_cases h : t = q
            · have hm : ¬ a ≤ mhF (cmF F Hh So Wd Lm d n nw) nw un q := by rw [h] at ho; omega
              rw [(hw_53.2.2 (2 * a + b) (by omega)).2, s26]; exact hC0 t h2 a ha b hb (Or.inl (by omega))
            · rw [c26 a ha b hb t h2 h]; exact hC0 t h2 a ha b hb (by omega)
          have hb_60 : ∀ i, nw ≤ i → i < 24 → F_54 27 i = nI (cmF F Hh So Wd Lm d n nw i) ∧ F_54 28 i = nI (mhF (cmF F Hh So Wd Lm d n nw) nw un i) := by rw [hf_55 27 (by decide), hf_55 28 (by decide), s27, s28]; exact hA1
          have hb_61 : ∀ j, j ≠ 24 → j ≠ 25 → h_48 j = h j := fun j n1 n2 => by
            rw [eh_48]
            show (if j = 24 then _ else if j = 25 then _ else h1 j) = _
            rw [if_neg n1, if_neg n2]; exact hh1 j n1 n2
          exact ih23 q h_48 F_54 (by omega) (by omega) hb_57 hb_58 hb_59 hb_60 hb_61 (fun j hj => (hf_55 j (fun z => hj ((by decide : ∀ x ∈ ([24, 26] : List Nat), x ∈ ([15, 16, 17, 18, 24, 25, 26, 27, 28] : List Nat)) j z))).trans ((sfr j (fun z => hj ((by decide : ∀ x ∈ ([24, 25] : List Nat), x ∈ ([15, 16, 17, 18, 24, 25, 26, 27, 28] : List Nat)) j z))).trans (hfr j hj))) (by omega) H locs ls hP hD hS (lv_sub hl [2, 0] rfl)
  exact loop23 _ 24 h F_22 (by omega) (by omega) (fun i hi => by
    have m2 := mhF_le (c := cmF F Hh So Wd Lm d n nw) (nw := nw) bV5 24
    exact hF_23 i (by omega)) (fun t h1 h2 => absurd h1 (by omega)) (fun t ht a ha b hb _ => by rw [hF_24 (2 * a + b) (by omega)]; exact tkb_0 t) hA0 (fun _ _ _ => rfl) hfb (Nat.lt_succ_self _) H locs ls hP hD hS (lv_sub hl [1, 0] rfl)
