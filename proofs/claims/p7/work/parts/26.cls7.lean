def rm_X3_lookAhead : Room := { frames := 5, cells := 0, slots := 0, locals := 109 }
set_option maxHeartbeats 4000000 in
set_option maxRecDepth 100000 in
theorem c_X3_lookAhead (l : Launch) (dC : Nat → ClassId) (dI : Nat → Nat → Nat) (cI cZ cJ : ClassId) (h : Nat → Nat) (F : Nat → Nat → Int32) (V : Nat → Int32) (n : Nat) (hV1 : V 1 = nI n) (bV1 : n ≤ 40) (d : Nat) (hV2 : V 2 = nI d) (bV2 : d ≤ 20) (nw : Nat) (hV4 : V 4 = nI nw) (bV4 : nw ≤ 23) (un : Nat) (hV5 : V 5 = nI un) (bV5 : un ≤ 200) (So : Nat → Nat) (hSo : ∀ i, i < 40 → F 9 i = nI (So i)) (bSo : ∀ i, i < 40 → So i ≤ 90) (Hh : Nat → Nat) (hHh : ∀ i, i < 24 → F 12 i = nI (Hh i)) (bHh : ∀ i, i < 24 → Hh i ≤ 9) (Wd : Nat → Nat) (hWd : ∀ i, i < 24 → F 13 i = nI (Wd i)) (bWd : ∀ i, i < 24 → Wd i ≤ 99) (Lm : Nat → Nat) (hLm : ∀ i, i < 4 → F 14 i = nI (Lm i)) (bLm : ∀ i, i < 4 → Lm i ≤ 10000)    : CtV l (dC, dI) vwCl (tys3 cI cZ cJ) yX3_lookAhead wsX3_lookAhead rm_X3_lookAhead [.ref (h 3)] (wC cI cZ h F V) (S := Nat → Nat → Int32) (fun u => (∀ j, j ∉ ([15, 16, 17, 18, 27, 28] : List Nat) → u j = F j) ∧ (∀ i, nw ≤ i → i < 24 → u 27 i = nI (cmF F Hh So Wd Lm d n nw i) ∧ u 28 i = nI (mhF (cmF F Hh So Wd Lm d n nw) nw un i))) (fun u => wC cI cZ h u V) 0 0 := by
  refine ct_V (cc := cX3_lookAhead) (maxL := 3) (own := RX3) (by decide) rfl rfl (Nat.le_of_ble_eq_true rfl) (lv := [(0, .ref (h 3))]) rfl ?_
  intro p e s m args below meth c A Q ls hnm fx hK hP hD hA hl hret
  obtain ⟨hx, hb, hml, hown, hts⟩ := id fx
  have hS : va_S A s.heap s.heap [] := va_S.rf
  have hw0 := hts (.fieldLink RX3 51 "MirrorTower$Store" "units" "I") (by decide +kernel)
  have hin_X3 : ∀ w ∈ u_ws RX3 TX3 14, w ∈ wsX3_lookAhead := by decide +kernel
  have hw2 := hts (.fieldLink RX3 48 "MirrorTower$Store" "now" "I") (by decide +kernel)
  have hw3 := hts (.fieldLink RX3 41 "MirrorTower$Store" "mostHeld" "[I") (by decide +kernel)
  have hw4 := hts (.fieldLink RX3 38 "MirrorTower$Store" "unitsIn" "[I") (by decide +kernel)
  have hw5 := hts (.fieldLink RX3 15 "MirrorTower$Store" "cells" "LMirrorTower$Face;") (by decide +kernel)
  obtain ⟨H, hH⟩ : ∃ H, H = s.heap := ⟨_, rfl⟩
  rw [← hH] at hP ⊢
  have hS : va_S A s.heap H [] := by rw [hH]; exact hS
  generalize ([] : List Loc) = locs at hS ⊢
  refine lv_aload_n hx hb dX3_lookAhead_0 rfl (lv_at hl 0 rfl) ?_
  refine va_get (D := (dC, dI)) (ci := 3) (v := .int (V 5)) (C := RX3) (T := TX3) (N := 14) hx hb hts hin_X3 hown hK hP 3 rfl rfl 4 (by decide) hw0 (fun _ h9 => h9) rfl dX3_lookAhead_1 ?_
  refine lv_topi (fun x_1 ex_1 => ?_)
  obtain rfl : x_1 = nI un := ex_1.trans (hV5)
  refine lv_istore_n (lv' := [(1, .int (nI un)), (0, .ref (h 3))]) hx hb dX3_lookAhead_4 rfl hl (by decide) rfl (fun ls hl => ?_)
  refine lv_aload_n hx hb dX3_lookAhead_5 rfl (lv_at hl 1 rfl) ?_
  refine va_get (D := (dC, dI)) (ci := 3) (v := .int (V 4)) (C := RX3) (T := TX3) (N := 14) hx hb hts hin_X3 hown hK hP 3 rfl rfl 3 (by decide) hw2 (fun _ h9 => h9) rfl dX3_lookAhead_6 ?_
  refine lv_topi (fun x_2 ex_2 => ?_)
  obtain rfl : x_2 = nI nw := ex_2.trans (hV4)
  refine lv_istore_n (lv' := [(2, .int (nI nw)), (1, .int (nI un)), (0, .ref (h 3))]) hx hb dX3_lookAhead_9 rfl hl (by decide) rfl (fun ls hl => ?_)
  have loop10 : ∀ (fu : Nat) (k : Nat) (mv : Nat) (F1 : Nat → Nat → Int32), (nw ≤ k) → (k ≤ 24) → (mv ≤ 200) → (mv = mhF (cmF F Hh So Wd Lm d n nw) nw un k) → (∀ i, nw ≤ i → i < k → F1 27 i = nI (cmF F Hh So Wd Lm d n nw i) ∧ F1 28 i = nI (mhF (cmF F Hh So Wd Lm d n nw) nw un i)) → (∀ j, j ∉ ([15, 16, 17, 18, 27, 28] : List Nat) → F1 j = F j) → (24 - k) < fu → ∀ (H : Heap) (locs : List Loc) (ls : Array Slot), va_P (dC, dI) vwCl (wC cI cZ h F1 V) H → va_D A (wC cI cZ h F1 V) → va_S A s.heap H locs → lv_has ls 3 [(0, .ref (h 3)), (1, .int (nI mv)), (2, .int (nI k))] → W p l e rm_X3_lookAhead s m args below meth c H locs 0 0 Q (F0 m 10 ls []) := by
    intro fu
    induction fu with
    | zero => intro k mv F1 hk1 hk2 hm2 hmv hq hfr hn_; exact absurd hn_ (Nat.not_lt_zero _)
    | succ fu ih10 =>
      intro k mv F1 hk1 hk2 hm2 hmv hq hfr hn_ H locs ls hP hD hS hl
      have hN_3 : ∀ i, i < 40 → F1 9 i = nI (So i) := by rw [hfr 9 (by decide)]; exact hSo
      have hN_4 : ∀ i, i < 24 → F1 12 i = nI (Hh i) := by rw [hfr 12 (by decide)]; exact hHh
      have hN_5 : ∀ i, i < 24 → F1 13 i = nI (Wd i) := by rw [hfr 13 (by decide)]; exact hWd
      have hN_6 : ∀ i, i < 4 → F1 14 i = nI (Lm i) := by rw [hfr 14 (by decide)]; exact hLm
      refine lv_iload_n hx hb dX3_lookAhead_10 rfl (lv_at hl 2 rfl) ?_
      refine lv_bipush (v := 24) hx hb dX3_lookAhead_11 (by decide) ?_
      refine lv_icmp_ge (tgt := 63) hx hb dX3_lookAhead_13 (by decide) (fun c_7 => ?_) (fun c_7 => ?_)
      · have c_7 : 24 ≤ k := (nI_leI (a := 24) (b := k) (by omega) (by omega)).mp c_7
        exact hret F1 H locs 63 ls dX3_lookAhead_63 (⟨hfr, fun i h1 h2 => hq i h1 (by omega)⟩) (hP) (hD) hS
      · have c_7 : ¬ 24 ≤ k := fun h => c_7 ((nI_leI (a := 24) (b := k) (by omega) (by omega)).mpr h)
        refine lv_aload_n hx hb dX3_lookAhead_16 rfl (lv_at hl 0 rfl) ?_
        refine va_get (D := (dC, dI)) (ci := 3) (v := .ref (h 28)) (C := RX3) (T := TX3) (N := 14) hx hb hts hin_X3 hown hK hP 3 rfl rfl 11 (by decide) hw3 (fun _ h9 => h9) rfl dX3_lookAhead_17 ?_
        refine lv_iload_n hx hb dX3_lookAhead_20 rfl (lv_at hl 2 rfl) ?_
        refine lv_iload_n hx hb dX3_lookAhead_21 rfl (lv_at hl 1 rfl) ?_
        refine va_iast hx hb hK hP hD hS 28 0 rfl rfl (vp_in_nI (n := k) (N := 24) (by omega) (by decide)) dX3_lookAhead_22 (fun H locs hP hD hS => ?_)
        obtain ⟨F_8, eF_8⟩ : ∃ z : Nat → Nat → Int32, z = va_up F1 28 (upd (F1 28) (nI k).toNatClampNeg (nI mv)) := ⟨_, rfl⟩
        have hP : va_P (dC, dI) vwCl (wC cI cZ h F_8 V) H := by rw [eF_8]; exact hP
        have hD : va_D A (wC cI cZ h F_8 V) := by rw [eF_8]; exact hD
        have hN_9 : ∀ i, i < 40 → F_8 9 i = nI (So i) := by rw [eF_8]; exact hN_3
        have hN_10 : ∀ i, i < 24 → F_8 12 i = nI (Hh i) := by rw [eF_8]; exact hN_4
        have hN_11 : ∀ i, i < 24 → F_8 13 i = nI (Wd i) := by rw [eF_8]; exact hN_5
        have hN_12 : ∀ i, i < 4 → F_8 14 i = nI (Lm i) := by rw [eF_8]; exact hN_6
        refine lv_aload_n hx hb dX3_lookAhead_23 rfl (lv_at hl 0 rfl) ?_
        refine va_get (D := (dC, dI)) (ci := 3) (v := .ref (h 27)) (C := RX3) (T := TX3) (N := 14) hx hb hts hin_X3 hown hK hP 3 rfl rfl 10 (by decide) hw4 (fun _ h9 => h9) rfl dX3_lookAhead_24 ?_
        refine lv_iload_n hx hb dX3_lookAhead_27 rfl (lv_at hl 2 rfl) ?_
        refine lv_aload_n hx hb dX3_lookAhead_28 rfl (lv_at hl 0 rfl) ?_
        refine va_get (D := (dC, dI)) (ci := 3) (v := .ref (h 2)) (C := RX3) (T := TX3) (N := 14) hx hb hts hin_X3 hown hK hP 3 rfl rfl 1 (by decide) hw5 (fun _ h9 => h9) rfl dX3_lookAhead_29 ?_
        refine lv_iload_n hx hb dX3_lookAhead_32 rfl (lv_at hl 2 rfl) ?_
        refine lv_iload_n hx hb dX3_lookAhead_33 rfl (lv_at hl 2 rfl) ?_
        refine lv_aload_n hx hb dX3_lookAhead_34 rfl (lv_at hl 0 rfl) ?_
        refine va_get (D := (dC, dI)) (ci := 3) (v := .int (V 4)) (C := RX3) (T := TX3) (N := 14) hx hb hts hin_X3 hown hK hP 3 rfl rfl 3 (by decide) hw2 (fun _ h9 => h9) rfl dX3_lookAhead_35 ?_
        refine lv_topi (fun x_13 ex_13 => ?_)
        obtain rfl : x_13 = nI nw := ex_13.trans (hV4)
        refine lv_isub hx hb dX3_lookAhead_38 ?_
        refine lv_topi (fun x_14 ex_14 => ?_)
        obtain rfl : x_14 = nI (k - nw) := ex_14.trans (pk_sub (a := k) (b := nw) (by omega))
        refine cw_Vi (As := [.int (nI k), .int (nI (k - nw))]) (rest := [.int (nI k), .ref (h 27)]) (c_X0_aimAll l dC dI cI cZ cJ h F_8 V n hV1 (by omega) d hV2 (by omega) So hN_9 bSo Hh hN_10 bHh Wd hN_11 bWd Lm hN_12 bLm k (k - nw) (by omega) (by omega)) fx (cwV 2 hts gX3_lookAhead_X0_aimAll rfl rfl rfl (by decide +kernel) ⟨Nat.le_of_ble_eq_true rfl, Nat.le_of_ble_eq_true rfl⟩) hK hP hD hS hA 2 rfl rfl rfl rfl hl.1 rfl (Nat.le_of_ble_eq_true rfl) dX3_lookAhead_39 ⟨Nat.le_of_ble_eq_true rfl, Nat.le_of_ble_eq_true rfl⟩ (fun r_15 u_16 H locs hw_17 hP hD hS => ?_)
        obtain ⟨F_18, rfl⟩ : ∃ z, z = u_16 := ⟨_, rfl⟩
        have hf_19 : ∀ j, j ∉ ([15, 16, 17, 18] : List Nat) → F_18 j = F_8 j := hw_17.2.1
        have hP : va_P (dC, dI) vwCl (wC cI cZ h F_18 V) H := hP
        have hD : va_D A (wC cI cZ h F_18 V) := hD
        have hN_20 : ∀ i, i < 40 → F_18 9 i = nI (So i) := by rw [hf_19 9 (by decide)]; exact hN_9
        have hN_21 : ∀ i, i < 24 → F_18 12 i = nI (Hh i) := by rw [hf_19 12 (by decide)]; exact hN_10
        have hN_22 : ∀ i, i < 24 → F_18 13 i = nI (Wd i) := by rw [hf_19 13 (by decide)]; exact hN_11
        have hN_23 : ∀ i, i < 4 → F_18 14 i = nI (Lm i) := by rw [hf_19 14 (by decide)]; exact hN_12
        have hN_24 : ∀ i, i < 4 → F_18 18 i = nI ((alF F_8 Hh So Wd Lm d n k (k - nw)) i) := hw_17.2.2.1
        have bN_25 : ∀ i, i < 4 → (alF F_8 Hh So Wd Lm d n k (k - nw)) i ≤ 10000 := hw_17.2.2.2.1
        have hb_26 : ahF F_8 Hh So Wd Lm d n k (k - nw) ≤ 4000 := ahF_le (by omega) (bHh k (by omega))
        obtain rfl : r_15 = nI (ahF F_8 Hh So Wd Lm d n k (k - nw)) := hw_17.1
        refine lv_bipush (v := 100) hx hb dX3_lookAhead_42 (by decide) ?_
        refine lv_idiv hx hb dX3_lookAhead_44 (by decide) ?_
        refine lv_topi (fun x_27 ex_27 => ?_)
        obtain rfl : x_27 = nI ((ahF F_8 Hh So Wd Lm d n k (k - nw)) / 100) := ex_27.trans (pk_div (a := ahF F_8 Hh So Wd Lm d n k (k - nw)) (d := 100) (by omega) (by omega) (by omega))
        refine va_iast hx hb hK hP hD hS 27 0 rfl rfl (vp_in_nI (n := k) (N := 24) (by omega) (by decide)) dX3_lookAhead_45 (fun H locs hP hD hS => ?_)
        obtain ⟨F_28, eF_28⟩ : ∃ z : Nat → Nat → Int32, z = va_up F_18 27 (upd (F_18 27) (nI k).toNatClampNeg (nI ((ahF F_8 Hh So Wd Lm d n k (k - nw)) / 100))) := ⟨_, rfl⟩
        have hP : va_P (dC, dI) vwCl (wC cI cZ h F_28 V) H := by rw [eF_28]; exact hP
        have hD : va_D A (wC cI cZ h F_28 V) := by rw [eF_28]; exact hD
        have hN_29 : ∀ i, i < 40 → F_28 9 i = nI (So i) := by rw [eF_28]; exact hN_20
        have hN_30 : ∀ i, i < 24 → F_28 12 i = nI (Hh i) := by rw [eF_28]; exact hN_21
        have hN_31 : ∀ i, i < 24 → F_28 13 i = nI (Wd i) := by rw [eF_28]; exact hN_22
        have hN_32 : ∀ i, i < 4 → F_28 14 i = nI (Lm i) := by rw [eF_28]; exact hN_23
        have hN_33 : ∀ i, i < 4 → F_28 18 i = nI ((alF F_8 Hh So Wd Lm d n k (k - nw)) i) := by rw [eF_28]; exact hN_24
        refine lv_iload_n hx hb dX3_lookAhead_46 rfl (lv_at hl 1 rfl) ?_
        refine lv_aload_n hx hb dX3_lookAhead_47 rfl (lv_at hl 0 rfl) ?_
        refine va_get (D := (dC, dI)) (ci := 3) (v := .ref (h 27)) (C := RX3) (T := TX3) (N := 14) hx hb hts hin_X3 hown hK hP 3 rfl rfl 10 (by decide) hw4 (fun _ h9 => h9) rfl dX3_lookAhead_48 ?_
        refine lv_iload_n hx hb dX3_lookAhead_51 rfl (lv_at hl 2 rfl) ?_
        refine va_iald hx hb hK hP 27 0 rfl rfl (vp_in_nI (n := k) (N := 24) (by omega) (by decide)) dX3_lookAhead_52 ?_
        have hE_34 : F_28 27 k = nI ((ahF F_8 Hh So Wd Lm d n k (k - nw)) / 100) := by rw [eF_28]; show upd _ (nI k).toNatClampNeg _ _ = _; rw [nI_clamp (by omega)]; exact pk_us
        refine lv_topi (fun x_35 ex_35 => ?_)
        obtain rfl : x_35 = nI ((ahF F_8 Hh So Wd Lm d n k (k - nw)) / 100) := ex_35.trans ((congrArg (F_28 27) (nI_clamp (n := k) (by omega))).trans hE_34)
        refine cw_Si (As := [.int (nI mv), .int (nI ((ahF F_8 Hh So Wd Lm d n k (k - nw)) / 100))]) (rest := []) (c_X3_filled l dC dI cI cZ cJ (wC cI cZ h F_28 V) mv ((ahF F_8 Hh So Wd Lm d n k (k - nw)) / 100) (by omega)) fx (va_cwS 2 hts gX3_lookAhead_X3_filled rfl rfl rfl (by decide +kernel) ⟨Nat.le_of_ble_eq_true rfl, Nat.le_of_ble_eq_true rfl⟩) hK hP hD hS hA rfl hl.1 rfl (Nat.le_of_ble_eq_true rfl) dX3_lookAhead_53 ⟨Nat.le_of_ble_eq_true rfl, Nat.le_of_ble_eq_true rfl⟩ (fun r_36 u_37 H locs hw_38 hP hD hS => ?_)
        have hP : va_P (dC, dI) vwCl (wC cI cZ h F_28 V) H := hP
        have hD : va_D A (wC cI cZ h F_28 V) := hD
        obtain rfl : r_36 = nI (min 200 (mv + ((ahF F_8 Hh So Wd Lm d n k (k - nw)) / 100))) := hw_38
        refine lv_istore_n (lv' := [(1, .int (nI (min 200 (mv + ((ahF F_8 Hh So Wd Lm d n k (k - nw)) / 100))))), (0, .ref (h 3)), (2, .int (nI k))]) hx hb dX3_lookAhead_56 rfl hl (by decide) rfl (fun ls hl => ?_)
        refine lv_iinc (v := nI (k + 1)) (lv' := [(2, .int (nI (k + 1))), (1, .int (nI (min 200 (mv + ((ahF F_8 Hh So Wd Lm d n k (k - nw)) / 100))))), (0, .ref (h 3))]) hx hb dX3_lookAhead_57 hl (k := 2) rfl (nI_1 _) (by decide) rfl (fun ls hl => ?_)
        refine lv_goto (tgt := 10) hx hb dX3_lookAhead_60 (by decide) ?_
        have hb_40 : ahF F_8 Hh So Wd Lm d n k (k - nw) = ahF F Hh So Wd Lm d n k (k - nw) := ahF_cong (fun j hj => by
          have h1 : j ∉ ([15, 16, 17, 18, 27, 28] : List Nat) := (by decide : ∀ x ∈ ([5, 6, 7, 8, 10, 11] : List Nat), x ∉ ([15, 16, 17, 18, 27, 28] : List Nat)) j hj
          have h2 : j ≠ 28 := (by decide : ∀ x ∈ ([5, 6, 7, 8, 10, 11] : List Nat), x ≠ 28) j hj
          rw [va_ne eF_8 h2]; exact hfr j h1)
        have hb_39 : ∀ i, nw ≤ i → i < k + 1 → F_28 27 i = nI (cmF F Hh So Wd Lm d n nw i) ∧ F_28 28 i = nI (mhF (cmF F Hh So Wd Lm d n nw) nw un i) := fun i h1 h2 => by
          have q27 : F_18 27 = F1 27 := by rw [hf_19 27 (by decide), eF_8]; rfl
          have q28 : F_18 28 = upd (F1 28) (nI k).toNatClampNeg (nI mv) := by rw [hf_19 28 (by decide), eF_8]; rfl
          rw [nI_clamp (by omega)] at q28
          rw [eF_28]
          refine ⟨?_, ?_⟩
          · show upd (F_18 27) (nI k).toNatClampNeg _ i = _
            rw [nI_clamp (by omega), q27]
            by_cases h : i = k
            · rw [h, pk_us, hb_40]; rfl
            · rw [pk_un h]; exact (hq i h1 (by omega)).1
          · show F_18 28 i = _
            rw [q28]
            by_cases h : i = k
            · rw [h, pk_us, hmv]
            · rw [pk_un h]; exact (hq i h1 (by omega)).2
        exact ih10 (k + 1) (min 200 (mv + ((ahF F_8 Hh So Wd Lm d n k (k - nw)) / 100))) F_28 (by omega) (by omega) (by omega) (by rw [mhF_up (cmF F Hh So Wd Lm d n nw) (by omega), ← hmv, cmF, ← hb_40]) hb_39 (fun j hj => ((va_ne eF_28 (fun h => hj (by rw [h]; decide))).trans ((hf_19 j (fun h => hj ((by decide : ∀ x ∈ ([15, 16, 17, 18] : List Nat), x ∈ ([15, 16, 17, 18, 27, 28] : List Nat)) j h))).trans ((va_ne eF_8 (fun h => hj (by rw [h]; decide))).trans (hfr j hj))))) (by omega) H locs ls hP hD hS (lv_sub hl [2, 1, 0] rfl)
  exact loop10 _ nw un F (by omega) (by omega) (by omega) ((mhF_at _ _ _ _ (Nat.le_refl nw)).symm) (fun i h1 h2 => absurd h1 (by omega)) (fun _ _ => rfl) (Nat.lt_succ_self _) H locs ls hP hD hS (lv_sub hl [2, 1, 0] rfl)
