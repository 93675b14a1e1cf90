def rm_X5_aims : Room := { frames := 3, cells := 0, slots := 0, locals := 77 }
set_option maxHeartbeats 4000000 in
set_option maxRecDepth 100000 in
theorem c_X5_aims (l : Launch) (dC : Nat → ClassId) (dI : Nat → Nat → Nat) (cI cZ cJ : ClassId) (h : Nat → Nat) (F : Nat → Nat → Int32) (G : Nat → Int64) (V : Nat → Int32) (n : Nat) (hV2 : V 2 = nI n) (bV2 : n ≤ 40) (So : Nat → Nat) (hSo : ∀ i, i < 40 → F 3 i = nI (So i)) (bSo : ∀ i, i < 40 → So i ≤ 90) (Hh : Nat → Nat) (hHh : ∀ i, i < 24 → F 7 i = nI (Hh i)) (bHh : ∀ i, i < 24 → Hh i ≤ 9) (Wd : Nat → Nat) (hWd : ∀ i, i < 24 → F 8 i = nI (Wd i)) (bWd : ∀ i, i < 24 → Wd i ≤ 99) (Lm : Nat → Nat) (hLm : ∀ i, i < 4 → F 4 i = nI (Lm i)) (bLm : ∀ i, i < 4 → Lm i ≤ 10000) (k1 mo : Nat) (hk1 : k1 < 24) (hmo : mo ≤ 460)   : CtI l (dC, dI) vwCl (tys3 cI cZ cJ) yX5_aims wsX5_aims rm_X5_aims [.ref (h 0), .int (nI k1), .int (nI mo)] (wM cI cZ cJ h F G V) (S := Nat → Nat → Int32) (fun r u => ∃ P : Nat → Nat, (∀ i, i < n → P i ≤ 100) ∧ r = nI (aimH P (ordn P n) Lm n) ∧ (∀ j, j ∉ ([10, 11, 12, 14] : List Nat) → u j = F j) ∧ (∀ i, i < 4 → u 12 i = nI (aimL P (ordn P n) Lm n i)) ∧ (∀ i, i < 4 → aimL P (ordn P n) Lm n i ≤ 10000) ∧ u 14 = aimC P (ordn P n) Lm (F 14) n ∧ ∀ i, i < n → u 11 i = nI (P i)) (fun u => wM cI cZ cJ h u G V) 0 0 := by
  refine ct_I (cc := cX5_aims) (maxL := 8) (ty := .int) (own := RX5) (by decide) rfl rfl (Nat.le_of_ble_eq_true rfl) (lv := [(0, .ref (h 0)), (1, .int (nI k1)), (2, .int (nI mo))]) rfl ?_
  intro p e s m args below meth c A Q ls fx hK hP hD hA hl hret
  obtain ⟨hx, hb, hml, hown, hts⟩ := id fx
  have hS : va_S A s.heap s.heap [] := va_S.rf
  have hw0 := hts (.fieldLink RX5 53 "MirrorTowerModel" "left" "[I") (by decide +kernel)
  have hin_X5 : ∀ w ∈ u_ws RX5 TX5 33, w ∈ wsX5_aims := by decide +kernel
  have hw2 := hts (.fieldLink RX5 29 "MirrorTowerModel" "limit" "[I") (by decide +kernel)
  have hw3 := hts (.fieldLink RX5 91 "MirrorTowerModel" "mirrors" "I") (by decide +kernel)
  have hw4 := hts (.fieldLink RX5 47 "MirrorTowerModel" "order" "[I") (by decide +kernel)
  have hw5 := hts (.fieldLink RX5 59 "MirrorTowerModel" "at" "[I") (by decide +kernel)
  have hw6 := hts (.fieldLink RX5 50 "MirrorTowerModel" "power" "[I") (by decide +kernel)
  obtain ⟨H, hH⟩ : ∃ H, H = s.heap := ⟨_, rfl⟩
  rw [← hH] at hP ⊢
  have hS : va_S A s.heap H [] := by rw [hH]; exact hS
  generalize ([] : List Loc) = locs at hS ⊢
  refine lv_aload_n hx hb dX5_aims_0 rfl (lv_at hl 0 rfl) ?_
  refine lv_iload_n hx hb dX5_aims_1 rfl (lv_at hl 1 rfl) ?_
  refine lv_iload_n hx hb dX5_aims_2 rfl (lv_at hl 2 rfl) ?_
  refine cw_Vv (As := [.int (nI k1), .int (nI mo)]) (rest := []) (c_X5_orders l dC dI cI cZ cJ h F G V n hV2 (by omega) So hSo bSo Hh hHh bHh Wd hWd bWd k1 mo (by omega) (by omega)) fx (cwV 2 hts gX5_aims_X5_orders rfl rfl rfl (by decide +kernel) ⟨Nat.le_of_ble_eq_true rfl, Nat.le_of_ble_eq_true rfl⟩) hK hP hD hS hA 0 rfl rfl rfl rfl hl.1 rfl (Nat.le_of_ble_eq_true rfl) dX5_aims_3 ⟨Nat.le_of_ble_eq_true rfl, Nat.le_of_ble_eq_true rfl⟩ (fun u_2 H locs hw_3 hP hD hS => ?_)
  obtain ⟨F_4, rfl⟩ : ∃ z, z = u_2 := ⟨_, rfl⟩
  have hf_5 : ∀ j, j ∉ ([10, 11] : List Nat) → F_4 j = F j := hw_3.1
  have hP : va_P (dC, dI) vwCl (wM cI cZ cJ h F_4 G V) H := hP
  have hD : va_D A (wM cI cZ cJ h F_4 G V) := hD
  have hN_6 : ∀ i, i < 40 → F_4 3 i = nI (So i) := by rw [hf_5 3 (by decide)]; exact hSo
  have hN_7 : ∀ i, i < 24 → F_4 7 i = nI (Hh i) := by rw [hf_5 7 (by decide)]; exact hHh
  have hN_8 : ∀ i, i < 24 → F_4 8 i = nI (Wd i) := by rw [hf_5 8 (by decide)]; exact hWd
  have hN_9 : ∀ i, i < 4 → F_4 4 i = nI (Lm i) := by rw [hf_5 4 (by decide)]; exact hLm
  obtain ⟨Pq_10, hN_11, bN_12, hN_13⟩ := hw_3.2
  obtain ⟨Oq_14, eOq_14⟩ : ∃ z : Nat → Nat, z = ordn Pq_10 n := ⟨_, rfl⟩
  rw [← eOq_14] at hN_13
  have bN_15 : ∀ i, i < n → Oq_14 i ≤ n - 1 := by rw [eOq_14]; exact fun i hi => by have := ordn_lt Pq_10 n i hi; omega
  refine lv_iconst (v := 0) hx hb dX5_aims_6 (by decide) ?_
  refine lv_istore_n (lv' := [(3, .int 0), (0, .ref (h 0)), (1, .int (nI k1)), (2, .int (nI mo))]) hx hb dX5_aims_7 rfl hl (by decide) rfl (fun ls hl => ?_)
  refine lv_iload_n hx hb dX5_aims_8 rfl (lv_at hl 0 rfl) ?_
  refine lv_iconst (v := 4) hx hb dX5_aims_9 (by decide) ?_
  refine lv_icmp_ge (tgt := 31) hx hb dX5_aims_10 (by decide) (fun c_16 => ?_) (fun c_16 => ?_)
  · exact absurd c_16 (by decide)
  · refine lv_aload_n hx hb dX5_aims_13 rfl (lv_at hl 1 rfl) ?_
    refine va_get (D := (dC, dI)) (ci := 5) (v := .ref (h 12)) (C := RX5) (T := TX5) (N := 33) hx hb hts hin_X5 hown hK hP 0 rfl rfl 19 (by decide) hw0 (fun _ h9 => h9) rfl dX5_aims_14 ?_
    refine lv_iload_n hx hb dX5_aims_17 rfl (lv_at hl 0 rfl) ?_
    refine lv_aload_n hx hb dX5_aims_18 rfl (lv_at hl 1 rfl) ?_
    refine va_get (D := (dC, dI)) (ci := 5) (v := .ref (h 4)) (C := RX5) (T := TX5) (N := 33) hx hb hts hin_X5 hown hK hP 0 rfl rfl 11 (by decide) hw2 (fun _ h9 => h9) rfl dX5_aims_19 ?_
    refine lv_iload_n hx hb dX5_aims_22 rfl (lv_at hl 0 rfl) ?_
    refine va_iald hx hb hK hP 4 0 rfl rfl (vp_in_nI (n := 0) (N := 4) (by decide) (by decide)) dX5_aims_23 ?_
    have hb_17 := bLm 0 (by omega)
    refine lv_topi (fun x_18 ex_18 => ?_)
    obtain rfl : x_18 = nI (Lm 0) := ex_18.trans ((congrArg (F_4 4) (by decide : (0 : Int32).toNatClampNeg = 0)).trans (hN_9 0 (by omega)))
    refine va_iast hx hb hK hP hD hS 12 0 rfl rfl (vp_in_nI (n := 0) (N := 4) (by decide) (by decide)) dX5_aims_24 (fun H locs hP hD hS => ?_)
    obtain ⟨F_19, eF_19⟩ : ∃ z : Nat → Nat → Int32, z = va_up F_4 12 (upd (F_4 12) (0 : Int32).toNatClampNeg (nI (Lm 0))) := ⟨_, rfl⟩
    have hP : va_P (dC, dI) vwCl (wM cI cZ cJ h F_19 G V) H := by rw [eF_19]; exact hP
    have hD : va_D A (wM cI cZ cJ h F_19 G V) := by rw [eF_19]; exact hD
    have hN_20 : ∀ i, i < 40 → F_19 3 i = nI (So i) := by rw [eF_19]; exact hN_6
    have hN_21 : ∀ i, i < 24 → F_19 7 i = nI (Hh i) := by rw [eF_19]; exact hN_7
    have hN_22 : ∀ i, i < 24 → F_19 8 i = nI (Wd i) := by rw [eF_19]; exact hN_8
    have hN_23 : ∀ i, i < 4 → F_19 4 i = nI (Lm i) := by rw [eF_19]; exact hN_9
    have hN_24 : ∀ i, i < n → F_19 11 i = nI (Pq_10 i) := by rw [eF_19]; exact hN_11
    have hN_25 : ∀ i, i < n → F_19 10 i = nI (Oq_14 i) := by rw [eF_19]; exact hN_13
    refine lv_iinc (v := 1) (lv' := [(3, .int 1), (0, .ref (h 0)), (1, .int (nI k1)), (2, .int (nI mo))]) hx hb dX5_aims_25 hl (k := 0) rfl (by decide) (by decide) rfl (fun ls hl => ?_)
    refine lv_goto (tgt := 8) hx hb dX5_aims_28 (by decide) ?_
    refine lv_iload_n hx hb dX5_aims_8 rfl (lv_at hl 0 rfl) ?_
    refine lv_iconst (v := 4) hx hb dX5_aims_9 (by decide) ?_
    refine lv_icmp_ge (tgt := 31) hx hb dX5_aims_10 (by decide) (fun c_26 => ?_) (fun c_26 => ?_)
    · exact absurd c_26 (by decide)
    · refine lv_aload_n hx hb dX5_aims_13 rfl (lv_at hl 1 rfl) ?_
      refine va_get (D := (dC, dI)) (ci := 5) (v := .ref (h 12)) (C := RX5) (T := TX5) (N := 33) hx hb hts hin_X5 hown hK hP 0 rfl rfl 19 (by decide) hw0 (fun _ h9 => h9) rfl dX5_aims_14 ?_
      refine lv_iload_n hx hb dX5_aims_17 rfl (lv_at hl 0 rfl) ?_
      refine lv_aload_n hx hb dX5_aims_18 rfl (lv_at hl 1 rfl) ?_
      refine va_get (D := (dC, dI)) (ci := 5) (v := .ref (h 4)) (C := RX5) (T := TX5) (N := 33) hx hb hts hin_X5 hown hK hP 0 rfl rfl 11 (by decide) hw2 (fun _ h9 => h9) rfl dX5_aims_19 ?_
      refine lv_iload_n hx hb dX5_aims_22 rfl (lv_at hl 0 rfl) ?_
      refine va_iald hx hb hK hP 4 0 rfl rfl (vp_in_nI (n := 1) (N := 4) (by decide) (by decide)) dX5_aims_23 ?_
      have hb_27 := bLm 1 (by omega)
      refine lv_topi (fun x_28 ex_28 => ?_)
      obtain rfl : x_28 = nI (Lm 1) := ex_28.trans ((congrArg (F_19 4) (by decide : (1 : Int32).toNatClampNeg = 1)).trans (hN_23 1 (by omega)))
      refine va_iast hx hb hK hP hD hS 12 0 rfl rfl (vp_in_nI (n := 1) (N := 4) (by decide) (by decide)) dX5_aims_24 (fun H locs hP hD hS => ?_)
      obtain ⟨F_29, eF_29⟩ : ∃ z : Nat → Nat → Int32, z = va_up F_19 12 (upd (F_19 12) (1 : Int32).toNatClampNeg (nI (Lm 1))) := ⟨_, rfl⟩
      have hP : va_P (dC, dI) vwCl (wM cI cZ cJ h F_29 G V) H := by rw [eF_29]; exact hP
      have hD : va_D A (wM cI cZ cJ h F_29 G V) := by rw [eF_29]; exact hD
      have hN_30 : ∀ i, i < 40 → F_29 3 i = nI (So i) := by rw [eF_29]; exact hN_20
      have hN_31 : ∀ i, i < 24 → F_29 7 i = nI (Hh i) := by rw [eF_29]; exact hN_21
      have hN_32 : ∀ i, i < 24 → F_29 8 i = nI (Wd i) := by rw [eF_29]; exact hN_22
      have hN_33 : ∀ i, i < 4 → F_29 4 i = nI (Lm i) := by rw [eF_29]; exact hN_23
      have hN_34 : ∀ i, i < n → F_29 11 i = nI (Pq_10 i) := by rw [eF_29]; exact hN_24
      have hN_35 : ∀ i, i < n → F_29 10 i = nI (Oq_14 i) := by rw [eF_29]; exact hN_25
      refine lv_iinc (v := 2) (lv' := [(3, .int 2), (0, .ref (h 0)), (1, .int (nI k1)), (2, .int (nI mo))]) hx hb dX5_aims_25 hl (k := 0) rfl (by decide) (by decide) rfl (fun ls hl => ?_)
      refine lv_goto (tgt := 8) hx hb dX5_aims_28 (by decide) ?_
      refine lv_iload_n hx hb dX5_aims_8 rfl (lv_at hl 0 rfl) ?_
      refine lv_iconst (v := 4) hx hb dX5_aims_9 (by decide) ?_
      refine lv_icmp_ge (tgt := 31) hx hb dX5_aims_10 (by decide) (fun c_36 => ?_) (fun c_36 => ?_)
      · exact absurd c_36 (by decide)
      · refine lv_aload_n hx hb dX5_aims_13 rfl (lv_at hl 1 rfl) ?_
        refine va_get (D := (dC, dI)) (ci := 5) (v := .ref (h 12)) (C := RX5) (T := TX5) (N := 33) hx hb hts hin_X5 hown hK hP 0 rfl rfl 19 (by decide) hw0 (fun _ h9 => h9) rfl dX5_aims_14 ?_
        refine lv_iload_n hx hb dX5_aims_17 rfl (lv_at hl 0 rfl) ?_
        refine lv_aload_n hx hb dX5_aims_18 rfl (lv_at hl 1 rfl) ?_
        refine va_get (D := (dC, dI)) (ci := 5) (v := .ref (h 4)) (C := RX5) (T := TX5) (N := 33) hx hb hts hin_X5 hown hK hP 0 rfl rfl 11 (by decide) hw2 (fun _ h9 => h9) rfl dX5_aims_19 ?_
        refine lv_iload_n hx hb dX5_aims_22 rfl (lv_at hl 0 rfl) ?_
        refine va_iald hx hb hK hP 4 0 rfl rfl (vp_in_nI (n := 2) (N := 4) (by decide) (by decide)) dX5_aims_23 ?_
        have hb_37 := bLm 2 (by omega)
        refine lv_topi (fun x_38 ex_38 => ?_)
        obtain rfl : x_38 = nI (Lm 2) := ex_38.trans ((congrArg (F_29 4) (by decide : (2 : Int32).toNatClampNeg = 2)).trans (hN_33 2 (by omega)))
        refine va_iast hx hb hK hP hD hS 12 0 rfl rfl (vp_in_nI (n := 2) (N := 4) (by decide) (by decide)) dX5_aims_24 (fun H locs hP hD hS => ?_)
        obtain ⟨F_39, eF_39⟩ : ∃ z : Nat → Nat → Int32, z = va_up F_29 12 (upd (F_29 12) (2 : Int32).toNatClampNeg (nI (Lm 2))) := ⟨_, rfl⟩
        have hP : va_P (dC, dI) vwCl (wM cI cZ cJ h F_39 G V) H := by rw [eF_39]; exact hP
        have hD : va_D A (wM cI cZ cJ h F_39 G V) := by rw [eF_39]; exact hD
        have hN_40 : ∀ i, i < 40 → F_39 3 i = nI (So i) := by rw [eF_39]; exact hN_30
        have hN_41 : ∀ i, i < 24 → F_39 7 i = nI (Hh i) := by rw [eF_39]; exact hN_31
        have hN_42 : ∀ i, i < 24 → F_39 8 i = nI (Wd i) := by rw [eF_39]; exact hN_32
        have hN_43 : ∀ i, i < 4 → F_39 4 i = nI (Lm i) := by rw [eF_39]; exact hN_33
        have hN_44 : ∀ i, i < n → F_39 11 i = nI (Pq_10 i) := by rw [eF_39]; exact hN_34
        have hN_45 : ∀ i, i < n → F_39 10 i = nI (Oq_14 i) := by rw [eF_39]; exact hN_35
        refine lv_iinc (v := 3) (lv' := [(3, .int 3), (0, .ref (h 0)), (1, .int (nI k1)), (2, .int (nI mo))]) hx hb dX5_aims_25 hl (k := 0) rfl (by decide) (by decide) rfl (fun ls hl => ?_)
        refine lv_goto (tgt := 8) hx hb dX5_aims_28 (by decide) ?_
        refine lv_iload_n hx hb dX5_aims_8 rfl (lv_at hl 0 rfl) ?_
        refine lv_iconst (v := 4) hx hb dX5_aims_9 (by decide) ?_
        refine lv_icmp_ge (tgt := 31) hx hb dX5_aims_10 (by decide) (fun c_46 => ?_) (fun c_46 => ?_)
        · exact absurd c_46 (by decide)
        · refine lv_aload_n hx hb dX5_aims_13 rfl (lv_at hl 1 rfl) ?_
          refine va_get (D := (dC, dI)) (ci := 5) (v := .ref (h 12)) (C := RX5) (T := TX5) (N := 33) hx hb hts hin_X5 hown hK hP 0 rfl rfl 19 (by decide) hw0 (fun _ h9 => h9) rfl dX5_aims_14 ?_
          refine lv_iload_n hx hb dX5_aims_17 rfl (lv_at hl 0 rfl) ?_
          refine lv_aload_n hx hb dX5_aims_18 rfl (lv_at hl 1 rfl) ?_
          refine va_get (D := (dC, dI)) (ci := 5) (v := .ref (h 4)) (C := RX5) (T := TX5) (N := 33) hx hb hts hin_X5 hown hK hP 0 rfl rfl 11 (by decide) hw2 (fun _ h9 => h9) rfl dX5_aims_19 ?_
          refine lv_iload_n hx hb dX5_aims_22 rfl (lv_at hl 0 rfl) ?_
          refine va_iald hx hb hK hP 4 0 rfl rfl (vp_in_nI (n := 3) (N := 4) (by decide) (by decide)) dX5_aims_23 ?_
          have hb_47 := bLm 3 (by omega)
          refine lv_topi (fun x_48 ex_48 => ?_)
          obtain rfl : x_48 = nI (Lm 3) := ex_48.trans ((congrArg (F_39 4) (by decide : (3 : Int32).toNatClampNeg = 3)).trans (hN_43 3 (by omega)))
          refine va_iast hx hb hK hP hD hS 12 0 rfl rfl (vp_in_nI (n := 3) (N := 4) (by decide) (by decide)) dX5_aims_24 (fun H locs hP hD hS => ?_)
          obtain ⟨F_49, eF_49⟩ : ∃ z : Nat → Nat → Int32, z = va_up F_39 12 (upd (F_39 12) (3 : Int32).toNatClampNeg (nI (Lm 3))) := ⟨_, rfl⟩
          have hP : va_P (dC, dI) vwCl (wM cI cZ cJ h F_49 G V) H := by rw [eF_49]; exact hP
          have hD : va_D A (wM cI cZ cJ h F_49 G V) := by rw [eF_49]; exact hD
          have hN_50 : ∀ i, i < 40 → F_49 3 i = nI (So i) := by rw [eF_49]; exact hN_40
          have hN_51 : ∀ i, i < 24 → F_49 7 i = nI (Hh i) := by rw [eF_49]; exact hN_41
          have hN_52 : ∀ i, i < 24 → F_49 8 i = nI (Wd i) := by rw [eF_49]; exact hN_42
          have hN_53 : ∀ i, i < 4 → F_49 4 i = nI (Lm i) := by rw [eF_49]; exact hN_43
          have hN_54 : ∀ i, i < n → F_49 11 i = nI (Pq_10 i) := by rw [eF_49]; exact hN_44
          have hN_55 : ∀ i, i < n → F_49 10 i = nI (Oq_14 i) := by rw [eF_49]; exact hN_45
          refine lv_iinc (v := 4) (lv' := [(3, .int 4), (0, .ref (h 0)), (1, .int (nI k1)), (2, .int (nI mo))]) hx hb dX5_aims_25 hl (k := 0) rfl (by decide) (by decide) rfl (fun ls hl => ?_)
          refine lv_goto (tgt := 8) hx hb dX5_aims_28 (by decide) ?_
          refine lv_iload_n hx hb dX5_aims_8 rfl (lv_at hl 0 rfl) ?_
          refine lv_iconst (v := 4) hx hb dX5_aims_9 (by decide) ?_
          refine lv_icmp_ge (tgt := 31) hx hb dX5_aims_10 (by decide) (fun c_56 => ?_) (fun c_56 => ?_)
          · have hN_57 : ∀ i, i < 4 → F_49 12 i = nI (Lm i) := by
              intro i hi
              rw [eF_49, eF_39, eF_29, eF_19]
              match i, hi with
              | 0, _ => rfl
              | 1, _ => rfl
              | 2, _ => rfl
              | 3, _ => rfl
              | i + 4, hi => exact absurd hi (by omega)
            have hfb : ∀ j, j ∉ ([10, 11, 12, 14] : List Nat) → F_49 j = F j := fun j hj => ((va_ne eF_49 (fun h => hj (by rw [h]; decide))).trans ((va_ne eF_39 (fun h => hj (by rw [h]; decide))).trans ((va_ne eF_29 (fun h => hj (by rw [h]; decide))).trans ((va_ne eF_19 (fun h => hj (by rw [h]; decide))).trans (hf_5 j (fun h => hj ((by decide : ∀ x ∈ ([10, 11] : List Nat), x ∈ ([10, 11, 12, 14] : List Nat)) j h)))))))
            have hc0 : F_49 14 = F 14 := (show ∀ j, j ∉ ([10, 11, 12] : List Nat) → F_49 j = F j from fun j hj => ((va_ne eF_49 (fun h => hj (by rw [h]; decide))).trans ((va_ne eF_39 (fun h => hj (by rw [h]; decide))).trans ((va_ne eF_29 (fun h => hj (by rw [h]; decide))).trans ((va_ne eF_19 (fun h => hj (by rw [h]; decide))).trans (hf_5 j (fun h => hj ((by decide : ∀ x ∈ ([10, 11] : List Nat), x ∈ ([10, 11, 12] : List Nat)) j h)))))))) 14 (by decide)
            refine lv_iconst (v := 0) hx hb dX5_aims_31 (by decide) ?_
            refine lv_istore_n (lv' := [(3, .int 0), (0, .ref (h 0)), (1, .int (nI k1)), (2, .int (nI mo))]) hx hb dX5_aims_32 rfl hl (by decide) rfl (fun ls hl => ?_)
            refine lv_iconst (v := 0) hx hb dX5_aims_33 (by decide) ?_
            refine lv_istore (lv' := [(4, .int 0), (3, .int 0), (0, .ref (h 0)), (1, .int (nI k1)), (2, .int (nI mo))]) hx hb dX5_aims_34 hl (by decide) rfl (fun ls hl => ?_)
            have loop36 : ∀ (fu : Nat) (t : Nat) (hv : Nat) (F1 : Nat → Nat → Int32), (t ≤ n) → (hv = aimH Pq_10 Oq_14 Lm t) → (∀ i, i < 4 → F1 12 i = nI (aimL Pq_10 Oq_14 Lm t i)) → (∀ i, i < 4 → aimL Pq_10 Oq_14 Lm t i ≤ 10000) → (F1 14 = aimC Pq_10 Oq_14 Lm (F_49 14) t) → (∀ j, j ∉ ([12, 14] : List Nat) → F1 j = F_49 j) → (n - t) < fu → ∀ (H : Heap) (locs : List Loc) (ls : Array Slot), va_P (dC, dI) vwCl (wM cI cZ cJ h F1 G V) H → va_D A (wM cI cZ cJ h F1 G V) → va_S A s.heap H locs → lv_has ls 8 [(0, .ref (h 0)), (1, .int (nI k1)), (2, .int (nI mo)), (3, .int (nI hv)), (4, .int (nI t))] → W p l e rm_X5_aims s m args below meth c H locs 0 0 Q (F0 m 36 ls []) := by
              intro fu
              induction fu with
              | zero => intro t hv F1 ht hh hL bL hC hfr hn_; exact absurd hn_ (Nat.not_lt_zero _)
              | succ fu ih36 =>
                intro t hv F1 ht hh hL bL hC hfr hn_ H locs ls hP hD hS hl
                have hN_58 : ∀ i, i < 40 → F1 3 i = nI (So i) := by rw [hfr 3 (by decide)]; exact hN_50
                have hN_59 : ∀ i, i < 24 → F1 7 i = nI (Hh i) := by rw [hfr 7 (by decide)]; exact hN_51
                have hN_60 : ∀ i, i < 24 → F1 8 i = nI (Wd i) := by rw [hfr 8 (by decide)]; exact hN_52
                have hN_61 : ∀ i, i < 4 → F1 4 i = nI (Lm i) := by rw [hfr 4 (by decide)]; exact hN_53
                have hN_62 : ∀ i, i < n → F1 11 i = nI (Pq_10 i) := by rw [hfr 11 (by decide)]; exact hN_54
                have hN_63 : ∀ i, i < n → F1 10 i = nI (Oq_14 i) := by rw [hfr 10 (by decide)]; exact hN_55
                refine lv_iload hx hb dX5_aims_36 (lv_at hl 4 rfl) ?_
                refine lv_aload_n hx hb dX5_aims_38 rfl (lv_at hl 0 rfl) ?_
                refine va_get (D := (dC, dI)) (ci := 5) (v := .int (V 2)) (C := RX5) (T := TX5) (N := 33) hx hb hts hin_X5 hown hK hP 0 rfl rfl 2 (by decide) hw3 (fun _ h9 => h9) rfl dX5_aims_39 ?_
                refine lv_topi (fun x_64 ex_64 => ?_)
                obtain rfl : x_64 = nI n := ex_64.trans (hV2)
                refine lv_icmp_ge (tgt := 172) hx hb dX5_aims_42 (by decide) (fun c_65 => ?_) (fun c_65 => ?_)
                · have c_65 : n ≤ t := (nI_leI (a := n) (b := t) (by omega) (by omega)).mp c_65
                  refine lv_iload_n hx hb dX5_aims_172 rfl (lv_at hl 3 rfl) ?_
                  exact hret (nI hv) F1 H locs 173 ls rfl dX5_aims_173 (by
                              obtain rfl : t = n := by omega
                              refine ⟨Pq_10, bN_12, ?_⟩
                              rw [← eOq_14]
                              exact ⟨by rw [hh], fun j hj => (hfr j (fun z => hj ((by decide : ∀ x ∈ ([12, 14] : List Nat), x ∈ ([10, 11, 12, 14] : List Nat)) j z))).trans (hfb j hj), hL, bL, by rw [hC, hc0], hN_62⟩) (hP) (hD) hS
                · have c_65 : ¬ n ≤ t := fun h => c_65 ((nI_leI (a := n) (b := t) (by omega) (by omega)).mpr h)
                  refine lv_aload_n hx hb dX5_aims_45 rfl (lv_at hl 0 rfl) ?_
                  refine va_get (D := (dC, dI)) (ci := 5) (v := .ref (h 10)) (C := RX5) (T := TX5) (N := 33) hx hb hts hin_X5 hown hK hP 0 rfl rfl 17 (by decide) hw4 (fun _ h9 => h9) rfl dX5_aims_46 ?_
                  refine lv_iload hx hb dX5_aims_49 (lv_at hl 4 rfl) ?_
                  refine va_iald hx hb hK hP 10 0 rfl rfl (vp_in_nI (n := t) (N := 40) (by omega) (by decide)) dX5_aims_51 ?_
                  have hb_66 := bN_15 t (by omega)
                  refine lv_topi (fun x_67 ex_67 => ?_)
                  obtain rfl : x_67 = nI (Oq_14 t) := ex_67.trans ((congrArg (F1 10) (nI_clamp (n := t) (by omega))).trans (hN_63 t (by omega)))
                  refine lv_istore (lv' := [(5, .int (nI (Oq_14 t))), (0, .ref (h 0)), (1, .int (nI k1)), (2, .int (nI mo)), (3, .int (nI hv)), (4, .int (nI t))]) hx hb dX5_aims_52 hl (by decide) rfl (fun ls hl => ?_)
                  refine lv_iconst (v := 0) hx hb dX5_aims_54 (by decide) ?_
                  refine lv_istore (lv' := [(6, .int 0), (5, .int (nI (Oq_14 t))), (0, .ref (h 0)), (1, .int (nI k1)), (2, .int (nI mo)), (3, .int (nI hv)), (4, .int (nI t))]) hx hb dX5_aims_55 hl (by decide) rfl (fun ls hl => ?_)
                  refine lv_iconst (v := 1) hx hb dX5_aims_57 (by decide) ?_
                  refine lv_istore (lv' := [(7, .int 1), (6, .int 0), (5, .int (nI (Oq_14 t))), (0, .ref (h 0)), (1, .int (nI k1)), (2, .int (nI mo)), (3, .int (nI hv)), (4, .int (nI t))]) hx hb dX5_aims_58 hl (by decide) rfl (fun ls hl => ?_)
                  have loop60 : ∀ (fu : Nat) (cc : Nat) (b : Nat), (1 ≤ cc) → (cc ≤ 4) → (b = best4 (aimL Pq_10 Oq_14 Lm t) (cc - 1)) → (b < 4) → (4 - cc) < fu → ∀ (H : Heap) (locs : List Loc) (ls : Array Slot), va_P (dC, dI) vwCl (wM cI cZ cJ h F1 G V) H → va_D A (wM cI cZ cJ h F1 G V) → va_S A s.heap H locs → lv_has ls 8 [(0, .ref (h 0)), (1, .int (nI k1)), (2, .int (nI mo)), (3, .int (nI hv)), (4, .int (nI t)), (5, .int (nI (Oq_14 t))), (6, .int (nI b)), (7, .int (nI cc))] → W p l e rm_X5_aims s m args below meth c H locs 0 0 Q (F0 m 60 ls []) := by
                    intro fu
                    induction fu with
                    | zero => intro cc b hk hk2 hbb hb2 hn_; exact absurd hn_ (Nat.not_lt_zero _)
                    | succ fu ih60 =>
                      intro cc b hk hk2 hbb hb2 hn_ H locs ls hP hD hS hl
                      refine lv_iload hx hb dX5_aims_60 (lv_at hl 7 rfl) ?_
                      refine lv_iconst (v := 4) hx hb dX5_aims_62 (by decide) ?_
                      refine lv_icmp_ge (tgt := 93) hx hb dX5_aims_63 (by decide) (fun c_68 => ?_) (fun c_68 => ?_)
                      · have c_68 : 4 ≤ cc := (nI_leI (a := 4) (b := cc) (by omega) (by omega)).mp c_68
                        obtain rfl : b = best4 (aimL Pq_10 Oq_14 Lm t) 3 := by rw [hbb, show cc - 1 = 3 by omega]
                        refine lv_aload_n hx hb dX5_aims_93 rfl (lv_at hl 0 rfl) ?_
                        refine va_get (D := (dC, dI)) (ci := 5) (v := .ref (h 14)) (C := RX5) (T := TX5) (N := 33) hx hb hts hin_X5 hown hK hP 0 rfl rfl 21 (by decide) hw5 (fun _ h9 => h9) rfl dX5_aims_94 ?_
                        refine lv_iload hx hb dX5_aims_97 (lv_at hl 5 rfl) ?_
                        refine lv_aload_n hx hb dX5_aims_99 rfl (lv_at hl 0 rfl) ?_
                        refine va_get (D := (dC, dI)) (ci := 5) (v := .ref (h 11)) (C := RX5) (T := TX5) (N := 33) hx hb hts hin_X5 hown hK hP 0 rfl rfl 18 (by decide) hw6 (fun _ h9 => h9) rfl dX5_aims_100 ?_
                        refine lv_iload hx hb dX5_aims_103 (lv_at hl 5 rfl) ?_
                        refine va_iald hx hb hK hP 11 0 rfl rfl (vp_in_nI (n := Oq_14 t) (N := 40) (by omega) (by decide)) dX5_aims_105 ?_
                        have hb_69 := bN_12 (Oq_14 t) (by omega)
                        refine lv_topi (fun x_70 ex_70 => ?_)
                        obtain rfl : x_70 = nI (Pq_10 (Oq_14 t)) := ex_70.trans ((congrArg (F1 11) (nI_clamp (n := Oq_14 t) (by omega))).trans (hN_62 (Oq_14 t) (by omega)))
                        refine lv_aload_n hx hb dX5_aims_106 rfl (lv_at hl 0 rfl) ?_
                        refine va_get (D := (dC, dI)) (ci := 5) (v := .ref (h 12)) (C := RX5) (T := TX5) (N := 33) hx hb hts hin_X5 hown hK hP 0 rfl rfl 19 (by decide) hw0 (fun _ h9 => h9) rfl dX5_aims_107 ?_
                        refine lv_iload hx hb dX5_aims_110 (lv_at hl 6 rfl) ?_
                        refine va_iald hx hb hK hP 12 0 rfl rfl (vp_in_nI (n := best4 (aimL Pq_10 Oq_14 Lm t) 3) (N := 4) (by omega) (by decide)) dX5_aims_112 ?_
                        have hb_71 := bL (best4 (aimL Pq_10 Oq_14 Lm t) 3) (by omega)
                        try dsimp only at hb_71
                        refine lv_topi (fun x_72 ex_72 => ?_)
                        obtain rfl : x_72 = nI ((aimL Pq_10 Oq_14 Lm t) (best4 (aimL Pq_10 Oq_14 Lm t) 3)) := ex_72.trans ((congrArg (F1 12) (nI_clamp (n := best4 (aimL Pq_10 Oq_14 Lm t) 3) (by omega))).trans (hL (best4 (aimL Pq_10 Oq_14 Lm t) 3) (by omega)))
                        refine lv_icmp_gt (tgt := 121) hx hb dX5_aims_113 (by decide) (fun c_73 => ?_) (fun c_73 => ?_)
                        · have c_73 : ((aimL Pq_10 Oq_14 Lm t) (best4 (aimL Pq_10 Oq_14 Lm t) 3)) < (Pq_10 (Oq_14 t)) := (nI_ltI (a := (aimL Pq_10 Oq_14 Lm t) (best4 (aimL Pq_10 Oq_14 Lm t) 3)) (b := Pq_10 (Oq_14 t)) (by omega) (by omega)).mp c_73
                          refine lv_bipush (v := (-2)) hx hb dX5_aims_121 (by decide) ?_
                          refine va_iast hx hb hK hP hD hS 14 0 rfl rfl (vp_in_nI (n := Oq_14 t) (N := 40) (by omega) (by decide)) dX5_aims_123 (fun H locs hP hD hS => ?_)
                          obtain ⟨F_74, eF_74⟩ : ∃ z : Nat → Nat → Int32, z = va_up F1 14 (upd (F1 14) (nI (Oq_14 t)).toNatClampNeg (-2)) := ⟨_, rfl⟩
                          have hP : va_P (dC, dI) vwCl (wM cI cZ cJ h F_74 G V) H := by rw [eF_74]; exact hP
                          have hD : va_D A (wM cI cZ cJ h F_74 G V) := by rw [eF_74]; exact hD
                          have hN_75 : ∀ i, i < 40 → F_74 3 i = nI (So i) := by rw [eF_74]; exact hN_58
                          have hN_76 : ∀ i, i < 24 → F_74 7 i = nI (Hh i) := by rw [eF_74]; exact hN_59
                          have hN_77 : ∀ i, i < 24 → F_74 8 i = nI (Wd i) := by rw [eF_74]; exact hN_60
                          have hN_78 : ∀ i, i < 4 → F_74 4 i = nI (Lm i) := by rw [eF_74]; exact hN_61
                          have hN_79 : ∀ i, i < n → F_74 11 i = nI (Pq_10 i) := by rw [eF_74]; exact hN_62
                          have hN_80 : ∀ i, i < n → F_74 10 i = nI (Oq_14 i) := by rw [eF_74]; exact hN_63
                          have hN_81 : ∀ i, i < 4 → F_74 12 i = nI ((aimL Pq_10 Oq_14 Lm t) i) := by rw [eF_74]; exact hL
                          have hE_82 : F_74 14 (Oq_14 t) = (-2) := by rw [eF_74]; show upd _ (nI (Oq_14 t)).toNatClampNeg _ _ = _; rw [nI_clamp (by omega)]; exact pk_us
                          refine lv_aload_n hx hb dX5_aims_124 rfl (lv_at hl 0 rfl) ?_
                          refine va_get (D := (dC, dI)) (ci := 5) (v := .ref (h 14)) (C := RX5) (T := TX5) (N := 33) hx hb hts hin_X5 hown hK hP 0 rfl rfl 21 (by decide) hw5 (fun _ h9 => h9) rfl dX5_aims_125 ?_
                          refine lv_iload hx hb dX5_aims_128 (lv_at hl 5 rfl) ?_
                          refine va_iald hx hb hK hP 14 0 rfl rfl (vp_in_nI (n := Oq_14 t) (N := 40) (by omega) (by decide)) dX5_aims_130 ?_
                          refine lv_topi (fun x_83 ex_83 => ?_)
                          obtain rfl : x_83 = (-2) := ex_83.trans ((congrArg (F_74 14) (nI_clamp (n := Oq_14 t) (by omega))).trans hE_82)
                          refine lv_bipush (v := (-2)) hx hb dX5_aims_131 (by decide) ?_
                          refine lv_icmp_ne (tgt := 139) hx hb dX5_aims_133 (by decide) (fun c_84 => ?_) (fun c_84 => ?_)
                          · exact absurd c_84 (by decide)
                          · refine lv_goto (tgt := 166) hx hb dX5_aims_136 (by decide) ?_
                            refine lv_iinc (v := nI (t + 1)) (lv' := [(4, .int (nI (t + 1))), (0, .ref (h 0)), (1, .int (nI k1)), (2, .int (nI mo)), (3, .int (nI hv)), (5, .int (nI (Oq_14 t))), (6, .int (nI (best4 (aimL Pq_10 Oq_14 Lm t) 3))), (7, .int (nI cc))]) hx hb dX5_aims_166 hl (k := 4) rfl (nI_1 _) (by decide) rfl (fun ls hl => ?_)
                            refine lv_goto (tgt := 36) hx hb dX5_aims_169 (by decide) ?_
                            have hb_85 : aimL Pq_10 Oq_14 Lm (t + 1) = aimL Pq_10 Oq_14 Lm t := by rw [aimL, if_neg (by omega)]
                            have hb_86 : F_74 14 = aimC Pq_10 Oq_14 Lm (F_49 14) (t + 1) := by
                              rw [eF_74]
                              show upd (F1 14) _ _ = _
                              rw [nI_clamp (by omega), hC, aimC, if_neg (by omega)]
                            exact ih36 (t + 1) hv F_74 (by omega) (by rw [aimH, if_neg (by omega), hh]) (by rw [hb_85]; exact hN_81) (by rw [hb_85]; exact bL) hb_86 (fun j hj => ((va_ne eF_74 (fun h => hj (by rw [h]; decide))).trans (hfr j hj))) (by omega) H locs ls hP hD hS (lv_sub hl [1, 2, 3, 4, 0] rfl)
                        · have c_73 : ¬ ((aimL Pq_10 Oq_14 Lm t) (best4 (aimL Pq_10 Oq_14 Lm t) 3)) < (Pq_10 (Oq_14 t)) := fun h => c_73 ((nI_ltI (a := (aimL Pq_10 Oq_14 Lm t) (best4 (aimL Pq_10 Oq_14 Lm t) 3)) (b := Pq_10 (Oq_14 t)) (by omega) (by omega)).mpr h)
                          refine lv_iload hx hb dX5_aims_116 (lv_at hl 6 rfl) ?_
                          refine lv_goto (tgt := 123) hx hb dX5_aims_118 (by decide) ?_
                          refine va_iast hx hb hK hP hD hS 14 0 rfl rfl (vp_in_nI (n := Oq_14 t) (N := 40) (by omega) (by decide)) dX5_aims_123 (fun H locs hP hD hS => ?_)
                          obtain ⟨F_87, eF_87⟩ : ∃ z : Nat → Nat → Int32, z = va_up F1 14 (upd (F1 14) (nI (Oq_14 t)).toNatClampNeg (nI (best4 (aimL Pq_10 Oq_14 Lm t) 3))) := ⟨_, rfl⟩
                          have hP : va_P (dC, dI) vwCl (wM cI cZ cJ h F_87 G V) H := by rw [eF_87]; exact hP
                          have hD : va_D A (wM cI cZ cJ h F_87 G V) := by rw [eF_87]; exact hD
                          have hN_88 : ∀ i, i < 40 → F_87 3 i = nI (So i) := by rw [eF_87]; exact hN_58
                          have hN_89 : ∀ i, i < 24 → F_87 7 i = nI (Hh i) := by rw [eF_87]; exact hN_59
                          have hN_90 : ∀ i, i < 24 → F_87 8 i = nI (Wd i) := by rw [eF_87]; exact hN_60
                          have hN_91 : ∀ i, i < 4 → F_87 4 i = nI (Lm i) := by rw [eF_87]; exact hN_61
                          have hN_92 : ∀ i, i < n → F_87 11 i = nI (Pq_10 i) := by rw [eF_87]; exact hN_62
                          have hN_93 : ∀ i, i < n → F_87 10 i = nI (Oq_14 i) := by rw [eF_87]; exact hN_63
                          have hN_94 : ∀ i, i < 4 → F_87 12 i = nI ((aimL Pq_10 Oq_14 Lm t) i) := by rw [eF_87]; exact hL
                          refine lv_aload_n hx hb dX5_aims_124 rfl (lv_at hl 0 rfl) ?_
                          refine va_get (D := (dC, dI)) (ci := 5) (v := .ref (h 14)) (C := RX5) (T := TX5) (N := 33) hx hb hts hin_X5 hown hK hP 0 rfl rfl 21 (by decide) hw5 (fun _ h9 => h9) rfl dX5_aims_125 ?_
                          refine lv_iload hx hb dX5_aims_128 (lv_at hl 5 rfl) ?_
                          refine va_iald hx hb hK hP 14 0 rfl rfl (vp_in_nI (n := Oq_14 t) (N := 40) (by omega) (by decide)) dX5_aims_130 ?_
                          have hE_95 : F_87 14 (Oq_14 t) = nI (best4 (aimL Pq_10 Oq_14 Lm t) 3) := by rw [eF_87]; show upd _ (nI (Oq_14 t)).toNatClampNeg _ _ = _; rw [nI_clamp (by omega)]; exact pk_us
                          refine lv_topi (fun x_96 ex_96 => ?_)
                          obtain rfl : x_96 = nI (best4 (aimL Pq_10 Oq_14 Lm t) 3) := ex_96.trans ((congrArg (F_87 14) (nI_clamp (n := Oq_14 t) (by omega))).trans hE_95)
                          refine lv_bipush (v := (-2)) hx hb dX5_aims_131 (by decide) ?_
                          refine lv_icmp_ne (tgt := 139) hx hb dX5_aims_133 (by decide) (fun c_97 => ?_) (fun c_97 => ?_)
                          · have c_97 : eqI (nI (best4 (aimL Pq_10 Oq_14 Lm t) 3)) (-2) = false := decide_eq_false c_97
                            refine lv_aload_n hx hb dX5_aims_139 rfl (lv_at hl 0 rfl) ?_
                            refine va_get (D := (dC, dI)) (ci := 5) (v := .ref (h 12)) (C := RX5) (T := TX5) (N := 33) hx hb hts hin_X5 hown hK hP 0 rfl rfl 19 (by decide) hw0 (fun _ h9 => h9) rfl dX5_aims_140 ?_
                            refine lv_iload hx hb dX5_aims_143 (lv_at hl 6 rfl) ?_
                            refine lv_dup2_11 hx hb dX5_aims_145 rfl rfl ?_
                            refine va_iald hx hb hK hP 12 0 rfl rfl (vp_in_nI (n := best4 (aimL Pq_10 Oq_14 Lm t) 3) (N := 4) (by omega) (by decide)) dX5_aims_146 ?_
                            have hb_98 := bL (best4 (aimL Pq_10 Oq_14 Lm t) 3) (by omega)
                            try dsimp only at hb_98
                            refine lv_topi (fun x_99 ex_99 => ?_)
                            obtain rfl : x_99 = nI ((aimL Pq_10 Oq_14 Lm t) (best4 (aimL Pq_10 Oq_14 Lm t) 3)) := ex_99.trans ((congrArg (F_87 12) (nI_clamp (n := best4 (aimL Pq_10 Oq_14 Lm t) 3) (by omega))).trans (hN_94 (best4 (aimL Pq_10 Oq_14 Lm t) 3) (by omega)))
                            refine lv_aload_n hx hb dX5_aims_147 rfl (lv_at hl 0 rfl) ?_
                            refine va_get (D := (dC, dI)) (ci := 5) (v := .ref (h 11)) (C := RX5) (T := TX5) (N := 33) hx hb hts hin_X5 hown hK hP 0 rfl rfl 18 (by decide) hw6 (fun _ h9 => h9) rfl dX5_aims_148 ?_
                            refine lv_iload hx hb dX5_aims_151 (lv_at hl 5 rfl) ?_
                            refine va_iald hx hb hK hP 11 0 rfl rfl (vp_in_nI (n := Oq_14 t) (N := 40) (by omega) (by decide)) dX5_aims_153 ?_
                            have hb_100 := bN_12 (Oq_14 t) (by omega)
                            refine lv_topi (fun x_101 ex_101 => ?_)
                            obtain rfl : x_101 = nI (Pq_10 (Oq_14 t)) := ex_101.trans ((congrArg (F_87 11) (nI_clamp (n := Oq_14 t) (by omega))).trans (hN_92 (Oq_14 t) (by omega)))
                            refine lv_isub hx hb dX5_aims_154 ?_
                            refine lv_topi (fun x_102 ex_102 => ?_)
                            obtain rfl : x_102 = nI (((aimL Pq_10 Oq_14 Lm t) (best4 (aimL Pq_10 Oq_14 Lm t) 3)) - (Pq_10 (Oq_14 t))) := ex_102.trans (pk_sub (a := (aimL Pq_10 Oq_14 Lm t) (best4 (aimL Pq_10 Oq_14 Lm t) 3)) (b := Pq_10 (Oq_14 t)) (by omega))
                            refine va_iast hx hb hK hP hD hS 12 0 rfl rfl (vp_in_nI (n := best4 (aimL Pq_10 Oq_14 Lm t) 3) (N := 4) (by omega) (by decide)) dX5_aims_155 (fun H locs hP hD hS => ?_)
                            obtain ⟨F_103, eF_103⟩ : ∃ z : Nat → Nat → Int32, z = va_up F_87 12 (upd (F_87 12) (nI (best4 (aimL Pq_10 Oq_14 Lm t) 3)).toNatClampNeg (nI (((aimL Pq_10 Oq_14 Lm t) (best4 (aimL Pq_10 Oq_14 Lm t) 3)) - (Pq_10 (Oq_14 t))))) := ⟨_, rfl⟩
                            have hP : va_P (dC, dI) vwCl (wM cI cZ cJ h F_103 G V) H := by rw [eF_103]; exact hP
                            have hD : va_D A (wM cI cZ cJ h F_103 G V) := by rw [eF_103]; exact hD
                            have hN_104 : ∀ i, i < 40 → F_103 3 i = nI (So i) := by rw [eF_103]; exact hN_88
                            have hN_105 : ∀ i, i < 24 → F_103 7 i = nI (Hh i) := by rw [eF_103]; exact hN_89
                            have hN_106 : ∀ i, i < 24 → F_103 8 i = nI (Wd i) := by rw [eF_103]; exact hN_90
                            have hN_107 : ∀ i, i < 4 → F_103 4 i = nI (Lm i) := by rw [eF_103]; exact hN_91
                            have hN_108 : ∀ i, i < n → F_103 11 i = nI (Pq_10 i) := by rw [eF_103]; exact hN_92
                            have hN_109 : ∀ i, i < n → F_103 10 i = nI (Oq_14 i) := by rw [eF_103]; exact hN_93
                            obtain ⟨S_110, eS_110⟩ : ∃ z : Nat → Nat, z = nup (aimL Pq_10 Oq_14 Lm t) (best4 (aimL Pq_10 Oq_14 Lm t) 3) (((aimL Pq_10 Oq_14 Lm t) (best4 (aimL Pq_10 Oq_14 Lm t) 3)) - (Pq_10 (Oq_14 t))) := ⟨_, rfl⟩
                            have hN_111 : ∀ i, i < 4 → F_103 12 i = nI (S_110 i) := by rw [eF_103, eS_110]; show ∀ i, i < 4 → upd (F_87 12) (nI (best4 (aimL Pq_10 Oq_14 Lm t) 3)).toNatClampNeg (nI (((aimL Pq_10 Oq_14 Lm t) (best4 (aimL Pq_10 Oq_14 Lm t) 3)) - (Pq_10 (Oq_14 t)))) i = nI _; exact nf_put hN_94 (nI_clamp (n := best4 (aimL Pq_10 Oq_14 Lm t) 3) (by omega))
                            have bN_112 : ∀ i, i < 4 → S_110 i ≤ 10000 := by rw [eS_110]; exact nb_put bL (by omega)
                            refine lv_iload_n hx hb dX5_aims_156 rfl (lv_at hl 3 rfl) ?_
                            refine lv_aload_n hx hb dX5_aims_157 rfl (lv_at hl 0 rfl) ?_
                            refine va_get (D := (dC, dI)) (ci := 5) (v := .ref (h 11)) (C := RX5) (T := TX5) (N := 33) hx hb hts hin_X5 hown hK hP 0 rfl rfl 18 (by decide) hw6 (fun _ h9 => h9) rfl dX5_aims_158 ?_
                            refine lv_iload hx hb dX5_aims_161 (lv_at hl 5 rfl) ?_
                            refine va_iald hx hb hK hP 11 0 rfl rfl (vp_in_nI (n := Oq_14 t) (N := 40) (by omega) (by decide)) dX5_aims_163 ?_
                            have hb_113 := bN_12 (Oq_14 t) (by omega)
                            refine lv_topi (fun x_114 ex_114 => ?_)
                            obtain rfl : x_114 = nI (Pq_10 (Oq_14 t)) := ex_114.trans ((congrArg (F_103 11) (nI_clamp (n := Oq_14 t) (by omega))).trans (hN_108 (Oq_14 t) (by omega)))
                            refine lv_iadd hx hb dX5_aims_164 ?_
                            refine lv_topi (fun x_115 ex_115 => ?_)
                            obtain rfl : x_115 = nI (hv + (Pq_10 (Oq_14 t))) := ex_115.trans (nI_add hv (Pq_10 (Oq_14 t)))
                            refine lv_istore_n (lv' := [(3, .int (nI (hv + (Pq_10 (Oq_14 t))))), (0, .ref (h 0)), (1, .int (nI k1)), (2, .int (nI mo)), (4, .int (nI t)), (5, .int (nI (Oq_14 t))), (6, .int (nI (best4 (aimL Pq_10 Oq_14 Lm t) 3))), (7, .int (nI cc))]) hx hb dX5_aims_165 rfl hl (by decide) rfl (fun ls hl => ?_)
                            refine lv_iinc (v := nI (t + 1)) (lv' := [(4, .int (nI (t + 1))), (3, .int (nI (hv + (Pq_10 (Oq_14 t))))), (0, .ref (h 0)), (1, .int (nI k1)), (2, .int (nI mo)), (5, .int (nI (Oq_14 t))), (6, .int (nI (best4 (aimL Pq_10 Oq_14 Lm t) 3))), (7, .int (nI cc))]) hx hb dX5_aims_166 hl (k := 4) rfl (nI_1 _) (by decide) rfl (fun ls hl => ?_)
                            refine lv_goto (tgt := 36) hx hb dX5_aims_169 (by decide) ?_
                            have hb_116 : S_110 = aimL Pq_10 Oq_14 Lm (t + 1) := by rw [eS_110, aimL, if_pos (by omega)]
                            rw [hb_116] at hN_111 bN_112
                            have hb_117 : F_103 14 = aimC Pq_10 Oq_14 Lm (F_49 14) (t + 1) := by
                              rw [eF_103]
                              show F_87 14 = _
                              rw [eF_87]
                              show upd (F1 14) _ _ = _
                              rw [nI_clamp (by omega), hC, aimC, if_pos (by omega)]
                            exact ih36 (t + 1) (hv + (Pq_10 (Oq_14 t))) F_103 (by omega) (by rw [aimH, if_pos (by omega), hh]) hN_111 bN_112 hb_117 (fun j hj => ((va_ne eF_103 (fun h => hj (by rw [h]; decide))).trans ((va_ne eF_87 (fun h => hj (by rw [h]; decide))).trans (hfr j hj)))) (by omega) H locs ls hP hD hS (lv_sub hl [2, 3, 4, 1, 0] rfl)
                          · exact absurd c_97 ((by decide : ∀ k, k < 4 → nI k ≠ -2) _ (by omega))
                      · have c_68 : ¬ 4 ≤ cc := fun h => c_68 ((nI_leI (a := 4) (b := cc) (by omega) (by omega)).mpr h)
                        refine lv_aload_n hx hb dX5_aims_66 rfl (lv_at hl 0 rfl) ?_
                        refine va_get (D := (dC, dI)) (ci := 5) (v := .ref (h 12)) (C := RX5) (T := TX5) (N := 33) hx hb hts hin_X5 hown hK hP 0 rfl rfl 19 (by decide) hw0 (fun _ h9 => h9) rfl dX5_aims_67 ?_
                        refine lv_iload hx hb dX5_aims_70 (lv_at hl 7 rfl) ?_
                        refine va_iald hx hb hK hP 12 0 rfl rfl (vp_in_nI (n := cc) (N := 4) (by omega) (by decide)) dX5_aims_72 ?_
                        have hb_118 := bL cc (by omega)
                        try dsimp only at hb_118
                        refine lv_topi (fun x_119 ex_119 => ?_)
                        obtain rfl : x_119 = nI ((aimL Pq_10 Oq_14 Lm t) cc) := ex_119.trans ((congrArg (F1 12) (nI_clamp (n := cc) (by omega))).trans (hL cc (by omega)))
                        refine lv_aload_n hx hb dX5_aims_73 rfl (lv_at hl 0 rfl) ?_
                        refine va_get (D := (dC, dI)) (ci := 5) (v := .ref (h 12)) (C := RX5) (T := TX5) (N := 33) hx hb hts hin_X5 hown hK hP 0 rfl rfl 19 (by decide) hw0 (fun _ h9 => h9) rfl dX5_aims_74 ?_
                        refine lv_iload hx hb dX5_aims_77 (lv_at hl 6 rfl) ?_
                        refine va_iald hx hb hK hP 12 0 rfl rfl (vp_in_nI (n := b) (N := 4) (by omega) (by decide)) dX5_aims_79 ?_
                        have hb_120 := bL b (by omega)
                        try dsimp only at hb_120
                        refine lv_topi (fun x_121 ex_121 => ?_)
                        obtain rfl : x_121 = nI ((aimL Pq_10 Oq_14 Lm t) b) := ex_121.trans ((congrArg (F1 12) (nI_clamp (n := b) (by omega))).trans (hL b (by omega)))
                        refine lv_icmp_le (tgt := 87) hx hb dX5_aims_80 (by decide) (fun c_122 => ?_) (fun c_122 => ?_)
                        · have c_122 : ((aimL Pq_10 Oq_14 Lm t) cc) ≤ ((aimL Pq_10 Oq_14 Lm t) b) := (nI_leI (a := (aimL Pq_10 Oq_14 Lm t) cc) (b := (aimL Pq_10 Oq_14 Lm t) b) (by omega) (by omega)).mp c_122
                          refine lv_iinc (v := nI (cc + 1)) (lv' := [(7, .int (nI (cc + 1))), (0, .ref (h 0)), (1, .int (nI k1)), (2, .int (nI mo)), (3, .int (nI hv)), (4, .int (nI t)), (5, .int (nI (Oq_14 t))), (6, .int (nI b))]) hx hb dX5_aims_87 hl (k := 7) rfl (nI_1 _) (by decide) rfl (fun ls hl => ?_)
                          refine lv_goto (tgt := 60) hx hb dX5_aims_90 (by decide) ?_
                          exact ih60 (cc + 1) b (by omega) (by omega) (by rw [show cc + 1 - 1 = cc by omega, best4_s (aimL Pq_10 Oq_14 Lm t) (by omega), ← hbb, if_neg (by omega)]) (by omega) (by omega) H locs ls hP hD hS (lv_sub hl [1, 2, 3, 4, 5, 6, 7, 0] rfl)
                        · have c_122 : ¬ ((aimL Pq_10 Oq_14 Lm t) cc) ≤ ((aimL Pq_10 Oq_14 Lm t) b) := fun h => c_122 ((nI_leI (a := (aimL Pq_10 Oq_14 Lm t) cc) (b := (aimL Pq_10 Oq_14 Lm t) b) (by omega) (by omega)).mpr h)
                          refine lv_iload hx hb dX5_aims_83 (lv_at hl 7 rfl) ?_
                          refine lv_istore (lv' := [(6, .int (nI cc)), (0, .ref (h 0)), (1, .int (nI k1)), (2, .int (nI mo)), (3, .int (nI hv)), (4, .int (nI t)), (5, .int (nI (Oq_14 t))), (7, .int (nI cc))]) hx hb dX5_aims_85 hl (by decide) rfl (fun ls hl => ?_)
                          refine lv_iinc (v := nI (cc + 1)) (lv' := [(7, .int (nI (cc + 1))), (6, .int (nI cc)), (0, .ref (h 0)), (1, .int (nI k1)), (2, .int (nI mo)), (3, .int (nI hv)), (4, .int (nI t)), (5, .int (nI (Oq_14 t)))]) hx hb dX5_aims_87 hl (k := 7) rfl (nI_1 _) (by decide) rfl (fun ls hl => ?_)
                          refine lv_goto (tgt := 60) hx hb dX5_aims_90 (by decide) ?_
                          exact ih60 (cc + 1) cc (by omega) (by omega) (by rw [show cc + 1 - 1 = cc by omega, best4_s (aimL Pq_10 Oq_14 Lm t) (by omega), ← hbb, if_pos (by omega)]) (by omega) (by omega) H locs ls hP hD hS (lv_sub hl [2, 3, 4, 5, 6, 7, 1, 0] rfl)
                  exact loop60 _ 1 0 (by omega) (by omega) rfl (by omega) (Nat.lt_succ_self _) H locs ls hP hD hS (lv_sub hl [3, 4, 5, 6, 7, 2, 1, 0] rfl)
            exact loop36 _ 0 0 F_49 (by omega) rfl hN_57 bLm rfl (fun _ _ => rfl) (Nat.lt_succ_self _) H locs ls hP hD hS (lv_sub hl [2, 3, 4, 1, 0] rfl)
          · exact absurd c_56 (by decide)
