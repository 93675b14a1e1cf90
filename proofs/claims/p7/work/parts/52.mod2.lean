def rm_X5_aims : Room := { frames := 3, cells := 0, slots := 0, locals := 77 }
set_option maxHeartbeats 4000000 in
set_option maxRecDepth 100000 in
theorem c_X5_aims (l : Launch) (dC : Nat → ClassId) (dI : Nat → Nat → Nat) (cI cZ cJ : ClassId) (h : Nat → Nat) (F : Nat → Nat → Int32) (G : Nat → Int64) (V : Nat → Int32) (n : Nat) (hV2 : V 2 = nI n) (bV2 : n ≤ 40) (So : Nat → Nat) (hSo : ∀ i, i < 40 → F 3 i = nI (So i)) (bSo : ∀ i, i < 40 → So i ≤ 90) (Hh : Nat → Nat) (hHh : ∀ i, i < 24 → F 7 i = nI (Hh i)) (bHh : ∀ i, i < 24 → Hh i ≤ 9) (Wd : Nat → Nat) (hWd : ∀ i, i < 24 → F 8 i = nI (Wd i)) (bWd : ∀ i, i < 24 → Wd i ≤ 99) (Lm : Nat → Nat) (hLm : ∀ i, i < 4 → F 4 i = nI (Lm i)) (bLm : ∀ i, i < 4 → Lm i ≤ 10000) (X : Nat → Nat) (hX : ∀ i, i < n → F 1 i = nI (X i)) (bX : ∀ i, i < n → X i ≤ 14) (Y : Nat → Nat) (hY : ∀ i, i < n → F 2 i = nI (Y i)) (bY : ∀ i, i < n → Y i ≤ 14) (k1 mo : Nat) (hk1 : k1 < 24) (hmo : mo ≤ 460)  (SX SY : Nat → Int32) (hSX : ∀ i, i < 24 → F 5 i = SX i) (hSY : ∀ i, i < 24 → F 6 i = SY i) (hGP : GP n X Y) : CtI l (dC, dI) vwCl (tys3 cI cZ cJ) yX5_aims wsX5_aims rm_X5_aims [.ref (h 0), .int (nI k1), .int (nI mo)] (wM cI cZ cJ h F G V) (S := Nat → Nat → Int32) (fun r u => (r = nI (htA (pwA X Y n SX SY Hh So Wd k1 mo) Lm n)) ∧ (∀ j, j ∉ ([10, 11, 12, 14] : List Nat) → u j = F j) ∧ ((∀ i, i < 4 → u 12 i = nI (lA (pwA X Y n SX SY Hh So Wd k1 mo) Lm n i)) ∧ (∀ i, i < 4 → lA (pwA X Y n SX SY Hh So Wd k1 mo) Lm n i ≤ 10000) ∧ ∀ i, i < n → u 14 i = cA (pwA X Y n SX SY Hh So Wd k1 mo) Lm n i)) (fun u => wM cI cZ cJ h u G V) 0 0 := by
  refine ct_I (cc := cX5_aims) (maxL := 8) (ty := .int) (own := RX5) (by decide) rfl rfl (Nat.le_of_ble_eq_true rfl) (lv := [(0, .ref (h 0)), (1, .int (nI k1)), (2, .int (nI mo))]) rfl ?_
  intro p e s m args below meth c A Q ls fx hK hP hD hA hl hret
  obtain ⟨hx, hb, hml, hown, hts⟩ := id fx
  have hS : va_S A s.heap s.heap [] := va_S.rf
  have hw0 := hts (.fieldLink RX5 53 "MirrorTowerModel" "left" "[I") (by decide +kernel)
  have hin_X5 : ∀ w ∈ u_ws RX5 TX5 33, w ∈ wsX5_aims := by decide +kernel
  have hw2 := hts (.fieldLink RX5 29 "MirrorTowerModel" "limit" "[I") (by decide +kernel)
  have hw3 := hts (.fieldLink RX5 91 "MirrorTowerModel" "mirrors" "I") (by decide +kernel)
  have hw4 := hts (.fieldLink RX5 47 "MirrorTowerModel" "order" "[I") (by decide +kernel)
  have hw5 := hts (.fieldLink RX5 59 "MirrorTowerModel" "at" "[I") (by decide +kernel)
  have hw6 := hts (.fieldLink RX5 50 "MirrorTowerModel" "power" "[I") (by decide +kernel)
  obtain ⟨H, hH⟩ : ∃ H, H = s.heap := ⟨_, rfl⟩
  rw [← hH] at hP ⊢
  have hS : va_S A s.heap H [] := by rw [hH]; exact hS
  generalize ([] : List Loc) = locs at hS ⊢
  refine lv_aload_n hx hb dX5_aims_0 rfl (lv_at hl 0 rfl) ?_
  refine lv_iload_n hx hb dX5_aims_1 rfl (lv_at hl 1 rfl) ?_
  refine lv_iload_n hx hb dX5_aims_2 rfl (lv_at hl 2 rfl) ?_
  refine cw_Vv (As := [.int (nI k1), .int (nI mo)]) (rest := []) (c_X5_orders l dC dI cI cZ cJ h F G V n hV2 (by omega) So hSo bSo Hh hHh bHh Wd hWd bWd X hX bX Y hY bY k1 mo (by omega) (by omega) SX SY (fun i hi => (congrFun (Eq.refl (F 5)) i).trans (hSX i hi)) (fun i hi => (congrFun (Eq.refl (F 6)) i).trans (hSY i hi)) hGP) fx (cwV 2 hts gX5_aims_X5_orders rfl rfl rfl (by decide +kernel) ⟨Nat.le_of_ble_eq_true rfl, Nat.le_of_ble_eq_true rfl⟩) hK hP hD hS hA 0 rfl rfl rfl rfl hl.1 rfl (Nat.le_of_ble_eq_true rfl) dX5_aims_3 ⟨Nat.le_of_ble_eq_true rfl, Nat.le_of_ble_eq_true rfl⟩ (fun u_2 H locs hw_3 hP hD hS => ?_)
  obtain ⟨F_4, rfl⟩ : ∃ z, z = u_2 := ⟨_, rfl⟩
  have hf_5 : ∀ j, j ∉ ([10, 11] : List Nat) → F_4 j = F j := hw_3.1
  have hP : va_P (dC, dI) vwCl (wM cI cZ cJ h F_4 G V) H := hP
  have hD : va_D A (wM cI cZ cJ h F_4 G V) := hD
  have hN_6 : ∀ i, i < 40 → F_4 3 i = nI (So i) := by rw [hf_5 3 (by decide)]; exact hSo
  have hN_7 : ∀ i, i < 24 → F_4 7 i = nI (Hh i) := by rw [hf_5 7 (by decide)]; exact hHh
  have hN_8 : ∀ i, i < 24 → F_4 8 i = nI (Wd i) := by rw [hf_5 8 (by decide)]; exact hWd
  have hN_9 : ∀ i, i < 4 → F_4 4 i = nI (Lm i) := by rw [hf_5 4 (by decide)]; exact hLm
  have hN_10 : ∀ i, i < n → F_4 1 i = nI (X i) := by rw [hf_5 1 (by decide)]; exact hX
  have hN_11 : ∀ i, i < n → F_4 2 i = nI (Y i) := by rw [hf_5 2 (by decide)]; exact hY
  obtain ⟨Pq_12, ePq_12⟩ : ∃ z : Nat → Nat, z = pwA X Y n SX SY Hh So Wd k1 mo := ⟨_, rfl⟩
  obtain ⟨Oq_16, eOq_16⟩ : ∃ z : Nat → Nat, z = ordn Pq_12 n := ⟨_, rfl⟩
  have hN_13 : ∀ i, i < n → F_4 11 i = nI (Pq_12 i) := by rw [ePq_12]; exact (hw_3.2).1
  have bN_14 : ∀ i, i < n → Pq_12 i ≤ 100 := fun i _ => by rw [ePq_12]; exact pwA_le (bHh k1 (by omega))
  have hN_15 : ∀ i, i < n → F_4 10 i = nI (Oq_16 i) := by rw [eOq_16, ePq_12]; exact (hw_3.2).2
  have bN_17 : ∀ i, i < n → Oq_16 i ≤ n - 1 := by rw [eOq_16]; exact fun i hi => by have := ordn_lt Pq_12 n i hi; omega
  refine lv_iconst (v := 0) hx hb dX5_aims_6 (by decide) ?_
  refine lv_istore_n (lv' := [(3, .int 0), (0, .ref (h 0)), (1, .int (nI k1)), (2, .int (nI mo))]) hx hb dX5_aims_7 rfl hl (by decide) rfl (fun ls hl => ?_)
  refine lv_iload_n hx hb dX5_aims_8 rfl (lv_at hl 0 rfl) ?_
  refine lv_iconst (v := 4) hx hb dX5_aims_9 (by decide) ?_
  refine lv_icmp_ge (tgt := 31) hx hb dX5_aims_10 (by decide) (fun c_18 => ?_) (fun c_18 => ?_)
  · exact absurd c_18 (by decide)
  · refine lv_aload_n hx hb dX5_aims_13 rfl (lv_at hl 1 rfl) ?_
    refine va_get (D := (dC, dI)) (ci := 5) (v := .ref (h 12)) (C := RX5) (T := TX5) (N := 33) hx hb hts hin_X5 hown hK hP 0 rfl rfl 19 (by decide) hw0 (fun _ h9 => h9) rfl dX5_aims_14 ?_
    refine lv_iload_n hx hb dX5_aims_17 rfl (lv_at hl 0 rfl) ?_
    refine lv_aload_n hx hb dX5_aims_18 rfl (lv_at hl 1 rfl) ?_
    refine va_get (D := (dC, dI)) (ci := 5) (v := .ref (h 4)) (C := RX5) (T := TX5) (N := 33) hx hb hts hin_X5 hown hK hP 0 rfl rfl 11 (by decide) hw2 (fun _ h9 => h9) rfl dX5_aims_19 ?_
    refine lv_iload_n hx hb dX5_aims_22 rfl (lv_at hl 0 rfl) ?_
    refine va_iald hx hb hK hP 4 0 rfl rfl (vp_in_nI (n := 0) (N := 4) (by decide) (by decide)) dX5_aims_23 ?_
    have hb_19 := bLm 0 (by omega)
    refine lv_topi (fun x_20 ex_20 => ?_)
    obtain rfl : x_20 = nI (Lm 0) := ex_20.trans ((congrArg (F_4 4) (by decide : (0 : Int32).toNatClampNeg = 0)).trans (hN_9 0 (by omega)))
    refine va_iast hx hb hK hP hD hS 12 0 rfl rfl (vp_in_nI (n := 0) (N := 4) (by decide) (by decide)) dX5_aims_24 (fun H locs hP hD hS => ?_)
    obtain ⟨F_21, eF_21⟩ : ∃ z : Nat → Nat → Int32, z = va_up F_4 12 (upd (F_4 12) (0 : Int32).toNatClampNeg (nI (Lm 0))) := ⟨_, rfl⟩
    have hP : va_P (dC, dI) vwCl (wM cI cZ cJ h F_21 G V) H := by rw [eF_21]; exact hP
    have hD : va_D A (wM cI cZ cJ h F_21 G V) := by rw [eF_21]; exact hD
    have hN_22 : ∀ i, i < 40 → F_21 3 i = nI (So i) := by rw [eF_21]; exact hN_6
    have hN_23 : ∀ i, i < 24 → F_21 7 i = nI (Hh i) := by rw [eF_21]; exact hN_7
    have hN_24 : ∀ i, i < 24 → F_21 8 i = nI (Wd i) := by rw [eF_21]; exact hN_8
    have hN_25 : ∀ i, i < 4 → F_21 4 i = nI (Lm i) := by rw [eF_21]; exact hN_9
    have hN_26 : ∀ i, i < n → F_21 1 i = nI (X i) := by rw [eF_21]; exact hN_10
    have hN_27 : ∀ i, i < n → F_21 2 i = nI (Y i) := by rw [eF_21]; exact hN_11
    have hN_28 : ∀ i, i < n → F_21 11 i = nI (Pq_12 i) := by rw [eF_21]; exact hN_13
    have hN_29 : ∀ i, i < n → F_21 10 i = nI (Oq_16 i) := by rw [eF_21]; exact hN_15
    refine lv_iinc (v := 1) (lv' := [(3, .int 1), (0, .ref (h 0)), (1, .int (nI k1)), (2, .int (nI mo))]) hx hb dX5_aims_25 hl (k := 0) rfl (by decide) (by decide) rfl (fun ls hl => ?_)
    refine lv_goto (tgt := 8) hx hb dX5_aims_28 (by decide) ?_
    refine lv_iload_n hx hb dX5_aims_8 rfl (lv_at hl 0 rfl) ?_
    refine lv_iconst (v := 4) hx hb dX5_aims_9 (by decide) ?_
    refine lv_icmp_ge (tgt := 31) hx hb dX5_aims_10 (by decide) (fun c_30 => ?_) (fun c_30 => ?_)
    · exact absurd c_30 (by decide)
    · refine lv_aload_n hx hb dX5_aims_13 rfl (lv_at hl 1 rfl) ?_
      refine va_get (D := (dC, dI)) (ci := 5) (v := .ref (h 12)) (C := RX5) (T := TX5) (N := 33) hx hb hts hin_X5 hown hK hP 0 rfl rfl 19 (by decide) hw0 (fun _ h9 => h9) rfl dX5_aims_14 ?_
      refine lv_iload_n hx hb dX5_aims_17 rfl (lv_at hl 0 rfl) ?_
      refine lv_aload_n hx hb dX5_aims_18 rfl (lv_at hl 1 rfl) ?_
      refine va_get (D := (dC, dI)) (ci := 5) (v := .ref (h 4)) (C := RX5) (T := TX5) (N := 33) hx hb hts hin_X5 hown hK hP 0 rfl rfl 11 (by decide) hw2 (fun _ h9 => h9) rfl dX5_aims_19 ?_
      refine lv_iload_n hx hb dX5_aims_22 rfl (lv_at hl 0 rfl) ?_
      refine va_iald hx hb hK hP 4 0 rfl rfl (vp_in_nI (n := 1) (N := 4) (by decide) (by decide)) dX5_aims_23 ?_
      have hb_31 := bLm 1 (by omega)
      refine lv_topi (fun x_32 ex_32 => ?_)
      obtain rfl : x_32 = nI (Lm 1) := ex_32.trans ((congrArg (F_21 4) (by decide : (1 : Int32).toNatClampNeg = 1)).trans (hN_25 1 (by omega)))
      refine va_iast hx hb hK hP hD hS 12 0 rfl rfl (vp_in_nI (n := 1) (N := 4) (by decide) (by decide)) dX5_aims_24 (fun H locs hP hD hS => ?_)
      obtain ⟨F_33, eF_33⟩ : ∃ z : Nat → Nat → Int32, z = va_up F_21 12 (upd (F_21 12) (1 : Int32).toNatClampNeg (nI (Lm 1))) := ⟨_, rfl⟩
      have hP : va_P (dC, dI) vwCl (wM cI cZ cJ h F_33 G V) H := by rw [eF_33]; exact hP
      have hD : va_D A (wM cI cZ cJ h F_33 G V) := by rw [eF_33]; exact hD
      have hN_34 : ∀ i, i < 40 → F_33 3 i = nI (So i) := by rw [eF_33]; exact hN_22
      have hN_35 : ∀ i, i < 24 → F_33 7 i = nI (Hh i) := by rw [eF_33]; exact hN_23
      have hN_36 : ∀ i, i < 24 → F_33 8 i = nI (Wd i) := by rw [eF_33]; exact hN_24
      have hN_37 : ∀ i, i < 4 → F_33 4 i = nI (Lm i) := by rw [eF_33]; exact hN_25
      have hN_38 : ∀ i, i < n → F_33 1 i = nI (X i) := by rw [eF_33]; exact hN_26
      have hN_39 : ∀ i, i < n → F_33 2 i = nI (Y i) := by rw [eF_33]; exact hN_27
      have hN_40 : ∀ i, i < n → F_33 11 i = nI (Pq_12 i) := by rw [eF_33]; exact hN_28
      have hN_41 : ∀ i, i < n → F_33 10 i = nI (Oq_16 i) := by rw [eF_33]; exact hN_29
      refine lv_iinc (v := 2) (lv' := [(3, .int 2), (0, .ref (h 0)), (1, .int (nI k1)), (2, .int (nI mo))]) hx hb dX5_aims_25 hl (k := 0) rfl (by decide) (by decide) rfl (fun ls hl => ?_)
      refine lv_goto (tgt := 8) hx hb dX5_aims_28 (by decide) ?_
      refine lv_iload_n hx hb dX5_aims_8 rfl (lv_at hl 0 rfl) ?_
      refine lv_iconst (v := 4) hx hb dX5_aims_9 (by decide) ?_
      refine lv_icmp_ge (tgt := 31) hx hb dX5_aims_10 (by decide) (fun c_42 => ?_) (fun c_42 => ?_)
      · exact absurd c_42 (by decide)
      · refine lv_aload_n hx hb dX5_aims_13 rfl (lv_at hl 1 rfl) ?_
        refine va_get (D := (dC, dI)) (ci := 5) (v := .ref (h 12)) (C := RX5) (T := TX5) (N := 33) hx hb hts hin_X5 hown hK hP 0 rfl rfl 19 (by decide) hw0 (fun _ h9 => h9) rfl dX5_aims_14 ?_
        refine lv_iload_n hx hb dX5_aims_17 rfl (lv_at hl 0 rfl) ?_
        refine lv_aload_n hx hb dX5_aims_18 rfl (lv_at hl 1 rfl) ?_
        refine va_get (D := (dC, dI)) (ci := 5) (v := .ref (h 4)) (C := RX5) (T := TX5) (N := 33) hx hb hts hin_X5 hown hK hP 0 rfl rfl 11 (by decide) hw2 (fun _ h9 => h9) rfl dX5_aims_19 ?_
        refine lv_iload_n hx hb dX5_aims_22 rfl (lv_at hl 0 rfl) ?_
        refine va_iald hx hb hK hP 4 0 rfl rfl (vp_in_nI (n := 2) (N := 4) (by decide) (by decide)) dX5_aims_23 ?_
        have hb_43 := bLm 2 (by omega)
        refine lv_topi (fun x_44 ex_44 => ?_)
        obtain rfl : x_44 = nI (Lm 2) := ex_44.trans ((congrArg (F_33 4) (by decide : (2 : Int32).toNatClampNeg = 2)).trans (hN_37 2 (by omega)))
        refine va_iast hx hb hK hP hD hS 12 0 rfl rfl (vp_in_nI (n := 2) (N := 4) (by decide) (by decide)) dX5_aims_24 (fun H locs hP hD hS => ?_)
        obtain ⟨F_45, eF_45⟩ : ∃ z : Nat → Nat → Int32, z = va_up F_33 12 (upd (F_33 12) (2 : Int32).toNatClampNeg (nI (Lm 2))) := ⟨_, rfl⟩
        have hP : va_P (dC, dI) vwCl (wM cI cZ cJ h F_45 G V) H := by rw [eF_45]; exact hP
        have hD : va_D A (wM cI cZ cJ h F_45 G V) := by rw [eF_45]; exact hD
        have hN_46 : ∀ i, i < 40 → F_45 3 i = nI (So i) := by rw [eF_45]; exact hN_34
        have hN_47 : ∀ i, i < 24 → F_45 7 i = nI (Hh i) := by rw [eF_45]; exact hN_35
        have hN_48 : ∀ i, i < 24 → F_45 8 i = nI (Wd i) := by rw [eF_45]; exact hN_36
        have hN_49 : ∀ i, i < 4 → F_45 4 i = nI (Lm i) := by rw [eF_45]; exact hN_37
        have hN_50 : ∀ i, i < n → F_45 1 i = nI (X i) := by rw [eF_45]; exact hN_38
        have hN_51 : ∀ i, i < n → F_45 2 i = nI (Y i) := by rw [eF_45]; exact hN_39
        have hN_52 : ∀ i, i < n → F_45 11 i = nI (Pq_12 i) := by rw [eF_45]; exact hN_40
        have hN_53 : ∀ i, i < n → F_45 10 i = nI (Oq_16 i) := by rw [eF_45]; exact hN_41
        refine lv_iinc (v := 3) (lv' := [(3, .int 3), (0, .ref (h 0)), (1, .int (nI k1)), (2, .int (nI mo))]) hx hb dX5_aims_25 hl (k := 0) rfl (by decide) (by decide) rfl (fun ls hl => ?_)
        refine lv_goto (tgt := 8) hx hb dX5_aims_28 (by decide) ?_
        refine lv_iload_n hx hb dX5_aims_8 rfl (lv_at hl 0 rfl) ?_
        refine lv_iconst (v := 4) hx hb dX5_aims_9 (by decide) ?_
        refine lv_icmp_ge (tgt := 31) hx hb dX5_aims_10 (by decide) (fun c_54 => ?_) (fun c_54 => ?_)
        · exact absurd c_54 (by decide)
        · refine lv_aload_n hx hb dX5_aims_13 rfl (lv_at hl 1 rfl) ?_
          refine va_get (D := (dC, dI)) (ci := 5) (v := .ref (h 12)) (C := RX5) (T := TX5) (N := 33) hx hb hts hin_X5 hown hK hP 0 rfl rfl 19 (by decide) hw0 (fun _ h9 => h9) rfl dX5_aims_14 ?_
          refine lv_iload_n hx hb dX5_aims_17 rfl (lv_at hl 0 rfl) ?_
          refine lv_aload_n hx hb dX5_aims_18 rfl (lv_at hl 1 rfl) ?_
          refine va_get (D := (dC, dI)) (ci := 5) (v := .ref (h 4)) (C := RX5) (T := TX5) (N := 33) hx hb hts hin_X5 hown hK hP 0 rfl rfl 11 (by decide) hw2 (fun _ h9 => h9) rfl dX5_aims_19 ?_
          refine lv_iload_n hx hb dX5_aims_22 rfl (lv_at hl 0 rfl) ?_
          refine va_iald hx hb hK hP 4 0 rfl rfl (vp_in_nI (n := 3) (N := 4) (by decide) (by decide)) dX5_aims_23 ?_
          have hb_55 := bLm 3 (by omega)
          refine lv_topi (fun x_56 ex_56 => ?_)
          obtain rfl : x_56 = nI (Lm 3) := ex_56.trans ((congrArg (F_45 4) (by decide : (3 : Int32).toNatClampNeg = 3)).trans (hN_49 3 (by omega)))
          refine va_iast hx hb hK hP hD hS 12 0 rfl rfl (vp_in_nI (n := 3) (N := 4) (by decide) (by decide)) dX5_aims_24 (fun H locs hP hD hS => ?_)
          obtain ⟨F_57, eF_57⟩ : ∃ z : Nat → Nat → Int32, z = va_up F_45 12 (upd (F_45 12) (3 : Int32).toNatClampNeg (nI (Lm 3))) := ⟨_, rfl⟩
          have hP : va_P (dC, dI) vwCl (wM cI cZ cJ h F_57 G V) H := by rw [eF_57]; exact hP
          have hD : va_D A (wM cI cZ cJ h F_57 G V) := by rw [eF_57]; exact hD
          have hN_58 : ∀ i, i < 40 → F_57 3 i = nI (So i) := by rw [eF_57]; exact hN_46
          have hN_59 : ∀ i, i < 24 → F_57 7 i = nI (Hh i) := by rw [eF_57]; exact hN_47
          have hN_60 : ∀ i, i < 24 → F_57 8 i = nI (Wd i) := by rw [eF_57]; exact hN_48
          have hN_61 : ∀ i, i < 4 → F_57 4 i = nI (Lm i) := by rw [eF_57]; exact hN_49
          have hN_62 : ∀ i, i < n → F_57 1 i = nI (X i) := by rw [eF_57]; exact hN_50
          have hN_63 : ∀ i, i < n → F_57 2 i = nI (Y i) := by rw [eF_57]; exact hN_51
          have hN_64 : ∀ i, i < n → F_57 11 i = nI (Pq_12 i) := by rw [eF_57]; exact hN_52
          have hN_65 : ∀ i, i < n → F_57 10 i = nI (Oq_16 i) := by rw [eF_57]; exact hN_53
          refine lv_iinc (v := 4) (lv' := [(3, .int 4), (0, .ref (h 0)), (1, .int (nI k1)), (2, .int (nI mo))]) hx hb dX5_aims_25 hl (k := 0) rfl (by decide) (by decide) rfl (fun ls hl => ?_)
          refine lv_goto (tgt := 8) hx hb dX5_aims_28 (by decide) ?_
          refine lv_iload_n hx hb dX5_aims_8 rfl (lv_at hl 0 rfl) ?_
          refine lv_iconst (v := 4) hx hb dX5_aims_9 (by decide) ?_
          refine lv_icmp_ge (tgt := 31) hx hb dX5_aims_10 (by decide) (fun c_66 => ?_) (fun c_66 => ?_)
          · have hN_67 : ∀ i, i < 4 → F_57 12 i = nI (Lm i) := by
              intro i hi
              rw [eF_57, eF_45, eF_33, eF_21]
              match i, hi with
              | 0, _ => rfl
              | 1, _ => rfl
              | 2, _ => rfl
              | 3, _ => rfl
              | i + 4, hi => exact absurd hi (by omega)
            have hfb : ∀ j, j ∉ ([10, 11, 12, 14] : List Nat) → F_57 j = F j := fun j hj => ((va_ne eF_57 (fun h => hj (by rw [h]; decide))).trans ((va_ne eF_45 (fun h => hj (by rw [h]; decide))).trans ((va_ne eF_33 (fun h => hj (by rw [h]; decide))).trans ((va_ne eF_21 (fun h => hj (by rw [h]; decide))).trans (hf_5 j (fun h => hj ((by decide : ∀ x ∈ ([10, 11] : List Nat), x ∈ ([10, 11, 12, 14] : List Nat)) j h)))))))
            have hc0 : F_57 14 = F 14 := (show ∀ j, j ∉ ([10, 11, 12] : List Nat) → F_57 j = F j from fun j hj => ((va_ne eF_57 (fun h => hj (by rw [h]; decide))).trans ((va_ne eF_45 (fun h => hj (by rw [h]; decide))).trans ((va_ne eF_33 (fun h => hj (by rw [h]; decide))).trans ((va_ne eF_21 (fun h => hj (by rw [h]; decide))).trans (hf_5 j (fun h => hj ((by decide : ∀ x ∈ ([10, 11] : List Nat), x ∈ ([10, 11, 12] : List Nat)) j h)))))))) 14 (by decide)
            refine lv_iconst (v := 0) hx hb dX5_aims_31 (by decide) ?_
            refine lv_istore_n (lv' := [(3, .int 0), (0, .ref (h 0)), (1, .int (nI k1)), (2, .int (nI mo))]) hx hb dX5_aims_32 rfl hl (by decide) rfl (fun ls hl => ?_)
            refine lv_iconst (v := 0) hx hb dX5_aims_33 (by decide) ?_
            refine lv_istore (lv' := [(4, .int 0), (3, .int 0), (0, .ref (h 0)), (1, .int (nI k1)), (2, .int (nI mo))]) hx hb dX5_aims_34 hl (by decide) rfl (fun ls hl => ?_)
            have loop36 : ∀ (fu : Nat) (t : Nat) (hv : Nat) (F1 : Nat → Nat → Int32), (t ≤ n) → (hv = aimH Pq_12 Oq_16 Lm t) → (∀ i, i < 4 → F1 12 i = nI (aimL Pq_12 Oq_16 Lm t i)) → (∀ i, i < 4 → aimL Pq_12 Oq_16 Lm t i ≤ 10000) → (F1 14 = aimC Pq_12 Oq_16 Lm (F_57 14) t) → (∀ j, j ∉ ([12, 14] : List Nat) → F1 j = F_57 j) → (n - t) < fu → ∀ (H : Heap) (locs : List Loc) (ls : Array Slot), va_P (dC, dI) vwCl (wM cI cZ cJ h F1 G V) H → va_D A (wM cI cZ cJ h F1 G V) → va_S A s.heap H locs → lv_has ls 8 [(0, .ref (h 0)), (1, .int (nI k1)), (2, .int (nI mo)), (3, .int (nI hv)), (4, .int (nI t))] → W p l e rm_X5_aims s m args below meth c H locs 0 0 Q (F0 m 36 ls []) := by
              intro fu
              induction fu with
              | zero => intro t hv F1 ht hh hL bL hC hfr hn_; exact absurd hn_ (Nat.not_lt_zero _)
              | succ fu ih36 =>
                intro t hv F1 ht hh hL bL hC hfr hn_ H locs ls hP hD hS hl
                have hN_68 : ∀ i, i < 40 → F1 3 i = nI (So i) := by rw [hfr 3 (by decide)]; exact hN_58
                have hN_69 : ∀ i, i < 24 → F1 7 i = nI (Hh i) := by rw [hfr 7 (by decide)]; exact hN_59
                have hN_70 : ∀ i, i < 24 → F1 8 i = nI (Wd i) := by rw [hfr 8 (by decide)]; exact hN_60
                have hN_71 : ∀ i, i < 4 → F1 4 i = nI (Lm i) := by rw [hfr 4 (by decide)]; exact hN_61
                have hN_72 : ∀ i, i < n → F1 1 i = nI (X i) := by rw [hfr 1 (by decide)]; exact hN_62
                have hN_73 : ∀ i, i < n → F1 2 i = nI (Y i) := by rw [hfr 2 (by decide)]; exact hN_63
                have hN_74 : ∀ i, i < n → F1 11 i = nI (Pq_12 i) := by rw [hfr 11 (by decide)]; exact hN_64
                have hN_75 : ∀ i, i < n → F1 10 i = nI (Oq_16 i) := by rw [hfr 10 (by decide)]; exact hN_65
                refine lv_iload hx hb dX5_aims_36 (lv_at hl 4 rfl) ?_
                refine lv_aload_n hx hb dX5_aims_38 rfl (lv_at hl 0 rfl) ?_
                refine va_get (D := (dC, dI)) (ci := 5) (v := .int (V 2)) (C := RX5) (T := TX5) (N := 33) hx hb hts hin_X5 hown hK hP 0 rfl rfl 2 (by decide) hw3 (fun _ h9 => h9) rfl dX5_aims_39 ?_
                refine lv_topi (fun x_76 ex_76 => ?_)
                obtain rfl : x_76 = nI n := ex_76.trans (hV2)
                refine lv_icmp_ge (tgt := 172) hx hb dX5_aims_42 (by decide) (fun c_77 => ?_) (fun c_77 => ?_)
                · have c_77 : n ≤ t := (nI_leI (a := n) (b := t) (by omega) (by omega)).mp c_77
                  refine lv_iload_n hx hb dX5_aims_172 rfl (lv_at hl 3 rfl) ?_
                  exact hret (nI hv) F1 H locs 173 ls rfl dX5_aims_173 (by
                              have ht_ : t = n := by omega
                              rw [ht_] at hh hL bL hC
                              have e1_ : htA (pwA X Y n SX SY Hh So Wd k1 mo) Lm n = aimH Pq_12 Oq_16 Lm n := by rw [htA, ← ePq_12, ← eOq_16]
                              have e2_ : lA (pwA X Y n SX SY Hh So Wd k1 mo) Lm n = aimL Pq_12 Oq_16 Lm n := by rw [lA, ← ePq_12, ← eOq_16]
                              refine ⟨by rw [hh, e1_], fun j hj => (hfr j (fun z => hj ((by decide : ∀ x ∈ ([12, 14] : List Nat), x ∈ ([10, 11, 12, 14] : List Nat)) j z))).trans (hfb j hj), ?_, ?_, fun i hi => ?_⟩
                              · rw [e2_]; exact hL
                              · rw [e2_]; exact bL
                              · rw [hC, cA, ← ePq_12, ← eOq_16]
                                exact aimC_any _ _ n i (by rw [eOq_16]; exact ordn_sur _ n i hi)) (hP) (hD) hS
                · have c_77 : ¬ n ≤ t := fun h => c_77 ((nI_leI (a := n) (b := t) (by omega) (by omega)).mpr h)
                  refine lv_aload_n hx hb dX5_aims_45 rfl (lv_at hl 0 rfl) ?_
                  refine va_get (D := (dC, dI)) (ci := 5) (v := .ref (h 10)) (C := RX5) (T := TX5) (N := 33) hx hb hts hin_X5 hown hK hP 0 rfl rfl 17 (by decide) hw4 (fun _ h9 => h9) rfl dX5_aims_46 ?_
                  refine lv_iload hx hb dX5_aims_49 (lv_at hl 4 rfl) ?_
                  refine va_iald hx hb hK hP 10 0 rfl rfl (vp_in_nI (n := t) (N := 40) (by omega) (by decide)) dX5_aims_51 ?_
                  have hb_78 := bN_17 t (by omega)
                  refine lv_topi (fun x_79 ex_79 => ?_)
                  obtain rfl : x_79 = nI (Oq_16 t) := ex_79.trans ((congrArg (F1 10) (nI_clamp (n := t) (by omega))).trans (hN_75 t (by omega)))
                  refine lv_istore (lv' := [(5, .int (nI (Oq_16 t))), (0, .ref (h 0)), (1, .int (nI k1)), (2, .int (nI mo)), (3, .int (nI hv)), (4, .int (nI t))]) hx hb dX5_aims_52 hl (by decide) rfl (fun ls hl => ?_)
                  refine lv_iconst (v := 0) hx hb dX5_aims_54 (by decide) ?_
                  refine lv_istore (lv' := [(6, .int 0), (5, .int (nI (Oq_16 t))), (0, .ref (h 0)), (1, .int (nI k1)), (2, .int (nI mo)), (3, .int (nI hv)), (4, .int (nI t))]) hx hb dX5_aims_55 hl (by decide) rfl (fun ls hl => ?_)
                  refine lv_iconst (v := 1) hx hb dX5_aims_57 (by decide) ?_
                  refine lv_istore (lv' := [(7, .int 1), (6, .int 0), (5, .int (nI (Oq_16 t))), (0, .ref (h 0)), (1, .int (nI k1)), (2, .int (nI mo)), (3, .int (nI hv)), (4, .int (nI t))]) hx hb dX5_aims_58 hl (by decide) rfl (fun ls hl => ?_)
                  have loop60 : ∀ (fu : Nat) (cc : Nat) (b : Nat), (1 ≤ cc) → (cc ≤ 4) → (b = best4 (aimL Pq_12 Oq_16 Lm t) (cc - 1)) → (b < 4) → (4 - cc) < fu → ∀ (H : Heap) (locs : List Loc) (ls : Array Slot), va_P (dC, dI) vwCl (wM cI cZ cJ h F1 G V) H → va_D A (wM cI cZ cJ h F1 G V) → va_S A s.heap H locs → lv_has ls 8 [(0, .ref (h 0)), (1, .int (nI k1)), (2, .int (nI mo)), (3, .int (nI hv)), (4, .int (nI t)), (5, .int (nI (Oq_16 t))), (6, .int (nI b)), (7, .int (nI cc))] → W p l e rm_X5_aims s m args below meth c H locs 0 0 Q (F0 m 60 ls []) := by
                    intro fu
                    induction fu with
                    | zero => intro cc b hk hk2 hbb hb2 hn_; exact absurd hn_ (Nat.not_lt_zero _)
                    | succ fu ih60 =>
                      intro cc b hk hk2 hbb hb2 hn_ H locs ls hP hD hS hl
                      refine lv_iload hx hb dX5_aims_60 (lv_at hl 7 rfl) ?_
                      refine lv_iconst (v := 4) hx hb dX5_aims_62 (by decide) ?_
                      refine lv_icmp_ge (tgt := 93) hx hb dX5_aims_63 (by decide) (fun c_80 => ?_) (fun c_80 => ?_)
                      · have c_80 : 4 ≤ cc := (nI_leI (a := 4) (b := cc) (by omega) (by omega)).mp c_80
                        obtain rfl : b = best4 (aimL Pq_12 Oq_16 Lm t) 3 := by rw [hbb, show cc - 1 = 3 by omega]
                        refine lv_aload_n hx hb dX5_aims_93 rfl (lv_at hl 0 rfl) ?_
                        refine va_get (D := (dC, dI)) (ci := 5) (v := .ref (h 14)) (C := RX5) (T := TX5) (N := 33) hx hb hts hin_X5 hown hK hP 0 rfl rfl 21 (by decide) hw5 (fun _ h9 => h9) rfl dX5_aims_94 ?_
                        refine lv_iload hx hb dX5_aims_97 (lv_at hl 5 rfl) ?_
                        refine lv_aload_n hx hb dX5_aims_99 rfl (lv_at hl 0 rfl) ?_
                        refine va_get (D := (dC, dI)) (ci := 5) (v := .ref (h 11)) (C := RX5) (T := TX5) (N := 33) hx hb hts hin_X5 hown hK hP 0 rfl rfl 18 (by decide) hw6 (fun _ h9 => h9) rfl dX5_aims_100 ?_
                        refine lv_iload hx hb dX5_aims_103 (lv_at hl 5 rfl) ?_
                        refine va_iald hx hb hK hP 11 0 rfl rfl (vp_in_nI (n := Oq_16 t) (N := 40) (by omega) (by decide)) dX5_aims_105 ?_
                        have hb_81 := bN_14 (Oq_16 t) (by omega)
                        refine lv_topi (fun x_82 ex_82 => ?_)
                        obtain rfl : x_82 = nI (Pq_12 (Oq_16 t)) := ex_82.trans ((congrArg (F1 11) (nI_clamp (n := Oq_16 t) (by omega))).trans (hN_74 (Oq_16 t) (by omega)))
                        refine lv_aload_n hx hb dX5_aims_106 rfl (lv_at hl 0 rfl) ?_
                        refine va_get (D := (dC, dI)) (ci := 5) (v := .ref (h 12)) (C := RX5) (T := TX5) (N := 33) hx hb hts hin_X5 hown hK hP 0 rfl rfl 19 (by decide) hw0 (fun _ h9 => h9) rfl dX5_aims_107 ?_
                        refine lv_iload hx hb dX5_aims_110 (lv_at hl 6 rfl) ?_
                        refine va_iald hx hb hK hP 12 0 rfl rfl (vp_in_nI (n := best4 (aimL Pq_12 Oq_16 Lm t) 3) (N := 4) (by omega) (by decide)) dX5_aims_112 ?_
                        have hb_83 := bL (best4 (aimL Pq_12 Oq_16 Lm t) 3) (by omega)
                        try dsimp only at hb_83
                        refine lv_topi (fun x_84 ex_84 => ?_)
                        obtain rfl : x_84 = nI ((aimL Pq_12 Oq_16 Lm t) (best4 (aimL Pq_12 Oq_16 Lm t) 3)) := ex_84.trans ((congrArg (F1 12) (nI_clamp (n := best4 (aimL Pq_12 Oq_16 Lm t) 3) (by omega))).trans (hL (best4 (aimL Pq_12 Oq_16 Lm t) 3) (by omega)))
                        refine lv_icmp_gt (tgt := 121) hx hb dX5_aims_113 (by decide) (fun c_85 => ?_) (fun c_85 => ?_)
                        · have c_85 : ((aimL Pq_12 Oq_16 Lm t) (best4 (aimL Pq_12 Oq_16 Lm t) 3)) < (Pq_12 (Oq_16 t)) := (nI_ltI (a := (aimL Pq_12 Oq_16 Lm t) (best4 (aimL Pq_12 Oq_16 Lm t) 3)) (b := Pq_12 (Oq_16 t)) (by omega) (by omega)).mp c_85
                          refine lv_bipush (v := (-2)) hx hb dX5_aims_121 (by decide) ?_
                          refine va_iast hx hb hK hP hD hS 14 0 rfl rfl (vp_in_nI (n := Oq_16 t) (N := 40) (by omega) (by decide)) dX5_aims_123 (fun H locs hP hD hS => ?_)
                          obtain ⟨F_86, eF_86⟩ : ∃ z : Nat → Nat → Int32, z = va_up F1 14 (upd (F1 14) (nI (Oq_16 t)).toNatClampNeg (-2)) := ⟨_, rfl⟩
                          have hP : va_P (dC, dI) vwCl (wM cI cZ cJ h F_86 G V) H := by rw [eF_86]; exact hP
                          have hD : va_D A (wM cI cZ cJ h F_86 G V) := by rw [eF_86]; exact hD
                          have hN_87 : ∀ i, i < 40 → F_86 3 i = nI (So i) := by rw [eF_86]; exact hN_68
                          have hN_88 : ∀ i, i < 24 → F_86 7 i = nI (Hh i) := by rw [eF_86]; exact hN_69
                          have hN_89 : ∀ i, i < 24 → F_86 8 i = nI (Wd i) := by rw [eF_86]; exact hN_70
                          have hN_90 : ∀ i, i < 4 → F_86 4 i = nI (Lm i) := by rw [eF_86]; exact hN_71
                          have hN_91 : ∀ i, i < n → F_86 1 i = nI (X i) := by rw [eF_86]; exact hN_72
                          have hN_92 : ∀ i, i < n → F_86 2 i = nI (Y i) := by rw [eF_86]; exact hN_73
                          have hN_93 : ∀ i, i < n → F_86 11 i = nI (Pq_12 i) := by rw [eF_86]; exact hN_74
                          have hN_94 : ∀ i, i < n → F_86 10 i = nI (Oq_16 i) := by rw [eF_86]; exact hN_75
                          have hN_95 : ∀ i, i < 4 → F_86 12 i = nI ((aimL Pq_12 Oq_16 Lm t) i) := by rw [eF_86]; exact hL
                          have hE_96 : F_86 14 (Oq_16 t) = (-2) := by rw [eF_86]; show upd _ (nI (Oq_16 t)).toNatClampNeg _ _ = _; rw [nI_clamp (by omega)]; exact pk_us
                          refine lv_aload_n hx hb dX5_aims_124 rfl (lv_at hl 0 rfl) ?_
                          refine va_get (D := (dC, dI)) (ci := 5) (v := .ref (h 14)) (C := RX5) (T := TX5) (N := 33) hx hb hts hin_X5 hown hK hP 0 rfl rfl 21 (by decide) hw5 (fun _ h9 => h9) rfl dX5_aims_125 ?_
                          refine lv_iload hx hb dX5_aims_128 (lv_at hl 5 rfl) ?_
                          refine va_iald hx hb hK hP 14 0 rfl rfl (vp_in_nI (n := Oq_16 t) (N := 40) (by omega) (by decide)) dX5_aims_130 ?_
                          refine lv_topi (fun x_97 ex_97 => ?_)
                          obtain rfl : x_97 = (-2) := ex_97.trans ((congrArg (F_86 14) (nI_clamp (n := Oq_16 t) (by omega))).trans hE_96)
                          refine lv_bipush (v := (-2)) hx hb dX5_aims_131 (by decide) ?_
                          refine lv_icmp_ne (tgt := 139) hx hb dX5_aims_133 (by decide) (fun c_98 => ?_) (fun c_98 => ?_)
                          · exact absurd c_98 (by decide)
                          · refine lv_goto (tgt := 166) hx hb dX5_aims_136 (by decide) ?_
                            refine lv_iinc (v := nI (t + 1)) (lv' := [(4, .int (nI (t + 1))), (0, .ref (h 0)), (1, .int (nI k1)), (2, .int (nI mo)), (3, .int (nI hv)), (5, .int (nI (Oq_16 t))), (6, .int (nI (best4 (aimL Pq_12 Oq_16 Lm t) 3))), (7, .int (nI cc))]) hx hb dX5_aims_166 hl (k := 4) rfl (nI_1 _) (by decide) rfl (fun ls hl => ?_)
                            refine lv_goto (tgt := 36) hx hb dX5_aims_169 (by decide) ?_
                            have hb_99 : aimL Pq_12 Oq_16 Lm (t + 1) = aimL Pq_12 Oq_16 Lm t := by rw [aimL, if_neg (by omega)]
                            have hb_100 : F_86 14 = aimC Pq_12 Oq_16 Lm (F_57 14) (t + 1) := by
                              rw [eF_86]
                              show upd (F1 14) _ _ = _
                              rw [nI_clamp (by omega), hC, aimC, if_neg (by omega)]
                            exact ih36 (t + 1) hv F_86 (by omega) (by rw [aimH, if_neg (by omega), hh]) (by rw [hb_99]; exact hN_95) (by rw [hb_99]; exact bL) hb_100 (fun j hj => ((va_ne eF_86 (fun h => hj (by rw [h]; decide))).trans (hfr j hj))) (by omega) H locs ls hP hD hS (lv_sub hl [1, 2, 3, 4, 0] rfl)
                        · have c_85 : ¬ ((aimL Pq_12 Oq_16 Lm t) (best4 (aimL Pq_12 Oq_16 Lm t) 3)) < (Pq_12 (Oq_16 t)) := fun h => c_85 ((nI_ltI (a := (aimL Pq_12 Oq_16 Lm t) (best4 (aimL Pq_12 Oq_16 Lm t) 3)) (b := Pq_12 (Oq_16 t)) (by omega) (by omega)).mpr h)
                          refine lv_iload hx hb dX5_aims_116 (lv_at hl 6 rfl) ?_
                          refine lv_goto (tgt := 123) hx hb dX5_aims_118 (by decide) ?_
                          refine va_iast hx hb hK hP hD hS 14 0 rfl rfl (vp_in_nI (n := Oq_16 t) (N := 40) (by omega) (by decide)) dX5_aims_123 (fun H locs hP hD hS => ?_)
                          obtain ⟨F_101, eF_101⟩ : ∃ z : Nat → Nat → Int32, z = va_up F1 14 (upd (F1 14) (nI (Oq_16 t)).toNatClampNeg (nI (best4 (aimL Pq_12 Oq_16 Lm t) 3))) := ⟨_, rfl⟩
                          have hP : va_P (dC, dI) vwCl (wM cI cZ cJ h F_101 G V) H := by rw [eF_101]; exact hP
                          have hD : va_D A (wM cI cZ cJ h F_101 G V) := by rw [eF_101]; exact hD
                          have hN_102 : ∀ i, i < 40 → F_101 3 i = nI (So i) := by rw [eF_101]; exact hN_68
                          have hN_103 : ∀ i, i < 24 → F_101 7 i = nI (Hh i) := by rw [eF_101]; exact hN_69
                          have hN_104 : ∀ i, i < 24 → F_101 8 i = nI (Wd i) := by rw [eF_101]; exact hN_70
                          have hN_105 : ∀ i, i < 4 → F_101 4 i = nI (Lm i) := by rw [eF_101]; exact hN_71
                          have hN_106 : ∀ i, i < n → F_101 1 i = nI (X i) := by rw [eF_101]; exact hN_72
                          have hN_107 : ∀ i, i < n → F_101 2 i = nI (Y i) := by rw [eF_101]; exact hN_73
                          have hN_108 : ∀ i, i < n → F_101 11 i = nI (Pq_12 i) := by rw [eF_101]; exact hN_74
                          have hN_109 : ∀ i, i < n → F_101 10 i = nI (Oq_16 i) := by rw [eF_101]; exact hN_75
                          have hN_110 : ∀ i, i < 4 → F_101 12 i = nI ((aimL Pq_12 Oq_16 Lm t) i) := by rw [eF_101]; exact hL
                          refine lv_aload_n hx hb dX5_aims_124 rfl (lv_at hl 0 rfl) ?_
                          refine va_get (D := (dC, dI)) (ci := 5) (v := .ref (h 14)) (C := RX5) (T := TX5) (N := 33) hx hb hts hin_X5 hown hK hP 0 rfl rfl 21 (by decide) hw5 (fun _ h9 => h9) rfl dX5_aims_125 ?_
                          refine lv_iload hx hb dX5_aims_128 (lv_at hl 5 rfl) ?_
                          refine va_iald hx hb hK hP 14 0 rfl rfl (vp_in_nI (n := Oq_16 t) (N := 40) (by omega) (by decide)) dX5_aims_130 ?_
                          have hE_111 : F_101 14 (Oq_16 t) = nI (best4 (aimL Pq_12 Oq_16 Lm t) 3) := by rw [eF_101]; show upd _ (nI (Oq_16 t)).toNatClampNeg _ _ = _; rw [nI_clamp (by omega)]; exact pk_us
                          refine lv_topi (fun x_112 ex_112 => ?_)
                          obtain rfl : x_112 = nI (best4 (aimL Pq_12 Oq_16 Lm t) 3) := ex_112.trans ((congrArg (F_101 14) (nI_clamp (n := Oq_16 t) (by omega))).trans hE_111)
                          refine lv_bipush (v := (-2)) hx hb dX5_aims_131 (by decide) ?_
                          refine lv_icmp_ne (tgt := 139) hx hb dX5_aims_133 (by decide) (fun c_113 => ?_) (fun c_113 => ?_)
                          · have c_113 : eqI (nI (best4 (aimL Pq_12 Oq_16 Lm t) 3)) (-2) = false := decide_eq_false c_113
                            refine lv_aload_n hx hb dX5_aims_139 rfl (lv_at hl 0 rfl) ?_
                            refine va_get (D := (dC, dI)) (ci := 5) (v := .ref (h 12)) (C := RX5) (T := TX5) (N := 33) hx hb hts hin_X5 hown hK hP 0 rfl rfl 19 (by decide) hw0 (fun _ h9 => h9) rfl dX5_aims_140 ?_
                            refine lv_iload hx hb dX5_aims_143 (lv_at hl 6 rfl) ?_
                            refine lv_dup2_11 hx hb dX5_aims_145 rfl rfl ?_
                            refine va_iald hx hb hK hP 12 0 rfl rfl (vp_in_nI (n := best4 (aimL Pq_12 Oq_16 Lm t) 3) (N := 4) (by omega) (by decide)) dX5_aims_146 ?_
                            have hb_114 := bL (best4 (aimL Pq_12 Oq_16 Lm t) 3) (by omega)
                            try dsimp only at hb_114
                            refine lv_topi (fun x_115 ex_115 => ?_)
                            obtain rfl : x_115 = nI ((aimL Pq_12 Oq_16 Lm t) (best4 (aimL Pq_12 Oq_16 Lm t) 3)) := ex_115.trans ((congrArg (F_101 12) (nI_clamp (n := best4 (aimL Pq_12 Oq_16 Lm t) 3) (by omega))).trans (hN_110 (best4 (aimL Pq_12 Oq_16 Lm t) 3) (by omega)))
                            refine lv_aload_n hx hb dX5_aims_147 rfl (lv_at hl 0 rfl) ?_
                            refine va_get (D := (dC, dI)) (ci := 5) (v := .ref (h 11)) (C := RX5) (T := TX5) (N := 33) hx hb hts hin_X5 hown hK hP 0 rfl rfl 18 (by decide) hw6 (fun _ h9 => h9) rfl dX5_aims_148 ?_
                            refine lv_iload hx hb dX5_aims_151 (lv_at hl 5 rfl) ?_
                            refine va_iald hx hb hK hP 11 0 rfl rfl (vp_in_nI (n := Oq_16 t) (N := 40) (by omega) (by decide)) dX5_aims_153 ?_
                            have hb_116 := bN_14 (Oq_16 t) (by omega)
                            refine lv_topi (fun x_117 ex_117 => ?_)
                            obtain rfl : x_117 = nI (Pq_12 (Oq_16 t)) := ex_117.trans ((congrArg (F_101 11) (nI_clamp (n := Oq_16 t) (by omega))).trans (hN_108 (Oq_16 t) (by omega)))
                            refine lv_isub hx hb dX5_aims_154 ?_
                            refine lv_topi (fun x_118 ex_118 => ?_)
                            obtain rfl : x_118 = nI (((aimL Pq_12 Oq_16 Lm t) (best4 (aimL Pq_12 Oq_16 Lm t) 3)) - (Pq_12 (Oq_16 t))) := ex_118.trans (pk_sub (a := (aimL Pq_12 Oq_16 Lm t) (best4 (aimL Pq_12 Oq_16 Lm t) 3)) (b := Pq_12 (Oq_16 t)) (by omega))
                            refine va_iast hx hb hK hP hD hS 12 0 rfl rfl (vp_in_nI (n := best4 (aimL Pq_12 Oq_16 Lm t) 3) (N := 4) (by omega) (by decide)) dX5_aims_155 (fun H locs hP hD hS => ?_)
                            obtain ⟨F_119, eF_119⟩ : ∃ z : Nat → Nat → Int32, z = va_up F_101 12 (upd (F_101 12) (nI (best4 (aimL Pq_12 Oq_16 Lm t) 3)).toNatClampNeg (nI (((aimL Pq_12 Oq_16 Lm t) (best4 (aimL Pq_12 Oq_16 Lm t) 3)) - (Pq_12 (Oq_16 t))))) := ⟨_, rfl⟩
                            have hP : va_P (dC, dI) vwCl (wM cI cZ cJ h F_119 G V) H := by rw [eF_119]; exact hP
                            have hD : va_D A (wM cI cZ cJ h F_119 G V) := by rw [eF_119]; exact hD
                            have hN_120 : ∀ i, i < 40 → F_119 3 i = nI (So i) := by rw [eF_119]; exact hN_102
                            have hN_121 : ∀ i, i < 24 → F_119 7 i = nI (Hh i) := by rw [eF_119]; exact hN_103
                            have hN_122 : ∀ i, i < 24 → F_119 8 i = nI (Wd i) := by rw [eF_119]; exact hN_104
                            have hN_123 : ∀ i, i < 4 → F_119 4 i = nI (Lm i) := by rw [eF_119]; exact hN_105
                            have hN_124 : ∀ i, i < n → F_119 1 i = nI (X i) := by rw [eF_119]; exact hN_106
                            have hN_125 : ∀ i, i < n → F_119 2 i = nI (Y i) := by rw [eF_119]; exact hN_107
                            have hN_126 : ∀ i, i < n → F_119 11 i = nI (Pq_12 i) := by rw [eF_119]; exact hN_108
                            have hN_127 : ∀ i, i < n → F_119 10 i = nI (Oq_16 i) := by rw [eF_119]; exact hN_109
                            obtain ⟨S_128, eS_128⟩ : ∃ z : Nat → Nat, z = nup (aimL Pq_12 Oq_16 Lm t) (best4 (aimL Pq_12 Oq_16 Lm t) 3) (((aimL Pq_12 Oq_16 Lm t) (best4 (aimL Pq_12 Oq_16 Lm t) 3)) - (Pq_12 (Oq_16 t))) := ⟨_, rfl⟩
                            have hN_129 : ∀ i, i < 4 → F_119 12 i = nI (S_128 i) := by rw [eF_119, eS_128]; show ∀ i, i < 4 → upd (F_101 12) (nI (best4 (aimL Pq_12 Oq_16 Lm t) 3)).toNatClampNeg (nI (((aimL Pq_12 Oq_16 Lm t) (best4 (aimL Pq_12 Oq_16 Lm t) 3)) - (Pq_12 (Oq_16 t)))) i = nI _; exact nf_put hN_110 (nI_clamp (n := best4 (aimL Pq_12 Oq_16 Lm t) 3) (by omega))
                            have bN_130 : ∀ i, i < 4 → S_128 i ≤ 10000 := by rw [eS_128]; exact nb_put bL (by omega)
                            refine lv_iload_n hx hb dX5_aims_156 rfl (lv_at hl 3 rfl) ?_
                            refine lv_aload_n hx hb dX5_aims_157 rfl (lv_at hl 0 rfl) ?_
                            refine va_get (D := (dC, dI)) (ci := 5) (v := .ref (h 11)) (C := RX5) (T := TX5) (N := 33) hx hb hts hin_X5 hown hK hP 0 rfl rfl 18 (by decide) hw6 (fun _ h9 => h9) rfl dX5_aims_158 ?_
                            refine lv_iload hx hb dX5_aims_161 (lv_at hl 5 rfl) ?_
                            refine va_iald hx hb hK hP 11 0 rfl rfl (vp_in_nI (n := Oq_16 t) (N := 40) (by omega) (by decide)) dX5_aims_163 ?_
                            have hb_131 := bN_14 (Oq_16 t) (by omega)
                            refine lv_topi (fun x_132 ex_132 => ?_)
                            obtain rfl : x_132 = nI (Pq_12 (Oq_16 t)) := ex_132.trans ((congrArg (F_119 11) (nI_clamp (n := Oq_16 t) (by omega))).trans (hN_126 (Oq_16 t) (by omega)))
                            refine lv_iadd hx hb dX5_aims_164 ?_
                            refine lv_topi (fun x_133 ex_133 => ?_)
                            obtain rfl : x_133 = nI (hv + (Pq_12 (Oq_16 t))) := ex_133.trans (nI_add hv (Pq_12 (Oq_16 t)))
                            refine lv_istore_n (lv' := [(3, .int (nI (hv + (Pq_12 (Oq_16 t))))), (0, .ref (h 0)), (1, .int (nI k1)), (2, .int (nI mo)), (4, .int (nI t)), (5, .int (nI (Oq_16 t))), (6, .int (nI (best4 (aimL Pq_12 Oq_16 Lm t) 3))), (7, .int (nI cc))]) hx hb dX5_aims_165 rfl hl (by decide) rfl (fun ls hl => ?_)
                            refine lv_iinc (v := nI (t + 1)) (lv' := [(4, .int (nI (t + 1))), (3, .int (nI (hv + (Pq_12 (Oq_16 t))))), (0, .ref (h 0)), (1, .int (nI k1)), (2, .int (nI mo)), (5, .int (nI (Oq_16 t))), (6, .int (nI (best4 (aimL Pq_12 Oq_16 Lm t) 3))), (7, .int (nI cc))]) hx hb dX5_aims_166 hl (k := 4) rfl (nI_1 _) (by decide) rfl (fun ls hl => ?_)
                            refine lv_goto (tgt := 36) hx hb dX5_aims_169 (by decide) ?_
                            have hb_134 : S_128 = aimL Pq_12 Oq_16 Lm (t + 1) := by rw [eS_128, aimL, if_pos (by omega)]
                            rw [hb_134] at hN_129 bN_130
                            have hb_135 : F_119 14 = aimC Pq_12 Oq_16 Lm (F_57 14) (t + 1) := by
                              rw [eF_119]
                              show F_101 14 = _
                              rw [eF_101]
                              show upd (F1 14) _ _ = _
                              rw [nI_clamp (by omega), hC, aimC, if_pos (by omega)]
                            exact ih36 (t + 1) (hv + (Pq_12 (Oq_16 t))) F_119 (by omega) (by rw [aimH, if_pos (by omega), hh]) hN_129 bN_130 hb_135 (fun j hj => ((va_ne eF_119 (fun h => hj (by rw [h]; decide))).trans ((va_ne eF_101 (fun h => hj (by rw [h]; decide))).trans (hfr j hj)))) (by omega) H locs ls hP hD hS (lv_sub hl [2, 3, 4, 1, 0] rfl)
                          · exact absurd c_113 ((by decide : ∀ k, k < 4 → nI k ≠ -2) _ (by omega))
                      · have c_80 : ¬ 4 ≤ cc := fun h => c_80 ((nI_leI (a := 4) (b := cc) (by omega) (by omega)).mpr h)
                        refine lv_aload_n hx hb dX5_aims_66 rfl (lv_at hl 0 rfl) ?_
                        refine va_get (D := (dC, dI)) (ci := 5) (v := .ref (h 12)) (C := RX5) (T := TX5) (N := 33) hx hb hts hin_X5 hown hK hP 0 rfl rfl 19 (by decide) hw0 (fun _ h9 => h9) rfl dX5_aims_67 ?_
                        refine lv_iload hx hb dX5_aims_70 (lv_at hl 7 rfl) ?_
                        refine va_iald hx hb hK hP 12 0 rfl rfl (vp_in_nI (n := cc) (N := 4) (by omega) (by decide)) dX5_aims_72 ?_
                        have hb_136 := bL cc (by omega)
                        try dsimp only at hb_136
                        refine lv_topi (fun x_137 ex_137 => ?_)
                        obtain rfl : x_137 = nI ((aimL Pq_12 Oq_16 Lm t) cc) := ex_137.trans ((congrArg (F1 12) (nI_clamp (n := cc) (by omega))).trans (hL cc (by omega)))
                        refine lv_aload_n hx hb dX5_aims_73 rfl (lv_at hl 0 rfl) ?_
                        refine va_get (D := (dC, dI)) (ci := 5) (v := .ref (h 12)) (C := RX5) (T := TX5) (N := 33) hx hb hts hin_X5 hown hK hP 0 rfl rfl 19 (by decide) hw0 (fun _ h9 => h9) rfl dX5_aims_74 ?_
                        refine lv_iload hx hb dX5_aims_77 (lv_at hl 6 rfl) ?_
                        refine va_iald hx hb hK hP 12 0 rfl rfl (vp_in_nI (n := b) (N := 4) (by omega) (by decide)) dX5_aims_79 ?_
                        have hb_138 := bL b (by omega)
                        try dsimp only at hb_138
                        refine lv_topi (fun x_139 ex_139 => ?_)
                        obtain rfl : x_139 = nI ((aimL Pq_12 Oq_16 Lm t) b) := ex_139.trans ((congrArg (F1 12) (nI_clamp (n := b) (by omega))).trans (hL b (by omega)))
                        refine lv_icmp_le (tgt := 87) hx hb dX5_aims_80 (by decide) (fun c_140 => ?_) (fun c_140 => ?_)
                        · have c_140 : ((aimL Pq_12 Oq_16 Lm t) cc) ≤ ((aimL Pq_12 Oq_16 Lm t) b) := (nI_leI (a := (aimL Pq_12 Oq_16 Lm t) cc) (b := (aimL Pq_12 Oq_16 Lm t) b) (by omega) (by omega)).mp c_140
                          refine lv_iinc (v := nI (cc + 1)) (lv' := [(7, .int (nI (cc + 1))), (0, .ref (h 0)), (1, .int (nI k1)), (2, .int (nI mo)), (3, .int (nI hv)), (4, .int (nI t)), (5, .int (nI (Oq_16 t))), (6, .int (nI b))]) hx hb dX5_aims_87 hl (k := 7) rfl (nI_1 _) (by decide) rfl (fun ls hl => ?_)
                          refine lv_goto (tgt := 60) hx hb dX5_aims_90 (by decide) ?_
                          exact ih60 (cc + 1) b (by omega) (by omega) (by rw [show cc + 1 - 1 = cc by omega, best4_s (aimL Pq_12 Oq_16 Lm t) (by omega), ← hbb, if_neg (by omega)]) (by omega) (by omega) H locs ls hP hD hS (lv_sub hl [1, 2, 3, 4, 5, 6, 7, 0] rfl)
                        · have c_140 : ¬ ((aimL Pq_12 Oq_16 Lm t) cc) ≤ ((aimL Pq_12 Oq_16 Lm t) b) := fun h => c_140 ((nI_leI (a := (aimL Pq_12 Oq_16 Lm t) cc) (b := (aimL Pq_12 Oq_16 Lm t) b) (by omega) (by omega)).mpr h)
                          refine lv_iload hx hb dX5_aims_83 (lv_at hl 7 rfl) ?_
                          refine lv_istore (lv' := [(6, .int (nI cc)), (0, .ref (h 0)), (1, .int (nI k1)), (2, .int (nI mo)), (3, .int (nI hv)), (4, .int (nI t)), (5, .int (nI (Oq_16 t))), (7, .int (nI cc))]) hx hb dX5_aims_85 hl (by decide) rfl (fun ls hl => ?_)
                          refine lv_iinc (v := nI (cc + 1)) (lv' := [(7, .int (nI (cc + 1))), (6, .int (nI cc)), (0, .ref (h 0)), (1, .int (nI k1)), (2, .int (nI mo)), (3, .int (nI hv)), (4, .int (nI t)), (5, .int (nI (Oq_16 t)))]) hx hb dX5_aims_87 hl (k := 7) rfl (nI_1 _) (by decide) rfl (fun ls hl => ?_)
                          refine lv_goto (tgt := 60) hx hb dX5_aims_90 (by decide) ?_
                          exact ih60 (cc + 1) cc (by omega) (by omega) (by rw [show cc + 1 - 1 = cc by omega, best4_s (aimL Pq_12 Oq_16 Lm t) (by omega), ← hbb, if_pos (by omega)]) (by omega) (by omega) H locs ls hP hD hS (lv_sub hl [2, 3, 4, 5, 6, 7, 1, 0] rfl)
                  exact loop60 _ 1 0 (by omega) (by omega) rfl (by omega) (Nat.lt_succ_self _) H locs ls hP hD hS (lv_sub hl [3, 4, 5, 6, 7, 2, 1, 0] rfl)
            exact loop36 _ 0 0 F_57 (by omega) rfl hN_67 bLm rfl (fun _ _ => rfl) (Nat.lt_succ_self _) H locs ls hP hD hS (lv_sub hl [2, 3, 4, 1, 0] rfl)
          · exact absurd c_66 (by decide)
