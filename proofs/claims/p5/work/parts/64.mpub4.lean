theorem isW_from {v : Int32} {w : Nat} (hw : w ≤ 24) (h : isW v (nI w) 23 = true) : ∃ k : Nat, (w ≤ k ∧ k ≤ 23) ∧ v = nI k := by
  simp only [isW, ltI, Bool.and_eq_true, Bool.not_eq_true', decide_eq_false_iff_not] at h
  have h0 : ¬ v < 0 := fun q => h.1 (Int32.lt_of_lt_of_le q (nI_pos' (by omega)))
  obtain ⟨j, hj, e⟩ := nI_of h0
  refine ⟨j, ?_, e⟩
  have q1 := h.1
  have q2 := h.2
  rw [e] at q1 q2
  have a := (nI_leI (a := w) (b := j) (by omega) hj).mp (Int32.not_lt.mp q1)
  have b := (nI_leI (a := j) (b := 23) hj (by omega)).mp (Int32.not_lt.mp q2)
  exact ⟨a, b⟩
def rm_X5_runs : Room := { frames := 1, cells := 0, slots := 0, locals := 22 }
set_option maxHeartbeats 4000000 in
set_option maxRecDepth 100000 in
theorem c_X5_runs (l : Launch) (dC : Nat → ClassId) (dI : Nat → Nat → Nat) (cI cZ cJ : ClassId) (h : Nat → Nat) (F : Nat → Nat → Int32) (G : Nat → Int64) (V : Nat → Int32) (n : Nat) (hV2 : V 2 = nI n) (bV2 : n ≤ 40) (nw : Nat) (hV3 : V 3 = nI nw) (bV3 : nw ≤ 23) (un : Nat) (hV4 : V 4 = nI un) (bV4 : un ≤ 200) (d : Nat) (hV6 : V 6 = nI d) (bV6 : d ≤ 20) (wm : Nat) (hV7 : V 7 = nI wm) (bV7 : wm ≤ 1) (pf : Nat) (hV10 : V 10 = nI pf) (bV10 : pf ≤ 24) (sh : Nat) (hV11 : V 11 = nI sh) (bV11 : sh ≤ 12) (So : Nat → Nat) (hSo : ∀ i, i < 40 → F 3 i = nI (So i)) (bSo : ∀ i, i < 40 → So i ≤ 90) (Lm : Nat → Nat) (hLm : ∀ i, i < 4 → F 4 i = nI (Lm i)) (bLm : ∀ i, i < 4 → Lm i ≤ 10000) (Hh : Nat → Nat) (hHh : ∀ i, i < 24 → F 7 i = nI (Hh i)) (bHh : ∀ i, i < 24 → Hh i ≤ 9) (Wd : Nat → Nat) (hWd : ∀ i, i < 24 → F 8 i = nI (Wd i)) (bWd : ∀ i, i < 24 → Wd i ≤ 99) (Pr : Nat → Nat) (hPr : ∀ i, i < 24 → F 9 i = nI (Pr i)) (bPr : ∀ i, i < 24 → Pr i ≤ 999) (p0 : Int32)  (am : Nat) (hV8 : V 8 = nI am - 1) (bam : am ≤ 41) : CtI l (dC, dI) vwCl (tys3 cI cZ cJ) yX5_runs wsX5_runs rm_X5_runs [.ref (h 0), .int p0] (wM cI cZ cJ h F G V) (S := (Nat → Nat → Int32) × (Nat → Int64) × (Nat → Int32)) (fun r u => (True) ∧ IM u.1 u.2.2) (fun u => wM cI cZ cJ h u.1 u.2.1 u.2.2) 0 0 := by
  refine ct_I (cc := cX5_runs) (maxL := 2) (ty := .int) (own := RX5) (by decide) rfl rfl (Nat.le_of_ble_eq_true rfl) (lv := [(0, .ref (h 0)), (1, .int p0)]) rfl ?_
  intro p e s m args below meth c A Q ls fx hK hP hD hA hl hret
  obtain ⟨hx, hb, hml, hown, hts⟩ := id fx
  have hS : va_S A s.heap s.heap [] := va_S.rf
  have hw0 := hts (.fieldLink RX5 1 "MirrorTowerModel" "thrown" "I") (by decide +kernel)
  have hin_X5 : ∀ w ∈ u_ws RX5 TX5 33, w ∈ wsX5_runs := by decide +kernel
  have hw2 := hts (.fieldLink RX5 75 "MirrorTowerModel" "planFrom" "I") (by decide +kernel)
  have hw3 := hts (.fieldLink RX5 71 "MirrorTowerModel" "isRun" "[Z") (by decide +kernel)
  obtain ⟨H, hH⟩ : ∃ H, H = s.heap := ⟨_, rfl⟩
  rw [← hH] at hP ⊢
  have hS : va_S A s.heap H [] := by rw [hH]; exact hS
  generalize ([] : List Loc) = locs at hS ⊢
  refine lv_aload_n hx hb dX5_runs_0 rfl (lv_at hl 0 rfl) ?_
  refine lv_iconst (v := 0) hx hb dX5_runs_1 (by decide) ?_
  refine va_put (D := (dC, dI)) (ci := 5) (v := .int 0) (ty := .int) (C := RX5) (T := TX5) (N := 33) hx hb hts hin_X5 tyX5 tyX5_ok nmX5 hown hK hP hD hS 0 rfl rfl 0 (by decide) hw0 (fun _ h9 => h9) rfl (by decide +kernel) rfl rfl (Nat.le_of_ble_eq_true rfl) dX5_runs_2 (fun H locs hP hD hS => ?_)
  have hP : va_P (dC, dI) vwCl (wM cI cZ cJ h F G (va_up V 0 0)) H := hP
  have hD : va_D A (wM cI cZ cJ h F G (va_up V 0 0)) := hD
  refine lv_iload_n hx hb dX5_runs_5 rfl (lv_at hl 1 rfl) ?_
  refine lv_aload_n hx hb dX5_runs_6 rfl (lv_at hl 0 rfl) ?_
  refine va_get (D := (dC, dI)) (ci := 5) (v := .int (V 10)) (C := RX5) (T := TX5) (N := 33) hx hb hts hin_X5 hown hK hP 0 rfl rfl 27 (by decide) hw2 (fun _ h9 => h9) rfl dX5_runs_7 ?_
  refine lv_topi (fun x_1 ex_1 => ?_)
  obtain rfl : x_1 = nI pf := ex_1.trans (hV10)
  refine lv_bipush (v := 23) hx hb dX5_runs_10 (by decide) ?_
  refine cw_Si (As := [.int p0, .int (nI pf), .int 23]) (rest := []) (c_X5_in l dC dI cI cZ cJ (wM cI cZ cJ h F G (va_up V 0 0)) p0 (nI pf) 23) fx (va_cwS 3 hts gX5_runs_X5_in rfl rfl rfl (by decide +kernel) ⟨Nat.le_of_ble_eq_true rfl, Nat.le_of_ble_eq_true rfl⟩) hK hP hD hS hA rfl hl.1 rfl (Nat.le_of_ble_eq_true rfl) dX5_runs_12 ⟨Nat.le_of_ble_eq_true rfl, Nat.le_of_ble_eq_true rfl⟩ (fun r_2 u_3 H locs hw_4 hP hD hS => ?_)
  have hP : va_P (dC, dI) vwCl (wM cI cZ cJ h F G (va_up V 0 0)) H := hP
  have hD : va_D A (wM cI cZ cJ h F G (va_up V 0 0)) := hD
  have hw_4 : r_2 = bI (isW p0 (nI pf) 23) := hw_4
  refine lv_if_eq (tgt := 35) hx hb dX5_runs_15 (by decide) (fun c_5 => ?_) (fun c_5 => ?_)
  · have c_5 : isW p0 (nI pf) 23 = false := bI_f hw_4 c_5
    refine lv_iconst (v := (-1)) hx hb dX5_runs_35 (by decide) ?_
    exact hret (-1) (F, G, va_up V 0 0) H locs 36 ls rfl dX5_runs_36 (⟨trivial, ⟨n, nw, un, d, wm, pf, sh, am, So, Lm, Hh, Wd, Pr, ⟨hV2, by omega⟩, ⟨hV3, by omega⟩, ⟨hV4, by omega⟩, ⟨hV6, by omega⟩, ⟨hV7, by omega⟩, ⟨hV10, by omega⟩, ⟨hV11, by omega⟩, ⟨hV8, by omega⟩, ⟨hSo, bSo⟩, ⟨hLm, bLm⟩, ⟨hHh, bHh⟩, ⟨hWd, bWd⟩, ⟨hPr, bPr⟩⟩⟩) (hP) (hD) hS
  · have c_5 : isW p0 (nI pf) 23 = true := bI_t hw_4 c_5
    refine lv_aload_n hx hb dX5_runs_18 rfl (lv_at hl 0 rfl) ?_
    refine va_get (D := (dC, dI)) (ci := 5) (v := .ref (h 17)) (C := RX5) (T := TX5) (N := 33) hx hb hts hin_X5 hown hK hP 0 rfl rfl 26 (by decide) hw3 (fun _ h9 => h9) rfl dX5_runs_19 ?_
    refine lv_iload_n hx hb dX5_runs_22 rfl (lv_at hl 1 rfl) ?_
    obtain ⟨k0, hk0, rfl⟩ := isW_from bV10 c_5
    refine va_zald hx hb hK hP 17 1 rfl rfl (vp_in_nI (n := k0) (N := 24) (by omega) (by decide)) dX5_runs_23 ?_
    refine lv_topi (fun x_6 ex_6 => ?_)
    rw [nI_clamp (n := k0) (by omega)] at ex_6
    refine lv_if_eq (tgt := 31) hx hb dX5_runs_24 (by decide) (fun c_7 => ?_) (fun c_7 => ?_)
    · have c_7 : eqI x_6 0 = true := decide_eq_true c_7
      refine lv_iconst (v := 0) hx hb dX5_runs_31 (by decide) ?_
      refine lv_goto (tgt := 36) hx hb dX5_runs_32 (by decide) ?_
      exact hret 0 (F, G, va_up V 0 0) H locs 36 ls rfl dX5_runs_36 (⟨trivial, ⟨n, nw, un, d, wm, pf, sh, am, So, Lm, Hh, Wd, Pr, ⟨hV2, by omega⟩, ⟨hV3, by omega⟩, ⟨hV4, by omega⟩, ⟨hV6, by omega⟩, ⟨hV7, by omega⟩, ⟨hV10, by omega⟩, ⟨hV11, by omega⟩, ⟨hV8, by omega⟩, ⟨hSo, bSo⟩, ⟨hLm, bLm⟩, ⟨hHh, bHh⟩, ⟨hWd, bWd⟩, ⟨hPr, bPr⟩⟩⟩) (hP) (hD) hS
    · have c_7 : eqI x_6 0 = false := decide_eq_false c_7
      refine lv_iconst (v := 1) hx hb dX5_runs_27 (by decide) ?_
      refine lv_goto (tgt := 36) hx hb dX5_runs_28 (by decide) ?_
      exact hret 1 (F, G, va_up V 0 0) H locs 36 ls rfl dX5_runs_36 (⟨trivial, ⟨n, nw, un, d, wm, pf, sh, am, So, Lm, Hh, Wd, Pr, ⟨hV2, by omega⟩, ⟨hV3, by omega⟩, ⟨hV4, by omega⟩, ⟨hV6, by omega⟩, ⟨hV7, by omega⟩, ⟨hV10, by omega⟩, ⟨hV11, by omega⟩, ⟨hV8, by omega⟩, ⟨hSo, bSo⟩, ⟨hLm, bLm⟩, ⟨hHh, bHh⟩, ⟨hWd, bWd⟩, ⟨hPr, bPr⟩⟩⟩) (hP) (hD) hS
def rm_X5_best : Room := { frames := 9, cells := 0, slots := 0, locals := 206 }
set_option maxHeartbeats 4000000 in
set_option maxRecDepth 100000 in
theorem c_X5_best (l : Launch) (dC : Nat → ClassId) (dI : Nat → Nat → Nat) (cI cZ cJ : ClassId) (h : Nat → Nat) (F : Nat → Nat → Int32) (G : Nat → Int64) (V : Nat → Int32) (n : Nat) (hV2 : V 2 = nI n) (bV2 : n ≤ 40) (nw : Nat) (hV3 : V 3 = nI nw) (bV3 : nw ≤ 23) (un : Nat) (hV4 : V 4 = nI un) (bV4 : un ≤ 200) (d : Nat) (hV6 : V 6 = nI d) (bV6 : d ≤ 20) (wm : Nat) (hV7 : V 7 = nI wm) (bV7 : wm ≤ 1) (pf : Nat) (hV10 : V 10 = nI pf) (bV10 : pf ≤ 24) (sh : Nat) (hV11 : V 11 = nI sh) (bV11 : sh ≤ 12) (So : Nat → Nat) (hSo : ∀ i, i < 40 → F 3 i = nI (So i)) (bSo : ∀ i, i < 40 → So i ≤ 90) (Lm : Nat → Nat) (hLm : ∀ i, i < 4 → F 4 i = nI (Lm i)) (bLm : ∀ i, i < 4 → Lm i ≤ 10000) (Hh : Nat → Nat) (hHh : ∀ i, i < 24 → F 7 i = nI (Hh i)) (bHh : ∀ i, i < 24 → Hh i ≤ 9) (Wd : Nat → Nat) (hWd : ∀ i, i < 24 → F 8 i = nI (Wd i)) (bWd : ∀ i, i < 24 → Wd i ≤ 99) (Pr : Nat → Nat) (hPr : ∀ i, i < 24 → F 9 i = nI (Pr i)) (bPr : ∀ i, i < 24 → Pr i ≤ 999) (p0 : Int32)  (am : Nat) (hV8 : V 8 = nI am - 1) (bam : am ≤ 41) : CtI l (dC, dI) vwCl (tys3 cI cZ cJ) yX5_best wsX5_best rm_X5_best [.ref (h 0), .int p0] (wM cI cZ cJ h F G V) (S := (Nat → Nat → Int32) × (Nat → Int64) × (Nat → Int32)) (fun r u => (True) ∧ IM u.1 u.2.2) (fun u => wM cI cZ cJ h u.1 u.2.1 u.2.2) 0 0 := by
  refine ct_I (cc := cX5_best) (maxL := 3) (ty := .int) (own := RX5) (by decide) rfl rfl (Nat.le_of_ble_eq_true rfl) (lv := [(0, .ref (h 0)), (1, .int p0)]) rfl ?_
  intro p e s m args below meth c A Q ls fx hK hP hD hA hl hret
  obtain ⟨hx, hb, hml, hown, hts⟩ := id fx
  have hS : va_S A s.heap s.heap [] := va_S.rf
  have hw0 := hts (.fieldLink RX5 1 "MirrorTowerModel" "thrown" "I") (by decide +kernel)
  have hin_X5 : ∀ w ∈ u_ws RX5 TX5 33, w ∈ wsX5_best := by decide +kernel
  have hw2 := hts (.fieldLink RX5 53 "MirrorTowerModel" "left" "[I") (by decide +kernel)
  have hw3 := hts (.fieldLink RX5 29 "MirrorTowerModel" "limit" "[I") (by decide +kernel)
  have hw4 := hts (.fieldLink RX5 148 "MirrorTowerModel" "most" "I") (by decide +kernel)
  obtain ⟨H, hH⟩ : ∃ H, H = s.heap := ⟨_, rfl⟩
  rw [← hH] at hP ⊢
  have hS : va_S A s.heap H [] := by rw [hH]; exact hS
  generalize ([] : List Loc) = locs at hS ⊢
  refine lv_aload_n hx hb dX5_best_0 rfl (lv_at hl 0 rfl) ?_
  refine lv_iconst (v := 0) hx hb dX5_best_1 (by decide) ?_
  refine va_put (D := (dC, dI)) (ci := 5) (v := .int 0) (ty := .int) (C := RX5) (T := TX5) (N := 33) hx hb hts hin_X5 tyX5 tyX5_ok nmX5 hown hK hP hD hS 0 rfl rfl 0 (by decide) hw0 (fun _ h9 => h9) rfl (by decide +kernel) rfl rfl (Nat.le_of_ble_eq_true rfl) dX5_best_2 (fun H locs hP hD hS => ?_)
  have hP : va_P (dC, dI) vwCl (wM cI cZ cJ h F G (va_up V 0 0)) H := hP
  have hD : va_D A (wM cI cZ cJ h F G (va_up V 0 0)) := hD
  refine lv_iload_n hx hb dX5_best_5 rfl (lv_at hl 1 rfl) ?_
  refine cw_Si (As := [.int p0]) (rest := []) (c_X5_isHour l dC dI cI cZ cJ (wM cI cZ cJ h F G (va_up V 0 0)) p0) fx (va_cwS 1 hts gX5_best_X5_isHour rfl rfl rfl (by decide +kernel) ⟨Nat.le_of_ble_eq_true rfl, Nat.le_of_ble_eq_true rfl⟩) hK hP hD hS hA rfl hl.1 rfl (Nat.le_of_ble_eq_true rfl) dX5_best_6 ⟨Nat.le_of_ble_eq_true rfl, Nat.le_of_ble_eq_true rfl⟩ (fun r_1 u_2 H locs hw_3 hP hD hS => ?_)
  have hP : va_P (dC, dI) vwCl (wM cI cZ cJ h F G (va_up V 0 0)) H := hP
  have hD : va_D A (wM cI cZ cJ h F G (va_up V 0 0)) := hD
  have hw_3 : r_1 = bI (isW p0 0 23) := hw_3
  refine lv_if_ne (tgt := 18) hx hb dX5_best_9 (by decide) (fun c_4 => ?_) (fun c_4 => ?_)
  · have c_4 : isW p0 0 23 = true := bI_t hw_3 c_4
    refine lv_aload_n hx hb dX5_best_18 rfl (lv_at hl 0 rfl) ?_
    refine lv_iload_n hx hb dX5_best_19 rfl (lv_at hl 1 rfl) ?_
    refine lv_iconst (v := 0) hx hb dX5_best_20 (by decide) ?_
    obtain ⟨k0, hk0, rfl⟩ := isW_nat (M := 23) (n := 23) (by decide) c_4
    refine cw_Vv (As := [.int (nI k0), .int 0]) (rest := []) (c_X5_orders l dC dI cI cZ cJ h F G (va_up V 0 0) n hV2 (by omega) So hSo bSo Hh hHh bHh Wd hWd bWd k0 0 (by omega) (by omega)) fx (cwV 2 hts gX5_best_X5_orders rfl rfl rfl (by decide +kernel) ⟨Nat.le_of_ble_eq_true rfl, Nat.le_of_ble_eq_true rfl⟩) hK hP hD hS hA 0 rfl rfl rfl rfl hl.1 rfl (Nat.le_of_ble_eq_true rfl) dX5_best_21 ⟨Nat.le_of_ble_eq_true rfl, Nat.le_of_ble_eq_true rfl⟩ (fun u_6 H locs hw_7 hP hD hS => ?_)
    obtain ⟨F_8, rfl⟩ : ∃ z, z = u_6 := ⟨_, rfl⟩
    have hf_9 : ∀ j, j ∉ ([10, 11] : List Nat) → F_8 j = F j := hw_7.1
    have hP : va_P (dC, dI) vwCl (wM cI cZ cJ h F_8 G (va_up V 0 0)) H := hP
    have hD : va_D A (wM cI cZ cJ h F_8 G (va_up V 0 0)) := hD
    have hN_10 : ∀ i, i < 40 → F_8 3 i = nI (So i) := by rw [hf_9 3 (by decide)]; exact hSo
    have hN_11 : ∀ i, i < 4 → F_8 4 i = nI (Lm i) := by rw [hf_9 4 (by decide)]; exact hLm
    have hN_12 : ∀ i, i < 24 → F_8 7 i = nI (Hh i) := by rw [hf_9 7 (by decide)]; exact hHh
    have hN_13 : ∀ i, i < 24 → F_8 8 i = nI (Wd i) := by rw [hf_9 8 (by decide)]; exact hWd
    have hN_14 : ∀ i, i < 24 → F_8 9 i = nI (Pr i) := by rw [hf_9 9 (by decide)]; exact hPr
    obtain ⟨Pq_15, hN_16, bN_17, hN_18⟩ := hw_7.2
    obtain ⟨Oq_19, eOq_19⟩ : ∃ z : Nat → Nat, z = ordn Pq_15 n := ⟨_, rfl⟩
    rw [← eOq_19] at hN_18
    have bN_20 : ∀ i, i < n → Oq_19 i ≤ n - 1 := by rw [eOq_19]; exact fun i hi => by have := ordn_lt Pq_15 n i hi; omega
    refine lv_iconst (v := 0) hx hb dX5_best_24 (by decide) ?_
    refine lv_istore_n (lv' := [(2, .int 0), (0, .ref (h 0)), (1, .int (nI k0))]) hx hb dX5_best_25 rfl hl (by decide) rfl (fun ls hl => ?_)
    refine lv_iload_n hx hb dX5_best_26 rfl (lv_at hl 0 rfl) ?_
    refine lv_iconst (v := 4) hx hb dX5_best_27 (by decide) ?_
    refine lv_icmp_ge (tgt := 49) hx hb dX5_best_28 (by decide) (fun c_21 => ?_) (fun c_21 => ?_)
    · exact absurd c_21 (by decide)
    · refine lv_aload_n hx hb dX5_best_31 rfl (lv_at hl 1 rfl) ?_
      refine va_get (D := (dC, dI)) (ci := 5) (v := .ref (h 12)) (C := RX5) (T := TX5) (N := 33) hx hb hts hin_X5 hown hK hP 0 rfl rfl 19 (by decide) hw2 (fun _ h9 => h9) rfl dX5_best_32 ?_
      refine lv_iload_n hx hb dX5_best_35 rfl (lv_at hl 0 rfl) ?_
      refine lv_aload_n hx hb dX5_best_36 rfl (lv_at hl 1 rfl) ?_
      refine va_get (D := (dC, dI)) (ci := 5) (v := .ref (h 4)) (C := RX5) (T := TX5) (N := 33) hx hb hts hin_X5 hown hK hP 0 rfl rfl 11 (by decide) hw3 (fun _ h9 => h9) rfl dX5_best_37 ?_
      refine lv_iload_n hx hb dX5_best_40 rfl (lv_at hl 0 rfl) ?_
      refine va_iald hx hb hK hP 4 0 rfl rfl (vp_in_nI (n := 0) (N := 4) (by decide) (by decide)) dX5_best_41 ?_
      have hb_22 := bLm 0 (by omega)
      refine lv_topi (fun x_23 ex_23 => ?_)
      obtain rfl : x_23 = nI (Lm 0) := ex_23.trans ((congrArg (F_8 4) (by decide : (0 : Int32).toNatClampNeg = 0)).trans (hN_11 0 (by omega)))
      refine va_iast hx hb hK hP hD hS 12 0 rfl rfl (vp_in_nI (n := 0) (N := 4) (by decide) (by decide)) dX5_best_42 (fun H locs hP hD hS => ?_)
      obtain ⟨F_24, eF_24⟩ : ∃ z : Nat → Nat → Int32, z = va_up F_8 12 (upd (F_8 12) (0 : Int32).toNatClampNeg (nI (Lm 0))) := ⟨_, rfl⟩
      have hP : va_P (dC, dI) vwCl (wM cI cZ cJ h F_24 G (va_up V 0 0)) H := by rw [eF_24]; exact hP
      have hD : va_D A (wM cI cZ cJ h F_24 G (va_up V 0 0)) := by rw [eF_24]; exact hD
      have hN_25 : ∀ i, i < 40 → F_24 3 i = nI (So i) := by rw [eF_24]; exact hN_10
      have hN_26 : ∀ i, i < 4 → F_24 4 i = nI (Lm i) := by rw [eF_24]; exact hN_11
      have hN_27 : ∀ i, i < 24 → F_24 7 i = nI (Hh i) := by rw [eF_24]; exact hN_12
      have hN_28 : ∀ i, i < 24 → F_24 8 i = nI (Wd i) := by rw [eF_24]; exact hN_13
      have hN_29 : ∀ i, i < 24 → F_24 9 i = nI (Pr i) := by rw [eF_24]; exact hN_14
      have hN_30 : ∀ i, i < n → F_24 11 i = nI (Pq_15 i) := by rw [eF_24]; exact hN_16
      have hN_31 : ∀ i, i < n → F_24 10 i = nI (Oq_19 i) := by rw [eF_24]; exact hN_18
      refine lv_iinc (v := 1) (lv' := [(2, .int 1), (0, .ref (h 0)), (1, .int (nI k0))]) hx hb dX5_best_43 hl (k := 0) rfl (by decide) (by decide) rfl (fun ls hl => ?_)
      refine lv_goto (tgt := 26) hx hb dX5_best_46 (by decide) ?_
      refine lv_iload_n hx hb dX5_best_26 rfl (lv_at hl 0 rfl) ?_
      refine lv_iconst (v := 4) hx hb dX5_best_27 (by decide) ?_
      refine lv_icmp_ge (tgt := 49) hx hb dX5_best_28 (by decide) (fun c_32 => ?_) (fun c_32 => ?_)
      · exact absurd c_32 (by decide)
      · refine lv_aload_n hx hb dX5_best_31 rfl (lv_at hl 1 rfl) ?_
        refine va_get (D := (dC, dI)) (ci := 5) (v := .ref (h 12)) (C := RX5) (T := TX5) (N := 33) hx hb hts hin_X5 hown hK hP 0 rfl rfl 19 (by decide) hw2 (fun _ h9 => h9) rfl dX5_best_32 ?_
        refine lv_iload_n hx hb dX5_best_35 rfl (lv_at hl 0 rfl) ?_
        refine lv_aload_n hx hb dX5_best_36 rfl (lv_at hl 1 rfl) ?_
        refine va_get (D := (dC, dI)) (ci := 5) (v := .ref (h 4)) (C := RX5) (T := TX5) (N := 33) hx hb hts hin_X5 hown hK hP 0 rfl rfl 11 (by decide) hw3 (fun _ h9 => h9) rfl dX5_best_37 ?_
        refine lv_iload_n hx hb dX5_best_40 rfl (lv_at hl 0 rfl) ?_
        refine va_iald hx hb hK hP 4 0 rfl rfl (vp_in_nI (n := 1) (N := 4) (by decide) (by decide)) dX5_best_41 ?_
        have hb_33 := bLm 1 (by omega)
        refine lv_topi (fun x_34 ex_34 => ?_)
        obtain rfl : x_34 = nI (Lm 1) := ex_34.trans ((congrArg (F_24 4) (by decide : (1 : Int32).toNatClampNeg = 1)).trans (hN_26 1 (by omega)))
        refine va_iast hx hb hK hP hD hS 12 0 rfl rfl (vp_in_nI (n := 1) (N := 4) (by decide) (by decide)) dX5_best_42 (fun H locs hP hD hS => ?_)
        obtain ⟨F_35, eF_35⟩ : ∃ z : Nat → Nat → Int32, z = va_up F_24 12 (upd (F_24 12) (1 : Int32).toNatClampNeg (nI (Lm 1))) := ⟨_, rfl⟩
        have hP : va_P (dC, dI) vwCl (wM cI cZ cJ h F_35 G (va_up V 0 0)) H := by rw [eF_35]; exact hP
        have hD : va_D A (wM cI cZ cJ h F_35 G (va_up V 0 0)) := by rw [eF_35]; exact hD
        have hN_36 : ∀ i, i < 40 → F_35 3 i = nI (So i) := by rw [eF_35]; exact hN_25
        have hN_37 : ∀ i, i < 4 → F_35 4 i = nI (Lm i) := by rw [eF_35]; exact hN_26
        have hN_38 : ∀ i, i < 24 → F_35 7 i = nI (Hh i) := by rw [eF_35]; exact hN_27
        have hN_39 : ∀ i, i < 24 → F_35 8 i = nI (Wd i) := by rw [eF_35]; exact hN_28
        have hN_40 : ∀ i, i < 24 → F_35 9 i = nI (Pr i) := by rw [eF_35]; exact hN_29
        have hN_41 : ∀ i, i < n → F_35 11 i = nI (Pq_15 i) := by rw [eF_35]; exact hN_30
        have hN_42 : ∀ i, i < n → F_35 10 i = nI (Oq_19 i) := by rw [eF_35]; exact hN_31
        refine lv_iinc (v := 2) (lv' := [(2, .int 2), (0, .ref (h 0)), (1, .int (nI k0))]) hx hb dX5_best_43 hl (k := 0) rfl (by decide) (by decide) rfl (fun ls hl => ?_)
        refine lv_goto (tgt := 26) hx hb dX5_best_46 (by decide) ?_
        refine lv_iload_n hx hb dX5_best_26 rfl (lv_at hl 0 rfl) ?_
        refine lv_iconst (v := 4) hx hb dX5_best_27 (by decide) ?_
        refine lv_icmp_ge (tgt := 49) hx hb dX5_best_28 (by decide) (fun c_43 => ?_) (fun c_43 => ?_)
        · exact absurd c_43 (by decide)
        · refine lv_aload_n hx hb dX5_best_31 rfl (lv_at hl 1 rfl) ?_
          refine va_get (D := (dC, dI)) (ci := 5) (v := .ref (h 12)) (C := RX5) (T := TX5) (N := 33) hx hb hts hin_X5 hown hK hP 0 rfl rfl 19 (by decide) hw2 (fun _ h9 => h9) rfl dX5_best_32 ?_
          refine lv_iload_n hx hb dX5_best_35 rfl (lv_at hl 0 rfl) ?_
          refine lv_aload_n hx hb dX5_best_36 rfl (lv_at hl 1 rfl) ?_
          refine va_get (D := (dC, dI)) (ci := 5) (v := .ref (h 4)) (C := RX5) (T := TX5) (N := 33) hx hb hts hin_X5 hown hK hP 0 rfl rfl 11 (by decide) hw3 (fun _ h9 => h9) rfl dX5_best_37 ?_
          refine lv_iload_n hx hb dX5_best_40 rfl (lv_at hl 0 rfl) ?_
          refine va_iald hx hb hK hP 4 0 rfl rfl (vp_in_nI (n := 2) (N := 4) (by decide) (by decide)) dX5_best_41 ?_
          have hb_44 := bLm 2 (by omega)
          refine lv_topi (fun x_45 ex_45 => ?_)
          obtain rfl : x_45 = nI (Lm 2) := ex_45.trans ((congrArg (F_35 4) (by decide : (2 : Int32).toNatClampNeg = 2)).trans (hN_37 2 (by omega)))
          refine va_iast hx hb hK hP hD hS 12 0 rfl rfl (vp_in_nI (n := 2) (N := 4) (by decide) (by decide)) dX5_best_42 (fun H locs hP hD hS => ?_)
          obtain ⟨F_46, eF_46⟩ : ∃ z : Nat → Nat → Int32, z = va_up F_35 12 (upd (F_35 12) (2 : Int32).toNatClampNeg (nI (Lm 2))) := ⟨_, rfl⟩
          have hP : va_P (dC, dI) vwCl (wM cI cZ cJ h F_46 G (va_up V 0 0)) H := by rw [eF_46]; exact hP
          have hD : va_D A (wM cI cZ cJ h F_46 G (va_up V 0 0)) := by rw [eF_46]; exact hD
          have hN_47 : ∀ i, i < 40 → F_46 3 i = nI (So i) := by rw [eF_46]; exact hN_36
          have hN_48 : ∀ i, i < 4 → F_46 4 i = nI (Lm i) := by rw [eF_46]; exact hN_37
          have hN_49 : ∀ i, i < 24 → F_46 7 i = nI (Hh i) := by rw [eF_46]; exact hN_38
          have hN_50 : ∀ i, i < 24 → F_46 8 i = nI (Wd i) := by rw [eF_46]; exact hN_39
          have hN_51 : ∀ i, i < 24 → F_46 9 i = nI (Pr i) := by rw [eF_46]; exact hN_40
          have hN_52 : ∀ i, i < n → F_46 11 i = nI (Pq_15 i) := by rw [eF_46]; exact hN_41
          have hN_53 : ∀ i, i < n → F_46 10 i = nI (Oq_19 i) := by rw [eF_46]; exact hN_42
          refine lv_iinc (v := 3) (lv' := [(2, .int 3), (0, .ref (h 0)), (1, .int (nI k0))]) hx hb dX5_best_43 hl (k := 0) rfl (by decide) (by decide) rfl (fun ls hl => ?_)
          refine lv_goto (tgt := 26) hx hb dX5_best_46 (by decide) ?_
          refine lv_iload_n hx hb dX5_best_26 rfl (lv_at hl 0 rfl) ?_
          refine lv_iconst (v := 4) hx hb dX5_best_27 (by decide) ?_
          refine lv_icmp_ge (tgt := 49) hx hb dX5_best_28 (by decide) (fun c_54 => ?_) (fun c_54 => ?_)
          · exact absurd c_54 (by decide)
          · refine lv_aload_n hx hb dX5_best_31 rfl (lv_at hl 1 rfl) ?_
            refine va_get (D := (dC, dI)) (ci := 5) (v := .ref (h 12)) (C := RX5) (T := TX5) (N := 33) hx hb hts hin_X5 hown hK hP 0 rfl rfl 19 (by decide) hw2 (fun _ h9 => h9) rfl dX5_best_32 ?_
            refine lv_iload_n hx hb dX5_best_35 rfl (lv_at hl 0 rfl) ?_
            refine lv_aload_n hx hb dX5_best_36 rfl (lv_at hl 1 rfl) ?_
            refine va_get (D := (dC, dI)) (ci := 5) (v := .ref (h 4)) (C := RX5) (T := TX5) (N := 33) hx hb hts hin_X5 hown hK hP 0 rfl rfl 11 (by decide) hw3 (fun _ h9 => h9) rfl dX5_best_37 ?_
            refine lv_iload_n hx hb dX5_best_40 rfl (lv_at hl 0 rfl) ?_
            refine va_iald hx hb hK hP 4 0 rfl rfl (vp_in_nI (n := 3) (N := 4) (by decide) (by decide)) dX5_best_41 ?_
            have hb_55 := bLm 3 (by omega)
            refine lv_topi (fun x_56 ex_56 => ?_)
            obtain rfl : x_56 = nI (Lm 3) := ex_56.trans ((congrArg (F_46 4) (by decide : (3 : Int32).toNatClampNeg = 3)).trans (hN_48 3 (by omega)))
            refine va_iast hx hb hK hP hD hS 12 0 rfl rfl (vp_in_nI (n := 3) (N := 4) (by decide) (by decide)) dX5_best_42 (fun H locs hP hD hS => ?_)
            obtain ⟨F_57, eF_57⟩ : ∃ z : Nat → Nat → Int32, z = va_up F_46 12 (upd (F_46 12) (3 : Int32).toNatClampNeg (nI (Lm 3))) := ⟨_, rfl⟩
            have hP : va_P (dC, dI) vwCl (wM cI cZ cJ h F_57 G (va_up V 0 0)) H := by rw [eF_57]; exact hP
            have hD : va_D A (wM cI cZ cJ h F_57 G (va_up V 0 0)) := by rw [eF_57]; exact hD
            have hN_58 : ∀ i, i < 40 → F_57 3 i = nI (So i) := by rw [eF_57]; exact hN_47
            have hN_59 : ∀ i, i < 4 → F_57 4 i = nI (Lm i) := by rw [eF_57]; exact hN_48
            have hN_60 : ∀ i, i < 24 → F_57 7 i = nI (Hh i) := by rw [eF_57]; exact hN_49
            have hN_61 : ∀ i, i < 24 → F_57 8 i = nI (Wd i) := by rw [eF_57]; exact hN_50
            have hN_62 : ∀ i, i < 24 → F_57 9 i = nI (Pr i) := by rw [eF_57]; exact hN_51
            have hN_63 : ∀ i, i < n → F_57 11 i = nI (Pq_15 i) := by rw [eF_57]; exact hN_52
            have hN_64 : ∀ i, i < n → F_57 10 i = nI (Oq_19 i) := by rw [eF_57]; exact hN_53
            refine lv_iinc (v := 4) (lv' := [(2, .int 4), (0, .ref (h 0)), (1, .int (nI k0))]) hx hb dX5_best_43 hl (k := 0) rfl (by decide) (by decide) rfl (fun ls hl => ?_)
            refine lv_goto (tgt := 26) hx hb dX5_best_46 (by decide) ?_
            refine lv_iload_n hx hb dX5_best_26 rfl (lv_at hl 0 rfl) ?_
            refine lv_iconst (v := 4) hx hb dX5_best_27 (by decide) ?_
            refine lv_icmp_ge (tgt := 49) hx hb dX5_best_28 (by decide) (fun c_65 => ?_) (fun c_65 => ?_)
            · refine lv_aload_n hx hb dX5_best_49 rfl (lv_at hl 1 rfl) ?_
              refine lv_iconst (v := 0) hx hb dX5_best_50 (by decide) ?_
              refine va_put (D := (dC, dI)) (ci := 5) (v := .int 0) (ty := .int) (C := RX5) (T := TX5) (N := 33) hx hb hts hin_X5 tyX5 tyX5_ok nmX5 hown hK hP hD hS 0 rfl rfl 24 (by decide) hw4 (fun _ h9 => h9) rfl (by decide +kernel) rfl rfl (Nat.le_of_ble_eq_true rfl) dX5_best_51 (fun H locs hP hD hS => ?_)
              have hP : va_P (dC, dI) vwCl (wM cI cZ cJ h F_57 G (va_up (va_up V 0 0) 9 0)) H := hP
              have hD : va_D A (wM cI cZ cJ h F_57 G (va_up (va_up V 0 0) 9 0)) := hD
              refine lv_aload_n hx hb dX5_best_54 rfl (lv_at hl 1 rfl) ?_
              refine lv_iconst (v := 0) hx hb dX5_best_55 (by decide) ?_
              refine lv_iconst (v := 0) hx hb dX5_best_56 (by decide) ?_
              have hN_66 : ∀ i, i < 4 → F_57 12 i = nI (Lm i) := by
                intro i hi
                rw [eF_57, eF_46, eF_35, eF_24]
                match i, hi with
                | 0, _ => rfl
                | 1, _ => rfl
                | 2, _ => rfl
                | 3, _ => rfl
                | i + 4, hi => exact absurd hi (by omega)
              refine cw_Vv (As := [.int 0, .int 0]) (rest := []) (c_X5_tries0 l dC dI cI cZ cJ h F_57 G (va_up (va_up V 0 0) 9 0) n hV2 (by omega) Pq_15 hN_63 bN_17 Oq_19 hN_64 bN_20 Lm hN_66 bLm 0 (by omega)) fx (cwV 2 hts gX5_best_X5_tries rfl rfl rfl (by decide +kernel) ⟨Nat.le_of_ble_eq_true rfl, Nat.le_of_ble_eq_true rfl⟩) hK hP hD hS hA 0 rfl rfl rfl rfl hl.1 rfl (Nat.le_of_ble_eq_true rfl) dX5_best_57 ⟨Nat.le_of_ble_eq_true rfl, Nat.le_of_ble_eq_true rfl⟩ (fun u_68 H locs hw_69 hP hD hS => ?_)
              obtain ⟨F_70, V_71⟩ := u_68
              have hf_72 : ∀ j, j ∉ ([12] : List Nat) → F_70 j = F_57 j := hw_69.1
              have hv_73 : ∀ j, j ≠ 9 → V_71 j = (va_up (va_up V 0 0) 9 0) j := hw_69.2.1
              have hN_74 : ∀ i, i < 4 → F_70 12 i = nI (Lm i) := hw_69.2.2
              have hP : va_P (dC, dI) vwCl (wM cI cZ cJ h F_70 G V_71) H := hP
              have hD : va_D A (wM cI cZ cJ h F_70 G V_71) := hD
              have hN_75 : ∀ i, i < 40 → F_70 3 i = nI (So i) := by rw [hf_72 3 (by decide)]; exact hN_58
              have hN_76 : ∀ i, i < 4 → F_70 4 i = nI (Lm i) := by rw [hf_72 4 (by decide)]; exact hN_59
              have hN_77 : ∀ i, i < 24 → F_70 7 i = nI (Hh i) := by rw [hf_72 7 (by decide)]; exact hN_60
              have hN_78 : ∀ i, i < 24 → F_70 8 i = nI (Wd i) := by rw [hf_72 8 (by decide)]; exact hN_61
              have hN_79 : ∀ i, i < 24 → F_70 9 i = nI (Pr i) := by rw [hf_72 9 (by decide)]; exact hN_62
              have hN_80 : ∀ i, i < n → F_70 11 i = nI (Pq_15 i) := by rw [hf_72 11 (by decide)]; exact hN_63
              have hN_81 : ∀ i, i < n → F_70 10 i = nI (Oq_19 i) := by rw [hf_72 10 (by decide)]; exact hN_64
              have hV_82 : V_71 2 = nI n := by rw [hv_73 2 (by decide)]; exact hV2
              have hV_83 : V_71 3 = nI nw := by rw [hv_73 3 (by decide)]; exact hV3
              have hV_84 : V_71 4 = nI un := by rw [hv_73 4 (by decide)]; exact hV4
              have hV_85 : V_71 6 = nI d := by rw [hv_73 6 (by decide)]; exact hV6
              have hV_86 : V_71 7 = nI wm := by rw [hv_73 7 (by decide)]; exact hV7
              have hV_87 : V_71 10 = nI pf := by rw [hv_73 10 (by decide)]; exact hV10
              have hV_88 : V_71 11 = nI sh := by rw [hv_73 11 (by decide)]; exact hV11
              have hV_89 : V_71 8 = nI am - 1 := by rw [hv_73 8 (by decide)]; exact hV8
              refine lv_aload_n hx hb dX5_best_60 rfl (lv_at hl 1 rfl) ?_
              refine lv_aload_n hx hb dX5_best_61 rfl (lv_at hl 1 rfl) ?_
              refine va_get (D := (dC, dI)) (ci := 5) (v := .int (V_71 9)) (C := RX5) (T := TX5) (N := 33) hx hb hts hin_X5 hown hK hP 0 rfl rfl 24 (by decide) hw4 (fun _ h9 => h9) rfl dX5_best_62 ?_
              refine cw_Vi (As := [.int (V_71 9)]) (rest := []) (c_X5_done l dC dI cI cZ cJ h F_70 G V_71 (V_71 9)) fx (cwV 1 hts gX5_best_X5_done rfl rfl rfl (by decide +kernel) ⟨Nat.le_of_ble_eq_true rfl, Nat.le_of_ble_eq_true rfl⟩) hK hP hD hS hA 0 rfl rfl rfl rfl hl.1 rfl (Nat.le_of_ble_eq_true rfl) dX5_best_65 ⟨Nat.le_of_ble_eq_true rfl, Nat.le_of_ble_eq_true rfl⟩ (fun r_90 u_91 H locs hw_92 hP hD hS => ?_)
              have hP : va_P (dC, dI) vwCl (wM cI cZ cJ h F_70 G (va_up V_71 1 0)) H := hP
              have hD : va_D A (wM cI cZ cJ h F_70 G (va_up V_71 1 0)) := hD
              exact hret r_90 (F_70, G, va_up V_71 1 0) H locs 68 ls rfl dX5_best_68 (⟨trivial, ⟨n, nw, un, d, wm, pf, sh, am, So, Lm, Hh, Wd, Pr, ⟨hV_82, by omega⟩, ⟨hV_83, by omega⟩, ⟨hV_84, by omega⟩, ⟨hV_85, by omega⟩, ⟨hV_86, by omega⟩, ⟨hV_87, by omega⟩, ⟨hV_88, by omega⟩, ⟨hV_89, by omega⟩, ⟨hN_75, bSo⟩, ⟨hN_76, bLm⟩, ⟨hN_77, bHh⟩, ⟨hN_78, bWd⟩, ⟨hN_79, bPr⟩⟩⟩) (hP) (hD) hS
            · exact absurd c_65 (by decide)
  · have c_4 : isW p0 0 23 = false := bI_f hw_3 c_4
    refine lv_aload_n hx hb dX5_best_12 rfl (lv_at hl 0 rfl) ?_
    refine lv_iconst (v := 2) hx hb dX5_best_13 (by decide) ?_
    refine cw_Vi (As := [.int 2]) (rest := []) (c_X5_refused l dC dI cI cZ cJ h F G (va_up V 0 0) 2) fx (cwV 1 hts gX5_best_X5_refused rfl rfl rfl (by decide +kernel) ⟨Nat.le_of_ble_eq_true rfl, Nat.le_of_ble_eq_true rfl⟩) hK hP hD hS hA 0 rfl rfl rfl rfl hl.1 rfl (Nat.le_of_ble_eq_true rfl) dX5_best_14 ⟨Nat.le_of_ble_eq_true rfl, Nat.le_of_ble_eq_true rfl⟩ (fun r_93 u_94 H locs hw_95 hP hD hS => ?_)
    have hP : va_P (dC, dI) vwCl (wM cI cZ cJ h F G (va_up (va_up V 0 0) 1 2)) H := hP
    have hD : va_D A (wM cI cZ cJ h F G (va_up (va_up V 0 0) 1 2)) := hD
    obtain rfl : r_93 = (-1) := hw_95
    exact hret (-1) (F, G, va_up (va_up V 0 0) 1 2) H locs 17 ls rfl dX5_best_17 (⟨trivial, ⟨n, nw, un, d, wm, pf, sh, am, So, Lm, Hh, Wd, Pr, ⟨hV2, by omega⟩, ⟨hV3, by omega⟩, ⟨hV4, by omega⟩, ⟨hV6, by omega⟩, ⟨hV7, by omega⟩, ⟨hV10, by omega⟩, ⟨hV11, by omega⟩, ⟨hV8, by omega⟩, ⟨hSo, bSo⟩, ⟨hLm, bLm⟩, ⟨hHh, bHh⟩, ⟨hWd, bWd⟩, ⟨hPr, bPr⟩⟩⟩) (hP) (hD) hS
def rm_X5_step0 : Room := { frames := 4, cells := 0, slots := 0, locals := 104 }
set_option maxHeartbeats 4000000 in
set_option maxRecDepth 100000 in
theorem c_X5_step0 (l : Launch) (dC : Nat → ClassId) (dI : Nat → Nat → Nat) (cI cZ cJ : ClassId) (h : Nat → Nat) (F : Nat → Nat → Int32) (G : Nat → Int64) (V : Nat → Int32) (n : Nat) (hV2 : V 2 = nI n) (bV2 : n ≤ 40) (nw : Nat) (hV3 : V 3 = nI nw) (bV3 : nw ≤ 23) (un : Nat) (hV4 : V 4 = nI un) (bV4 : un ≤ 200) (d : Nat) (hV6 : V 6 = nI d) (bV6 : d ≤ 20) (wm : Nat) (hV7 : V 7 = nI wm) (bV7 : wm ≤ 1) (pf : Nat) (hV10 : V 10 = nI pf) (bV10 : pf ≤ 24) (sh : Nat) (hV11 : V 11 = nI sh) (bV11 : sh ≤ 12) (So : Nat → Nat) (hSo : ∀ i, i < 40 → F 3 i = nI (So i)) (bSo : ∀ i, i < 40 → So i ≤ 90) (Lm : Nat → Nat) (hLm : ∀ i, i < 4 → F 4 i = nI (Lm i)) (bLm : ∀ i, i < 4 → Lm i ≤ 10000) (Hh : Nat → Nat) (hHh : ∀ i, i < 24 → F 7 i = nI (Hh i)) (bHh : ∀ i, i < 24 → Hh i ≤ 9) (Wd : Nat → Nat) (hWd : ∀ i, i < 24 → F 8 i = nI (Wd i)) (bWd : ∀ i, i < 24 → Wd i ≤ 99) (Pr : Nat → Nat) (hPr : ∀ i, i < 24 → F 9 i = nI (Pr i)) (bPr : ∀ i, i < 24 → Pr i ≤ 999)   (am : Nat) (hV8 : V 8 = nI am - 1) (bam : am ≤ 41) : CtI l (dC, dI) vwCl (tys3 cI cZ cJ) yX5_step wsX5_step rm_X5_step0 [.ref (h 0), .int 0] (wM cI cZ cJ h F G V) (S := (Nat → Nat → Int32) × (Nat → Int64) × (Nat → Int32)) (fun r u => (True) ∧ IM u.1 u.2.2) (fun u => wM cI cZ cJ h u.1 u.2.1 u.2.2) 0 0 := by
  refine ct_I (cc := cX5_step) (maxL := 5) (ty := .int) (own := RX5) (by decide) rfl rfl (Nat.le_of_ble_eq_true rfl) (lv := [(0, .ref (h 0)), (1, .int 0)]) rfl ?_
  intro p e s m args below meth c A Q ls fx hK hP hD hA hl hret
  obtain ⟨hx, hb, hml, hown, hts⟩ := id fx
  have hS : va_S A s.heap s.heap [] := va_S.rf
  have hw0 := hts (.fieldLink RX5 1 "MirrorTowerModel" "thrown" "I") (by decide +kernel)
  have hin_X5 : ∀ w ∈ u_ws RX5 TX5 33, w ∈ wsX5_step := by decide +kernel
  have hw2 := hts (.fieldLink RX5 168 "MirrorTowerModel" "store" "I") (by decide +kernel)
  have hw3 := hts (.fieldLink RX5 154 "MirrorTowerModel" "now" "I") (by decide +kernel)
  have hw4 := hts (.fieldLink RX5 171 "MirrorTowerModel" "isWarm" "Z") (by decide +kernel)
  have hw5 := hts (.fieldLink RX5 175 "MirrorTowerModel" "earned" "I") (by decide +kernel)
  have hw6 := hts (.fieldLink RX5 91 "MirrorTowerModel" "mirrors" "I") (by decide +kernel)
  have hw7 := hts (.fieldLink RX5 26 "MirrorTowerModel" "soil" "[I") (by decide +kernel)
  have hw8 := hts (.fieldLink RX5 16 "MirrorTowerModel" "dust" "I") (by decide +kernel)
  have hw9 := hts (.methodLink RX5 129 Lib.Math.min.name) (by decide +kernel)
  have hw10 := hts (.static Lib.Math.min.name) (by decide +kernel)
  have hw11 := hts (.initialized "java/lang/Math") (by decide +kernel)
  have hw12 := hts (.code Lib.Math.min.name Lib.Math.min.code 2 (some .int)) (by decide +kernel)
  obtain ⟨H, hH⟩ : ∃ H, H = s.heap := ⟨_, rfl⟩
  rw [← hH] at hP ⊢
  have hS : va_S A s.heap H [] := by rw [hH]; exact hS
  generalize ([] : List Loc) = locs at hS ⊢
  refine lv_aload_n hx hb dX5_step_0 rfl (lv_at hl 0 rfl) ?_
  refine lv_iconst (v := 0) hx hb dX5_step_1 (by decide) ?_
  refine va_put (D := (dC, dI)) (ci := 5) (v := .int 0) (ty := .int) (C := RX5) (T := TX5) (N := 33) hx hb hts hin_X5 tyX5 tyX5_ok nmX5 hown hK hP hD hS 0 rfl rfl 0 (by decide) hw0 (fun _ h9 => h9) rfl (by decide +kernel) rfl rfl (Nat.le_of_ble_eq_true rfl) dX5_step_2 (fun H locs hP hD hS => ?_)
  have hP : va_P (dC, dI) vwCl (wM cI cZ cJ h F G (va_up V 0 0)) H := hP
  have hD : va_D A (wM cI cZ cJ h F G (va_up V 0 0)) := hD
  refine lv_aload_n hx hb dX5_step_5 rfl (lv_at hl 0 rfl) ?_
  refine va_get (D := (dC, dI)) (ci := 5) (v := .int (V 4)) (C := RX5) (T := TX5) (N := 33) hx hb hts hin_X5 hown hK hP 0 rfl rfl 4 (by decide) hw2 (fun _ h9 => h9) rfl dX5_step_6 ?_
  refine lv_topi (fun x_1 ex_1 => ?_)
  obtain rfl : x_1 = nI un := ex_1.trans (hV4)
  refine lv_aload_n hx hb dX5_step_9 rfl (lv_at hl 0 rfl) ?_
  refine lv_aload_n hx hb dX5_step_10 rfl (lv_at hl 0 rfl) ?_
  refine va_get (D := (dC, dI)) (ci := 5) (v := .int (V 3)) (C := RX5) (T := TX5) (N := 33) hx hb hts hin_X5 hown hK hP 0 rfl rfl 3 (by decide) hw3 (fun _ h9 => h9) rfl dX5_step_11 ?_
  refine lv_topi (fun x_2 ex_2 => ?_)
  obtain rfl : x_2 = nI nw := ex_2.trans (hV3)
  refine lv_iconst (v := 0) hx hb dX5_step_14 (by decide) ?_
  refine cw_Vi (As := [.int (nI nw), .int 0]) (rest := [.int (nI un)]) (c_X5_aims l dC dI cI cZ cJ h F G (va_up V 0 0) n hV2 (by omega) So hSo bSo Hh hHh bHh Wd hWd bWd Lm hLm bLm nw 0 (by omega) (by omega)) fx (cwV 2 hts gX5_step_X5_aims rfl rfl rfl (by decide +kernel) ⟨Nat.le_of_ble_eq_true rfl, Nat.le_of_ble_eq_true rfl⟩) hK hP hD hS hA 0 rfl rfl rfl rfl hl.1 rfl (Nat.le_of_ble_eq_true rfl) dX5_step_15 ⟨Nat.le_of_ble_eq_true rfl, Nat.le_of_ble_eq_true rfl⟩ (fun r_3 u_4 H locs hw_5 hP hD hS => ?_)
  obtain ⟨F_6, rfl⟩ : ∃ z, z = u_4 := ⟨_, rfl⟩
  obtain ⟨Pa_7, hq_8, hq_9, hf_10, -, -, -, -⟩ := hw_5
  have hf_10 : ∀ j, j ∉ ([10, 11, 12, 14] : List Nat) → F_6 j = F j := hf_10
  have hP : va_P (dC, dI) vwCl (wM cI cZ cJ h F_6 G (va_up V 0 0)) H := hP
  have hD : va_D A (wM cI cZ cJ h F_6 G (va_up V 0 0)) := hD
  have hN_11 : ∀ i, i < 40 → F_6 3 i = nI (So i) := by rw [hf_10 3 (by decide)]; exact hSo
  have hN_12 : ∀ i, i < 4 → F_6 4 i = nI (Lm i) := by rw [hf_10 4 (by decide)]; exact hLm
  have hN_13 : ∀ i, i < 24 → F_6 7 i = nI (Hh i) := by rw [hf_10 7 (by decide)]; exact hHh
  have hN_14 : ∀ i, i < 24 → F_6 8 i = nI (Wd i) := by rw [hf_10 8 (by decide)]; exact hWd
  have hN_15 : ∀ i, i < 24 → F_6 9 i = nI (Pr i) := by rw [hf_10 9 (by decide)]; exact hPr
  have hb_16 : aimH Pa_7 (ordn Pa_7 n) Lm n ≤ 4000 := aimHn_le (by omega) hq_8
  obtain rfl : r_3 = nI (aimH Pa_7 (ordn Pa_7 n) Lm n) := hq_9
  refine lv_bipush (v := 100) hx hb dX5_step_18 (by decide) ?_
  refine lv_idiv hx hb dX5_step_20 (by decide) ?_
  refine lv_topi (fun x_17 ex_17 => ?_)
  obtain rfl : x_17 = nI ((aimH Pa_7 (ordn Pa_7 n) Lm n) / 100) := ex_17.trans (pk_div (a := aimH Pa_7 (ordn Pa_7 n) Lm n) (d := 100) (by omega) (by omega) (by omega))
  refine cw_Si (As := [.int (nI un), .int (nI ((aimH Pa_7 (ordn Pa_7 n) Lm n) / 100))]) (rest := []) (c_X5_filled l dC dI cI cZ cJ (wM cI cZ cJ h F_6 G (va_up V 0 0)) un ((aimH Pa_7 (ordn Pa_7 n) Lm n) / 100) (by omega)) fx (va_cwS 2 hts gX5_step_X5_filled rfl rfl rfl (by decide +kernel) ⟨Nat.le_of_ble_eq_true rfl, Nat.le_of_ble_eq_true rfl⟩) hK hP hD hS hA rfl hl.1 rfl (Nat.le_of_ble_eq_true rfl) dX5_step_21 ⟨Nat.le_of_ble_eq_true rfl, Nat.le_of_ble_eq_true rfl⟩ (fun r_18 u_19 H locs hw_20 hP hD hS => ?_)
  have hP : va_P (dC, dI) vwCl (wM cI cZ cJ h F_6 G (va_up V 0 0)) H := hP
  have hD : va_D A (wM cI cZ cJ h F_6 G (va_up V 0 0)) := hD
  obtain rfl : r_18 = nI (min 200 (un + ((aimH Pa_7 (ordn Pa_7 n) Lm n) / 100))) := hw_20
  refine lv_istore_n (lv' := [(2, .int (nI (min 200 (un + ((aimH Pa_7 (ordn Pa_7 n) Lm n) / 100))))), (0, .ref (h 0)), (1, .int 0)]) hx hb dX5_step_24 rfl hl (by decide) rfl (fun ls hl => ?_)
  refine lv_iload_n hx hb dX5_step_25 rfl (lv_at hl 2 rfl) ?_
  refine lv_if_eq (tgt := 46) hx hb dX5_step_26 (by decide) (fun c_21 => ?_) (fun c_21 => ?_)
  · refine lv_iload_n hx hb dX5_step_46 rfl (lv_at hl 2 rfl) ?_
    refine lv_if_eq (tgt := 64) hx hb dX5_step_47 (by decide) (fun c_22 => ?_) (fun c_22 => ?_)
    · refine lv_iconst (v := 0) hx hb dX5_step_64 (by decide) ?_
      refine lv_istore_n (lv' := [(3, .int 0), (2, .int (nI (min 200 (un + ((aimH Pa_7 (ordn Pa_7 n) Lm n) / 100))))), (0, .ref (h 0)), (1, .int 0)]) hx hb dX5_step_65 rfl hl (by decide) rfl (fun ls hl => ?_)
      refine lv_aload_n hx hb dX5_step_66 rfl (lv_at hl 2 rfl) ?_
      refine lv_iload_n hx hb dX5_step_67 rfl (lv_at hl 3 rfl) ?_
      refine lv_if_eq (tgt := 83) hx hb dX5_step_68 (by decide) (fun c_23 => ?_) (fun c_23 => ?_)
      · refine lv_iload_n hx hb dX5_step_83 rfl (lv_at hl 1 rfl) ?_
        refine va_put (D := (dC, dI)) (ci := 5) (v := .int (nI (min 200 (un + ((aimH Pa_7 (ordn Pa_7 n) Lm n) / 100))))) (ty := .int) (C := RX5) (T := TX5) (N := 33) hx hb hts hin_X5 tyX5 tyX5_ok nmX5 hown hK hP hD hS 0 rfl rfl 4 (by decide) hw2 (fun _ h9 => h9) rfl (by decide +kernel) rfl rfl (Nat.le_of_ble_eq_true rfl) dX5_step_84 (fun H locs hP hD hS => ?_)
        have hP : va_P (dC, dI) vwCl (wM cI cZ cJ h F_6 G (va_up (va_up V 0 0) 4 (nI (min 200 (un + ((aimH Pa_7 (ordn Pa_7 n) Lm n) / 100)))))) H := hP
        have hD : va_D A (wM cI cZ cJ h F_6 G (va_up (va_up V 0 0) 4 (nI (min 200 (un + ((aimH Pa_7 (ordn Pa_7 n) Lm n) / 100)))))) := hD
        refine lv_aload_n hx hb dX5_step_87 rfl (lv_at hl 2 rfl) ?_
        refine lv_iload_n hx hb dX5_step_88 rfl (lv_at hl 3 rfl) ?_
        refine va_put (D := (dC, dI)) (ci := 5) (v := .int 0) (ty := .boolean) (C := RX5) (T := TX5) (N := 33) hx hb hts hin_X5 tyX5 tyX5_ok nmX5 hown hK hP hD hS 0 rfl rfl 7 (by decide) hw4 (fun _ h9 => h9) rfl (by decide +kernel) rfl rfl (Nat.le_of_ble_eq_true rfl) dX5_step_89 (fun H locs hP hD hS => ?_)
        have hP : va_P (dC, dI) vwCl (wM cI cZ cJ h F_6 G (va_up (va_up (va_up V 0 0) 4 (nI (min 200 (un + ((aimH Pa_7 (ordn Pa_7 n) Lm n) / 100))))) 7 0)) H := hP
        have hD : va_D A (wM cI cZ cJ h F_6 G (va_up (va_up (va_up V 0 0) 4 (nI (min 200 (un + ((aimH Pa_7 (ordn Pa_7 n) Lm n) / 100))))) 7 0)) := hD
        refine lv_aload_n hx hb dX5_step_92 rfl (lv_at hl 2 rfl) ?_
        refine lv_dup hx hb dX5_step_93 rfl ?_
        refine va_get (D := (dC, dI)) (ci := 5) (v := .int (V 5)) (C := RX5) (T := TX5) (N := 33) hx hb hts hin_X5 hown hK hP 0 rfl rfl 5 (by decide) hw5 (fun _ h9 => h9) rfl dX5_step_94 ?_
        refine lv_iload_n hx hb dX5_step_97 rfl (lv_at hl 0 rfl) ?_
        refine lv_iadd hx hb dX5_step_98 ?_
        refine va_put (D := (dC, dI)) (ci := 5) (v := .int ((V 5) + 0)) (ty := .int) (C := RX5) (T := TX5) (N := 33) hx hb hts hin_X5 tyX5 tyX5_ok nmX5 hown hK hP hD hS 0 rfl rfl 5 (by decide) hw5 (fun _ h9 => h9) rfl (by decide +kernel) rfl rfl (Nat.le_of_ble_eq_true rfl) dX5_step_99 (fun H locs hP hD hS => ?_)
        have hP : va_P (dC, dI) vwCl (wM cI cZ cJ h F_6 G (va_up (va_up (va_up (va_up V 0 0) 4 (nI (min 200 (un + ((aimH Pa_7 (ordn Pa_7 n) Lm n) / 100))))) 7 0) 5 ((V 5) + 0))) H := hP
        have hD : va_D A (wM cI cZ cJ h F_6 G (va_up (va_up (va_up (va_up V 0 0) 4 (nI (min 200 (un + ((aimH Pa_7 (ordn Pa_7 n) Lm n) / 100))))) 7 0) 5 ((V 5) + 0))) := hD
        refine lv_iconst (v := 0) hx hb dX5_step_102 (by decide) ?_
        refine lv_istore (lv' := [(4, .int 0), (3, .int 0), (2, .int (nI (min 200 (un + ((aimH Pa_7 (ordn Pa_7 n) Lm n) / 100))))), (0, .ref (h 0)), (1, .int 0)]) hx hb dX5_step_103 hl (by decide) rfl (fun ls hl => ?_)
        have loop105 : ∀ (fu : Nat) (k : Nat) (Sv : Nat → Nat) (F1 : Nat → Nat → Int32), (k ≤ n) → (∀ i, i < 40 → F1 3 i = nI (Sv i)) → (∀ i, i < 40 → Sv i ≤ 90) → (∀ j, j ∉ ([3] : List Nat) → F1 j = F_6 j) → (n - k) < fu → ∀ (H : Heap) (locs : List Loc) (ls : Array Slot), va_P (dC, dI) vwCl (wM cI cZ cJ h F1 G (va_up (va_up (va_up (va_up V 0 0) 4 (nI (min 200 (un + ((aimH Pa_7 (ordn Pa_7 n) Lm n) / 100))))) 7 0) 5 ((V 5) + 0))) H → va_D A (wM cI cZ cJ h F1 G (va_up (va_up (va_up (va_up V 0 0) 4 (nI (min 200 (un + ((aimH Pa_7 (ordn Pa_7 n) Lm n) / 100))))) 7 0) 5 ((V 5) + 0))) → va_S A s.heap H locs → lv_has ls 5 [(0, .ref (h 0)), (1, .int 0), (2, .int (nI (min 200 (un + ((aimH Pa_7 (ordn Pa_7 n) Lm n) / 100))))), (3, .int 0), (4, .int (nI k))] → W p l e rm_X5_step0 s m args below meth c H locs 0 0 Q (F0 m 105 ls []) := by
          intro fu
          induction fu with
          | zero => intro k Sv F1 hk hSv bSv hfr hn_; exact absurd hn_ (Nat.not_lt_zero _)
          | succ fu ih105 =>
            intro k Sv F1 hk hSv bSv hfr hn_ H locs ls hP hD hS hl
            have hN_24 : ∀ i, i < 4 → F1 4 i = nI (Lm i) := by rw [hfr 4 (by decide)]; exact hN_12
            have hN_25 : ∀ i, i < 24 → F1 7 i = nI (Hh i) := by rw [hfr 7 (by decide)]; exact hN_13
            have hN_26 : ∀ i, i < 24 → F1 8 i = nI (Wd i) := by rw [hfr 8 (by decide)]; exact hN_14
            have hN_27 : ∀ i, i < 24 → F1 9 i = nI (Pr i) := by rw [hfr 9 (by decide)]; exact hN_15
            refine lv_iload hx hb dX5_step_105 (lv_at hl 4 rfl) ?_
            refine lv_aload_n hx hb dX5_step_107 rfl (lv_at hl 0 rfl) ?_
            refine va_get (D := (dC, dI)) (ci := 5) (v := .int (V 2)) (C := RX5) (T := TX5) (N := 33) hx hb hts hin_X5 hown hK hP 0 rfl rfl 2 (by decide) hw6 (fun _ h9 => h9) rfl dX5_step_108 ?_
            refine lv_topi (fun x_28 ex_28 => ?_)
            obtain rfl : x_28 = nI n := ex_28.trans (hV2)
            refine lv_icmp_ge (tgt := 144) hx hb dX5_step_111 (by decide) (fun c_29 => ?_) (fun c_29 => ?_)
            · have c_29 : n ≤ k := (nI_leI (a := n) (b := k) (by omega) (by omega)).mp c_29
              refine lv_aload_n hx hb dX5_step_144 rfl (lv_at hl 0 rfl) ?_
              refine lv_aload_n hx hb dX5_step_145 rfl (lv_at hl 0 rfl) ?_
              refine va_get (D := (dC, dI)) (ci := 5) (v := .int (V 3)) (C := RX5) (T := TX5) (N := 33) hx hb hts hin_X5 hown hK hP 0 rfl rfl 3 (by decide) hw3 (fun _ h9 => h9) rfl dX5_step_146 ?_
              refine lv_topi (fun x_30 ex_30 => ?_)
              obtain rfl : x_30 = nI nw := ex_30.trans (hV3)
              refine lv_iconst (v := 1) hx hb dX5_step_149 (by decide) ?_
              refine lv_iadd hx hb dX5_step_150 ?_
              refine lv_topi (fun x_31 ex_31 => ?_)
              obtain rfl : x_31 = nI (nw + 1) := ex_31.trans (nI_add nw 1)
              refine lv_bipush (v := 24) hx hb dX5_step_151 (by decide) ?_
              refine lv_irem hx hb dX5_step_153 (by decide) ?_
              refine lv_topi (fun x_32 ex_32 => ?_)
              obtain rfl : x_32 = nI ((nw + 1) % 24) := ex_32.trans (pk_rem (a := nw + 1) (d := 24) (by omega) (by omega) (by omega))
              refine va_put (D := (dC, dI)) (ci := 5) (v := .int (nI ((nw + 1) % 24))) (ty := .int) (C := RX5) (T := TX5) (N := 33) hx hb hts hin_X5 tyX5 tyX5_ok nmX5 hown hK hP hD hS 0 rfl rfl 3 (by decide) hw3 (fun _ h9 => h9) rfl (by decide +kernel) rfl rfl (Nat.le_of_ble_eq_true rfl) dX5_step_154 (fun H locs hP hD hS => ?_)
              have hP : va_P (dC, dI) vwCl (wM cI cZ cJ h F1 G (va_up (va_up (va_up (va_up (va_up V 0 0) 4 (nI (min 200 (un + ((aimH Pa_7 (ordn Pa_7 n) Lm n) / 100))))) 7 0) 5 ((V 5) + 0)) 3 (nI ((nw + 1) % 24)))) H := hP
              have hD : va_D A (wM cI cZ cJ h F1 G (va_up (va_up (va_up (va_up (va_up V 0 0) 4 (nI (min 200 (un + ((aimH Pa_7 (ordn Pa_7 n) Lm n) / 100))))) 7 0) 5 ((V 5) + 0)) 3 (nI ((nw + 1) % 24)))) := hD
              refine lv_aload_n hx hb dX5_step_157 rfl (lv_at hl 0 rfl) ?_
              refine lv_iload_n hx hb dX5_step_158 rfl (lv_at hl 3 rfl) ?_
              refine cw_Vi (As := [.int 0]) (rest := []) (c_X5_done l dC dI cI cZ cJ h F1 G (va_up (va_up (va_up (va_up (va_up V 0 0) 4 (nI (min 200 (un + ((aimH Pa_7 (ordn Pa_7 n) Lm n) / 100))))) 7 0) 5 ((V 5) + 0)) 3 (nI ((nw + 1) % 24))) 0) fx (cwV 1 hts gX5_step_X5_done rfl rfl rfl (by decide +kernel) ⟨Nat.le_of_ble_eq_true rfl, Nat.le_of_ble_eq_true rfl⟩) hK hP hD hS hA 0 rfl rfl rfl rfl hl.1 rfl (Nat.le_of_ble_eq_true rfl) dX5_step_159 ⟨Nat.le_of_ble_eq_true rfl, Nat.le_of_ble_eq_true rfl⟩ (fun r_33 u_34 H locs hw_35 hP hD hS => ?_)
              have hP : va_P (dC, dI) vwCl (wM cI cZ cJ h F1 G (va_up (va_up (va_up (va_up (va_up (va_up V 0 0) 4 (nI (min 200 (un + ((aimH Pa_7 (ordn Pa_7 n) Lm n) / 100))))) 7 0) 5 ((V 5) + 0)) 3 (nI ((nw + 1) % 24))) 1 0)) H := hP
              have hD : va_D A (wM cI cZ cJ h F1 G (va_up (va_up (va_up (va_up (va_up (va_up V 0 0) 4 (nI (min 200 (un + ((aimH Pa_7 (ordn Pa_7 n) Lm n) / 100))))) 7 0) 5 ((V 5) + 0)) 3 (nI ((nw + 1) % 24))) 1 0)) := hD
              obtain rfl : r_33 = 0 := hw_35
              exact hret 0 (F1, G, va_up (va_up (va_up (va_up (va_up (va_up V 0 0) 4 (nI (min 200 (un + ((aimH Pa_7 (ordn Pa_7 n) Lm n) / 100))))) 7 0) 5 ((V 5) + 0)) 3 (nI ((nw + 1) % 24))) 1 0) H locs 162 ls rfl dX5_step_162 (⟨trivial, ⟨n, ((nw + 1) % 24), (min 200 (un + ((aimH Pa_7 (ordn Pa_7 n) Lm n) / 100))), d, 0, pf, sh, am, Sv, Lm, Hh, Wd, Pr, ⟨hV2, by omega⟩, ⟨rfl, by omega⟩, ⟨rfl, by omega⟩, ⟨hV6, by omega⟩, ⟨rfl, by omega⟩, ⟨hV10, by omega⟩, ⟨hV11, by omega⟩, ⟨hV8, by omega⟩, ⟨hSv, bSv⟩, ⟨hN_24, bLm⟩, ⟨hN_25, bHh⟩, ⟨hN_26, bWd⟩, ⟨hN_27, bPr⟩⟩⟩) (hP) (hD) hS
            · have c_29 : ¬ n ≤ k := fun h => c_29 ((nI_leI (a := n) (b := k) (by omega) (by omega)).mpr h)
              refine lv_aload_n hx hb dX5_step_114 rfl (lv_at hl 0 rfl) ?_
              refine va_get (D := (dC, dI)) (ci := 5) (v := .ref (h 3)) (C := RX5) (T := TX5) (N := 33) hx hb hts hin_X5 hown hK hP 0 rfl rfl 10 (by decide) hw7 (fun _ h9 => h9) rfl dX5_step_115 ?_
              refine lv_iload hx hb dX5_step_118 (lv_at hl 4 rfl) ?_
              refine lv_bipush (v := 90) hx hb dX5_step_120 (by decide) ?_
              refine lv_aload_n hx hb dX5_step_122 rfl (lv_at hl 0 rfl) ?_
              refine va_get (D := (dC, dI)) (ci := 5) (v := .ref (h 3)) (C := RX5) (T := TX5) (N := 33) hx hb hts hin_X5 hown hK hP 0 rfl rfl 10 (by decide) hw7 (fun _ h9 => h9) rfl dX5_step_123 ?_
              refine lv_iload hx hb dX5_step_126 (lv_at hl 4 rfl) ?_
              refine va_iald hx hb hK hP 3 0 rfl rfl (vp_in_nI (n := k) (N := 40) (by omega) (by decide)) dX5_step_128 ?_
              have hb_36 := bSv k (by omega)
              refine lv_topi (fun x_37 ex_37 => ?_)
              obtain rfl : x_37 = nI (Sv k) := ex_37.trans ((congrArg (F1 3) (nI_clamp (n := k) (by omega))).trans (hSv k (by omega)))
              refine lv_aload_n hx hb dX5_step_129 rfl (lv_at hl 0 rfl) ?_
              refine va_get (D := (dC, dI)) (ci := 5) (v := .int (V 6)) (C := RX5) (T := TX5) (N := 33) hx hb hts hin_X5 hown hK hP 0 rfl rfl 6 (by decide) hw8 (fun _ h9 => h9) rfl dX5_step_130 ?_
              refine lv_topi (fun x_38 ex_38 => ?_)
              obtain rfl : x_38 = nI d := ex_38.trans (hV6)
              refine lv_iadd hx hb dX5_step_133 ?_
              refine lv_topi (fun x_39 ex_39 => ?_)
              obtain rfl : x_39 = nI ((Sv k) + d) := ex_39.trans (nI_add (Sv k) d)
              refine va_mmin hx hb (hml.trans hl.1.symm) hown hw9 hw10 hw11 hw12 (Nat.le_of_ble_eq_true rfl) (Nat.le_of_ble_eq_true rfl) (Nat.le_of_ble_eq_true rfl) (Nat.le_of_ble_eq_true rfl) dX5_step_134 ?_
              refine lv_topi (fun x_40 ex_40 => ?_)
              obtain rfl : x_40 = nI (min 90 ((Sv k) + d)) := ex_40.trans (mm_min (a := 90) (b := (Sv k) + d) (by omega) (by omega))
              refine va_iast hx hb hK hP hD hS 3 0 rfl rfl (vp_in_nI (n := k) (N := 40) (by omega) (by decide)) dX5_step_137 (fun H locs hP hD hS => ?_)
              obtain ⟨F_41, eF_41⟩ : ∃ z : Nat → Nat → Int32, z = va_up F1 3 (upd (F1 3) (nI k).toNatClampNeg (nI (min 90 ((Sv k) + d)))) := ⟨_, rfl⟩
              have hP : va_P (dC, dI) vwCl (wM cI cZ cJ h F_41 G (va_up (va_up (va_up (va_up V 0 0) 4 (nI (min 200 (un + ((aimH Pa_7 (ordn Pa_7 n) Lm n) / 100))))) 7 0) 5 ((V 5) + 0))) H := by rw [eF_41]; exact hP
              have hD : va_D A (wM cI cZ cJ h F_41 G (va_up (va_up (va_up (va_up V 0 0) 4 (nI (min 200 (un + ((aimH Pa_7 (ordn Pa_7 n) Lm n) / 100))))) 7 0) 5 ((V 5) + 0))) := by rw [eF_41]; exact hD
              have hN_42 : ∀ i, i < 4 → F_41 4 i = nI (Lm i) := by rw [eF_41]; exact hN_24
              have hN_43 : ∀ i, i < 24 → F_41 7 i = nI (Hh i) := by rw [eF_41]; exact hN_25
              have hN_44 : ∀ i, i < 24 → F_41 8 i = nI (Wd i) := by rw [eF_41]; exact hN_26
              have hN_45 : ∀ i, i < 24 → F_41 9 i = nI (Pr i) := by rw [eF_41]; exact hN_27
              obtain ⟨S_46, eS_46⟩ : ∃ z : Nat → Nat, z = nup Sv k (min 90 ((Sv k) + d)) := ⟨_, rfl⟩
              have hN_47 : ∀ i, i < 40 → F_41 3 i = nI (S_46 i) := by rw [eF_41, eS_46]; show ∀ i, i < 40 → upd (F1 3) (nI k).toNatClampNeg (nI (min 90 ((Sv k) + d))) i = nI _; exact nf_put hSv (nI_clamp (n := k) (by omega))
              have bN_48 : ∀ i, i < 40 → S_46 i ≤ 90 := by rw [eS_46]; exact nb_put bSv (by omega)
              refine lv_iinc (v := nI (k + 1)) (lv' := [(4, .int (nI (k + 1))), (0, .ref (h 0)), (1, .int 0), (2, .int (nI (min 200 (un + ((aimH Pa_7 (ordn Pa_7 n) Lm n) / 100))))), (3, .int 0)]) hx hb dX5_step_138 hl (k := 4) rfl (nI_1 _) (by decide) rfl (fun ls hl => ?_)
              refine lv_goto (tgt := 105) hx hb dX5_step_141 (by decide) ?_
              exact ih105 (k + 1) S_46 F_41 (by omega) hN_47 bN_48 (fun j hj => ((va_ne eF_41 (fun h => hj (by rw [h]; decide))).trans (hfr j hj))) (by omega) H locs ls hP hD hS (lv_sub hl [1, 2, 3, 4, 0] rfl)
        exact loop105 _ 0 So F_6 (by omega) hN_11 bSo (fun _ _ => rfl) (Nat.lt_succ_self _) H locs ls hP hD hS (lv_sub hl [3, 4, 2, 1, 0] rfl)
      · exact absurd c_23 (by decide)
    · exact absurd c_22 (by decide)
  · exact absurd c_21 (by decide)
def rm_X5_step1 : Room := { frames := 4, cells := 0, slots := 0, locals := 104 }
set_option maxHeartbeats 4000000 in
set_option maxRecDepth 100000 in
theorem c_X5_step1 (l : Launch) (dC : Nat → ClassId) (dI : Nat → Nat → Nat) (cI cZ cJ : ClassId) (h : Nat → Nat) (F : Nat → Nat → Int32) (G : Nat → Int64) (V : Nat → Int32) (n : Nat) (hV2 : V 2 = nI n) (bV2 : n ≤ 40) (nw : Nat) (hV3 : V 3 = nI nw) (bV3 : nw ≤ 23) (un : Nat) (hV4 : V 4 = nI un) (bV4 : un ≤ 200) (d : Nat) (hV6 : V 6 = nI d) (bV6 : d ≤ 20) (wm : Nat) (hV7 : V 7 = nI wm) (bV7 : wm ≤ 1) (pf : Nat) (hV10 : V 10 = nI pf) (bV10 : pf ≤ 24) (sh : Nat) (hV11 : V 11 = nI sh) (bV11 : sh ≤ 12) (So : Nat → Nat) (hSo : ∀ i, i < 40 → F 3 i = nI (So i)) (bSo : ∀ i, i < 40 → So i ≤ 90) (Lm : Nat → Nat) (hLm : ∀ i, i < 4 → F 4 i = nI (Lm i)) (bLm : ∀ i, i < 4 → Lm i ≤ 10000) (Hh : Nat → Nat) (hHh : ∀ i, i < 24 → F 7 i = nI (Hh i)) (bHh : ∀ i, i < 24 → Hh i ≤ 9) (Wd : Nat → Nat) (hWd : ∀ i, i < 24 → F 8 i = nI (Wd i)) (bWd : ∀ i, i < 24 → Wd i ≤ 99) (Pr : Nat → Nat) (hPr : ∀ i, i < 24 → F 9 i = nI (Pr i)) (bPr : ∀ i, i < 24 → Pr i ≤ 999)   (am : Nat) (hV8 : V 8 = nI am - 1) (bam : am ≤ 41) : CtI l (dC, dI) vwCl (tys3 cI cZ cJ) yX5_step wsX5_step rm_X5_step1 [.ref (h 0), .int 1] (wM cI cZ cJ h F G V) (S := (Nat → Nat → Int32) × (Nat → Int64) × (Nat → Int32)) (fun r u => (True) ∧ IM u.1 u.2.2) (fun u => wM cI cZ cJ h u.1 u.2.1 u.2.2) 0 0 := by
  refine ct_I (cc := cX5_step) (maxL := 5) (ty := .int) (own := RX5) (by decide) rfl rfl (Nat.le_of_ble_eq_true rfl) (lv := [(0, .ref (h 0)), (1, .int 1)]) rfl ?_
  intro p e s m args below meth c A Q ls fx hK hP hD hA hl hret
  obtain ⟨hx, hb, hml, hown, hts⟩ := id fx
  have hS : va_S A s.heap s.heap [] := va_S.rf
  have hw0 := hts (.fieldLink RX5 1 "MirrorTowerModel" "thrown" "I") (by decide +kernel)
  have hin_X5 : ∀ w ∈ u_ws RX5 TX5 33, w ∈ wsX5_step := by decide +kernel
  have hw2 := hts (.fieldLink RX5 168 "MirrorTowerModel" "store" "I") (by decide +kernel)
  have hw3 := hts (.fieldLink RX5 154 "MirrorTowerModel" "now" "I") (by decide +kernel)
  have hw4 := hts (.fieldLink RX5 171 "MirrorTowerModel" "isWarm" "Z") (by decide +kernel)
  have hw5 := hts (.fieldLink RX5 44 "MirrorTowerModel" "price" "[I") (by decide +kernel)
  have hw6 := hts (.fieldLink RX5 175 "MirrorTowerModel" "earned" "I") (by decide +kernel)
  have hw7 := hts (.fieldLink RX5 91 "MirrorTowerModel" "mirrors" "I") (by decide +kernel)
  have hw8 := hts (.fieldLink RX5 26 "MirrorTowerModel" "soil" "[I") (by decide +kernel)
  have hw9 := hts (.fieldLink RX5 16 "MirrorTowerModel" "dust" "I") (by decide +kernel)
  have hw10 := hts (.methodLink RX5 129 Lib.Math.min.name) (by decide +kernel)
  have hw11 := hts (.static Lib.Math.min.name) (by decide +kernel)
  have hw12 := hts (.initialized "java/lang/Math") (by decide +kernel)
  have hw13 := hts (.code Lib.Math.min.name Lib.Math.min.code 2 (some .int)) (by decide +kernel)
  obtain ⟨H, hH⟩ : ∃ H, H = s.heap := ⟨_, rfl⟩
  rw [← hH] at hP ⊢
  have hS : va_S A s.heap H [] := by rw [hH]; exact hS
  generalize ([] : List Loc) = locs at hS ⊢
  refine lv_aload_n hx hb dX5_step_0 rfl (lv_at hl 0 rfl) ?_
  refine lv_iconst (v := 0) hx hb dX5_step_1 (by decide) ?_
  refine va_put (D := (dC, dI)) (ci := 5) (v := .int 0) (ty := .int) (C := RX5) (T := TX5) (N := 33) hx hb hts hin_X5 tyX5 tyX5_ok nmX5 hown hK hP hD hS 0 rfl rfl 0 (by decide) hw0 (fun _ h9 => h9) rfl (by decide +kernel) rfl rfl (Nat.le_of_ble_eq_true rfl) dX5_step_2 (fun H locs hP hD hS => ?_)
  have hP : va_P (dC, dI) vwCl (wM cI cZ cJ h F G (va_up V 0 0)) H := hP
  have hD : va_D A (wM cI cZ cJ h F G (va_up V 0 0)) := hD
  refine lv_aload_n hx hb dX5_step_5 rfl (lv_at hl 0 rfl) ?_
  refine va_get (D := (dC, dI)) (ci := 5) (v := .int (V 4)) (C := RX5) (T := TX5) (N := 33) hx hb hts hin_X5 hown hK hP 0 rfl rfl 4 (by decide) hw2 (fun _ h9 => h9) rfl dX5_step_6 ?_
  refine lv_topi (fun x_1 ex_1 => ?_)
  obtain rfl : x_1 = nI un := ex_1.trans (hV4)
  refine lv_aload_n hx hb dX5_step_9 rfl (lv_at hl 0 rfl) ?_
  refine lv_aload_n hx hb dX5_step_10 rfl (lv_at hl 0 rfl) ?_
  refine va_get (D := (dC, dI)) (ci := 5) (v := .int (V 3)) (C := RX5) (T := TX5) (N := 33) hx hb hts hin_X5 hown hK hP 0 rfl rfl 3 (by decide) hw3 (fun _ h9 => h9) rfl dX5_step_11 ?_
  refine lv_topi (fun x_2 ex_2 => ?_)
  obtain rfl : x_2 = nI nw := ex_2.trans (hV3)
  refine lv_iconst (v := 0) hx hb dX5_step_14 (by decide) ?_
  refine cw_Vi (As := [.int (nI nw), .int 0]) (rest := [.int (nI un)]) (c_X5_aims l dC dI cI cZ cJ h F G (va_up V 0 0) n hV2 (by omega) So hSo bSo Hh hHh bHh Wd hWd bWd Lm hLm bLm nw 0 (by omega) (by omega)) fx (cwV 2 hts gX5_step_X5_aims rfl rfl rfl (by decide +kernel) ⟨Nat.le_of_ble_eq_true rfl, Nat.le_of_ble_eq_true rfl⟩) hK hP hD hS hA 0 rfl rfl rfl rfl hl.1 rfl (Nat.le_of_ble_eq_true rfl) dX5_step_15 ⟨Nat.le_of_ble_eq_true rfl, Nat.le_of_ble_eq_true rfl⟩ (fun r_3 u_4 H locs hw_5 hP hD hS => ?_)
  obtain ⟨F_6, rfl⟩ : ∃ z, z = u_4 := ⟨_, rfl⟩
  obtain ⟨Pa_7, hq_8, hq_9, hf_10, -, -, -, -⟩ := hw_5
  have hf_10 : ∀ j, j ∉ ([10, 11, 12, 14] : List Nat) → F_6 j = F j := hf_10
  have hP : va_P (dC, dI) vwCl (wM cI cZ cJ h F_6 G (va_up V 0 0)) H := hP
  have hD : va_D A (wM cI cZ cJ h F_6 G (va_up V 0 0)) := hD
  have hN_11 : ∀ i, i < 40 → F_6 3 i = nI (So i) := by rw [hf_10 3 (by decide)]; exact hSo
  have hN_12 : ∀ i, i < 4 → F_6 4 i = nI (Lm i) := by rw [hf_10 4 (by decide)]; exact hLm
  have hN_13 : ∀ i, i < 24 → F_6 7 i = nI (Hh i) := by rw [hf_10 7 (by decide)]; exact hHh
  have hN_14 : ∀ i, i < 24 → F_6 8 i = nI (Wd i) := by rw [hf_10 8 (by decide)]; exact hWd
  have hN_15 : ∀ i, i < 24 → F_6 9 i = nI (Pr i) := by rw [hf_10 9 (by decide)]; exact hPr
  have hb_16 : aimH Pa_7 (ordn Pa_7 n) Lm n ≤ 4000 := aimHn_le (by omega) hq_8
  obtain rfl : r_3 = nI (aimH Pa_7 (ordn Pa_7 n) Lm n) := hq_9
  refine lv_bipush (v := 100) hx hb dX5_step_18 (by decide) ?_
  refine lv_idiv hx hb dX5_step_20 (by decide) ?_
  refine lv_topi (fun x_17 ex_17 => ?_)
  obtain rfl : x_17 = nI ((aimH Pa_7 (ordn Pa_7 n) Lm n) / 100) := ex_17.trans (pk_div (a := aimH Pa_7 (ordn Pa_7 n) Lm n) (d := 100) (by omega) (by omega) (by omega))
  refine cw_Si (As := [.int (nI un), .int (nI ((aimH Pa_7 (ordn Pa_7 n) Lm n) / 100))]) (rest := []) (c_X5_filled l dC dI cI cZ cJ (wM cI cZ cJ h F_6 G (va_up V 0 0)) un ((aimH Pa_7 (ordn Pa_7 n) Lm n) / 100) (by omega)) fx (va_cwS 2 hts gX5_step_X5_filled rfl rfl rfl (by decide +kernel) ⟨Nat.le_of_ble_eq_true rfl, Nat.le_of_ble_eq_true rfl⟩) hK hP hD hS hA rfl hl.1 rfl (Nat.le_of_ble_eq_true rfl) dX5_step_21 ⟨Nat.le_of_ble_eq_true rfl, Nat.le_of_ble_eq_true rfl⟩ (fun r_18 u_19 H locs hw_20 hP hD hS => ?_)
  have hP : va_P (dC, dI) vwCl (wM cI cZ cJ h F_6 G (va_up V 0 0)) H := hP
  have hD : va_D A (wM cI cZ cJ h F_6 G (va_up V 0 0)) := hD
  obtain rfl : r_18 = nI (min 200 (un + ((aimH Pa_7 (ordn Pa_7 n) Lm n) / 100))) := hw_20
  refine lv_istore_n (lv' := [(2, .int (nI (min 200 (un + ((aimH Pa_7 (ordn Pa_7 n) Lm n) / 100))))), (0, .ref (h 0)), (1, .int 1)]) hx hb dX5_step_24 rfl hl (by decide) rfl (fun ls hl => ?_)
  refine lv_iload_n hx hb dX5_step_25 rfl (lv_at hl 2 rfl) ?_
  refine lv_if_eq (tgt := 46) hx hb dX5_step_26 (by decide) (fun c_21 => ?_) (fun c_21 => ?_)
  · exact absurd c_21 (by decide)
  · refine lv_iload_n hx hb dX5_step_29 rfl (lv_at hl 0 rfl) ?_
    refine lv_aload_n hx hb dX5_step_30 rfl (lv_at hl 1 rfl) ?_
    refine va_get (D := (dC, dI)) (ci := 5) (v := .int (V 7)) (C := RX5) (T := TX5) (N := 33) hx hb hts hin_X5 hown hK hP 0 rfl rfl 7 (by decide) hw4 (fun _ h9 => h9) rfl dX5_step_31 ?_
    refine lv_topi (fun x_22 ex_22 => ?_)
    obtain rfl : x_22 = nI wm := ex_22.trans (hV7)
    refine cw_Si (As := [.int (nI wm)]) (rest := [.int (nI (min 200 (un + ((aimH Pa_7 (ordn Pa_7 n) Lm n) / 100))))]) (c_X5_takes l dC dI cI cZ cJ (wM cI cZ cJ h F_6 G (va_up V 0 0)) wm (by omega)) fx (va_cwS 1 hts gX5_step_X5_takes rfl rfl rfl (by decide +kernel) ⟨Nat.le_of_ble_eq_true rfl, Nat.le_of_ble_eq_true rfl⟩) hK hP hD hS hA rfl hl.1 rfl (Nat.le_of_ble_eq_true rfl) dX5_step_34 ⟨Nat.le_of_ble_eq_true rfl, Nat.le_of_ble_eq_true rfl⟩ (fun r_23 u_24 H locs hw_25 hP hD hS => ?_)
    have hP : va_P (dC, dI) vwCl (wM cI cZ cJ h F_6 G (va_up V 0 0)) H := hP
    have hD : va_D A (wM cI cZ cJ h F_6 G (va_up V 0 0)) := hD
    obtain rfl : r_23 = nI (7 - 2 * wm) := hw_25
    refine lv_icmp_ge (tgt := 46) hx hb dX5_step_37 (by decide) (fun c_26 => ?_) (fun c_26 => ?_)
    · have c_26 : (7 - 2 * wm) ≤ (min 200 (un + ((aimH Pa_7 (ordn Pa_7 n) Lm n) / 100))) := (nI_leI (a := 7 - 2 * wm) (b := min 200 (un + ((aimH Pa_7 (ordn Pa_7 n) Lm n) / 100))) (by omega) (by omega)).mp c_26
      refine lv_iload_n hx hb dX5_step_46 rfl (lv_at hl 2 rfl) ?_
      refine lv_if_eq (tgt := 64) hx hb dX5_step_47 (by decide) (fun c_27 => ?_) (fun c_27 => ?_)
      · exact absurd c_27 (by decide)
      · refine lv_iconst (v := 5) hx hb dX5_step_50 (by decide) ?_
        refine lv_aload_n hx hb dX5_step_51 rfl (lv_at hl 1 rfl) ?_
        refine va_get (D := (dC, dI)) (ci := 5) (v := .ref (h 9)) (C := RX5) (T := TX5) (N := 33) hx hb hts hin_X5 hown hK hP 0 rfl rfl 16 (by decide) hw5 (fun _ h9 => h9) rfl dX5_step_52 ?_
        refine lv_aload_n hx hb dX5_step_55 rfl (lv_at hl 1 rfl) ?_
        refine va_get (D := (dC, dI)) (ci := 5) (v := .int (V 3)) (C := RX5) (T := TX5) (N := 33) hx hb hts hin_X5 hown hK hP 0 rfl rfl 3 (by decide) hw3 (fun _ h9 => h9) rfl dX5_step_56 ?_
        refine lv_topi (fun x_28 ex_28 => ?_)
        obtain rfl : x_28 = nI nw := ex_28.trans (hV3)
        refine va_iald hx hb hK hP 9 0 rfl rfl (vp_in_nI (n := nw) (N := 24) (by omega) (by decide)) dX5_step_59 ?_
        have hb_29 := bPr nw (by omega)
        refine lv_topi (fun x_30 ex_30 => ?_)
        obtain rfl : x_30 = nI (Pr nw) := ex_30.trans ((congrArg (F_6 9) (nI_clamp (n := nw) (by omega))).trans (hN_15 nw (by omega)))
        refine lv_imul hx hb dX5_step_60 ?_
        refine lv_topi (fun x_31 ex_31 => ?_)
        obtain rfl : x_31 = nI (5 * (Pr nw)) := ex_31.trans (pk_mul 5 (Pr nw))
        refine lv_goto (tgt := 65) hx hb dX5_step_61 (by decide) ?_
        refine lv_istore_n (lv' := [(3, .int (nI (5 * (Pr nw)))), (2, .int (nI (min 200 (un + ((aimH Pa_7 (ordn Pa_7 n) Lm n) / 100))))), (0, .ref (h 0)), (1, .int 1)]) hx hb dX5_step_65 rfl hl (by decide) rfl (fun ls hl => ?_)
        refine lv_aload_n hx hb dX5_step_66 rfl (lv_at hl 2 rfl) ?_
        refine lv_iload_n hx hb dX5_step_67 rfl (lv_at hl 3 rfl) ?_
        refine lv_if_eq (tgt := 83) hx hb dX5_step_68 (by decide) (fun c_32 => ?_) (fun c_32 => ?_)
        · exact absurd c_32 (by decide)
        · refine lv_iload_n hx hb dX5_step_71 rfl (lv_at hl 1 rfl) ?_
          refine lv_aload_n hx hb dX5_step_72 rfl (lv_at hl 2 rfl) ?_
          refine va_get (D := (dC, dI)) (ci := 5) (v := .int (V 7)) (C := RX5) (T := TX5) (N := 33) hx hb hts hin_X5 hown hK hP 0 rfl rfl 7 (by decide) hw4 (fun _ h9 => h9) rfl dX5_step_73 ?_
          refine lv_topi (fun x_33 ex_33 => ?_)
          obtain rfl : x_33 = nI wm := ex_33.trans (hV7)
          refine cw_Si (As := [.int (nI wm)]) (rest := [.int (nI (min 200 (un + ((aimH Pa_7 (ordn Pa_7 n) Lm n) / 100)))), .ref (h 0)]) (c_X5_takes l dC dI cI cZ cJ (wM cI cZ cJ h F_6 G (va_up V 0 0)) wm (by omega)) fx (va_cwS 1 hts gX5_step_X5_takes rfl rfl rfl (by decide +kernel) ⟨Nat.le_of_ble_eq_true rfl, Nat.le_of_ble_eq_true rfl⟩) hK hP hD hS hA rfl hl.1 rfl (Nat.le_of_ble_eq_true rfl) dX5_step_76 ⟨Nat.le_of_ble_eq_true rfl, Nat.le_of_ble_eq_true rfl⟩ (fun r_34 u_35 H locs hw_36 hP hD hS => ?_)
          have hP : va_P (dC, dI) vwCl (wM cI cZ cJ h F_6 G (va_up V 0 0)) H := hP
          have hD : va_D A (wM cI cZ cJ h F_6 G (va_up V 0 0)) := hD
          obtain rfl : r_34 = nI (7 - 2 * wm) := hw_36
          refine lv_isub hx hb dX5_step_79 ?_
          refine lv_topi (fun x_37 ex_37 => ?_)
          obtain rfl : x_37 = nI ((min 200 (un + ((aimH Pa_7 (ordn Pa_7 n) Lm n) / 100))) - (7 - 2 * wm)) := ex_37.trans (pk_sub (a := min 200 (un + ((aimH Pa_7 (ordn Pa_7 n) Lm n) / 100))) (b := 7 - 2 * wm) (by omega))
          refine lv_goto (tgt := 84) hx hb dX5_step_80 (by decide) ?_
          refine va_put (D := (dC, dI)) (ci := 5) (v := .int (nI ((min 200 (un + ((aimH Pa_7 (ordn Pa_7 n) Lm n) / 100))) - (7 - 2 * wm)))) (ty := .int) (C := RX5) (T := TX5) (N := 33) hx hb hts hin_X5 tyX5 tyX5_ok nmX5 hown hK hP hD hS 0 rfl rfl 4 (by decide) hw2 (fun _ h9 => h9) rfl (by decide +kernel) rfl rfl (Nat.le_of_ble_eq_true rfl) dX5_step_84 (fun H locs hP hD hS => ?_)
          have hP : va_P (dC, dI) vwCl (wM cI cZ cJ h F_6 G (va_up (va_up V 0 0) 4 (nI ((min 200 (un + ((aimH Pa_7 (ordn Pa_7 n) Lm n) / 100))) - (7 - 2 * wm))))) H := hP
          have hD : va_D A (wM cI cZ cJ h F_6 G (va_up (va_up V 0 0) 4 (nI ((min 200 (un + ((aimH Pa_7 (ordn Pa_7 n) Lm n) / 100))) - (7 - 2 * wm))))) := hD
          refine lv_aload_n hx hb dX5_step_87 rfl (lv_at hl 2 rfl) ?_
          refine lv_iload_n hx hb dX5_step_88 rfl (lv_at hl 3 rfl) ?_
          refine va_put (D := (dC, dI)) (ci := 5) (v := .int 1) (ty := .boolean) (C := RX5) (T := TX5) (N := 33) hx hb hts hin_X5 tyX5 tyX5_ok nmX5 hown hK hP hD hS 0 rfl rfl 7 (by decide) hw4 (fun _ h9 => h9) rfl (by decide +kernel) rfl rfl (Nat.le_of_ble_eq_true rfl) dX5_step_89 (fun H locs hP hD hS => ?_)
          have hP : va_P (dC, dI) vwCl (wM cI cZ cJ h F_6 G (va_up (va_up (va_up V 0 0) 4 (nI ((min 200 (un + ((aimH Pa_7 (ordn Pa_7 n) Lm n) / 100))) - (7 - 2 * wm)))) 7 1)) H := hP
          have hD : va_D A (wM cI cZ cJ h F_6 G (va_up (va_up (va_up V 0 0) 4 (nI ((min 200 (un + ((aimH Pa_7 (ordn Pa_7 n) Lm n) / 100))) - (7 - 2 * wm)))) 7 1)) := hD
          refine lv_aload_n hx hb dX5_step_92 rfl (lv_at hl 2 rfl) ?_
          refine lv_dup hx hb dX5_step_93 rfl ?_
          refine va_get (D := (dC, dI)) (ci := 5) (v := .int (V 5)) (C := RX5) (T := TX5) (N := 33) hx hb hts hin_X5 hown hK hP 0 rfl rfl 5 (by decide) hw6 (fun _ h9 => h9) rfl dX5_step_94 ?_
          refine lv_iload_n hx hb dX5_step_97 rfl (lv_at hl 0 rfl) ?_
          refine lv_iadd hx hb dX5_step_98 ?_
          refine va_put (D := (dC, dI)) (ci := 5) (v := .int ((V 5) + (nI (5 * (Pr nw))))) (ty := .int) (C := RX5) (T := TX5) (N := 33) hx hb hts hin_X5 tyX5 tyX5_ok nmX5 hown hK hP hD hS 0 rfl rfl 5 (by decide) hw6 (fun _ h9 => h9) rfl (by decide +kernel) rfl rfl (Nat.le_of_ble_eq_true rfl) dX5_step_99 (fun H locs hP hD hS => ?_)
          have hP : va_P (dC, dI) vwCl (wM cI cZ cJ h F_6 G (va_up (va_up (va_up (va_up V 0 0) 4 (nI ((min 200 (un + ((aimH Pa_7 (ordn Pa_7 n) Lm n) / 100))) - (7 - 2 * wm)))) 7 1) 5 ((V 5) + (nI (5 * (Pr nw)))))) H := hP
          have hD : va_D A (wM cI cZ cJ h F_6 G (va_up (va_up (va_up (va_up V 0 0) 4 (nI ((min 200 (un + ((aimH Pa_7 (ordn Pa_7 n) Lm n) / 100))) - (7 - 2 * wm)))) 7 1) 5 ((V 5) + (nI (5 * (Pr nw)))))) := hD
          refine lv_iconst (v := 0) hx hb dX5_step_102 (by decide) ?_
          refine lv_istore (lv' := [(4, .int 0), (3, .int (nI (5 * (Pr nw)))), (2, .int (nI (min 200 (un + ((aimH Pa_7 (ordn Pa_7 n) Lm n) / 100))))), (0, .ref (h 0)), (1, .int 1)]) hx hb dX5_step_103 hl (by decide) rfl (fun ls hl => ?_)
          have loop105 : ∀ (fu : Nat) (k : Nat) (Sv : Nat → Nat) (F1 : Nat → Nat → Int32), (k ≤ n) → (∀ i, i < 40 → F1 3 i = nI (Sv i)) → (∀ i, i < 40 → Sv i ≤ 90) → (∀ j, j ∉ ([3] : List Nat) → F1 j = F_6 j) → (n - k) < fu → ∀ (H : Heap) (locs : List Loc) (ls : Array Slot), va_P (dC, dI) vwCl (wM cI cZ cJ h F1 G (va_up (va_up (va_up (va_up V 0 0) 4 (nI ((min 200 (un + ((aimH Pa_7 (ordn Pa_7 n) Lm n) / 100))) - (7 - 2 * wm)))) 7 1) 5 ((V 5) + (nI (5 * (Pr nw)))))) H → va_D A (wM cI cZ cJ h F1 G (va_up (va_up (va_up (va_up V 0 0) 4 (nI ((min 200 (un + ((aimH Pa_7 (ordn Pa_7 n) Lm n) / 100))) - (7 - 2 * wm)))) 7 1) 5 ((V 5) + (nI (5 * (Pr nw)))))) → va_S A s.heap H locs → lv_has ls 5 [(0, .ref (h 0)), (1, .int 1), (2, .int (nI (min 200 (un + ((aimH Pa_7 (ordn Pa_7 n) Lm n) / 100))))), (3, .int (nI (5 * (Pr nw)))), (4, .int (nI k))] → W p l e rm_X5_step1 s m args below meth c H locs 0 0 Q (F0 m 105 ls []) := by
            intro fu
            induction fu with
            | zero => intro k Sv F1 hk hSv bSv hfr hn_; exact absurd hn_ (Nat.not_lt_zero _)
            | succ fu ih105 =>
              intro k Sv F1 hk hSv bSv hfr hn_ H locs ls hP hD hS hl
              have hN_38 : ∀ i, i < 4 → F1 4 i = nI (Lm i) := by rw [hfr 4 (by decide)]; exact hN_12
              have hN_39 : ∀ i, i < 24 → F1 7 i = nI (Hh i) := by rw [hfr 7 (by decide)]; exact hN_13
              have hN_40 : ∀ i, i < 24 → F1 8 i = nI (Wd i) := by rw [hfr 8 (by decide)]; exact hN_14
              have hN_41 : ∀ i, i < 24 → F1 9 i = nI (Pr i) := by rw [hfr 9 (by decide)]; exact hN_15
              refine lv_iload hx hb dX5_step_105 (lv_at hl 4 rfl) ?_
              refine lv_aload_n hx hb dX5_step_107 rfl (lv_at hl 0 rfl) ?_
              refine va_get (D := (dC, dI)) (ci := 5) (v := .int (V 2)) (C := RX5) (T := TX5) (N := 33) hx hb hts hin_X5 hown hK hP 0 rfl rfl 2 (by decide) hw7 (fun _ h9 => h9) rfl dX5_step_108 ?_
              refine lv_topi (fun x_42 ex_42 => ?_)
              obtain rfl : x_42 = nI n := ex_42.trans (hV2)
              refine lv_icmp_ge (tgt := 144) hx hb dX5_step_111 (by decide) (fun c_43 => ?_) (fun c_43 => ?_)
              · have c_43 : n ≤ k := (nI_leI (a := n) (b := k) (by omega) (by omega)).mp c_43
                refine lv_aload_n hx hb dX5_step_144 rfl (lv_at hl 0 rfl) ?_
                refine lv_aload_n hx hb dX5_step_145 rfl (lv_at hl 0 rfl) ?_
                refine va_get (D := (dC, dI)) (ci := 5) (v := .int (V 3)) (C := RX5) (T := TX5) (N := 33) hx hb hts hin_X5 hown hK hP 0 rfl rfl 3 (by decide) hw3 (fun _ h9 => h9) rfl dX5_step_146 ?_
                refine lv_topi (fun x_44 ex_44 => ?_)
                obtain rfl : x_44 = nI nw := ex_44.trans (hV3)
                refine lv_iconst (v := 1) hx hb dX5_step_149 (by decide) ?_
                refine lv_iadd hx hb dX5_step_150 ?_
                refine lv_topi (fun x_45 ex_45 => ?_)
                obtain rfl : x_45 = nI (nw + 1) := ex_45.trans (nI_add nw 1)
                refine lv_bipush (v := 24) hx hb dX5_step_151 (by decide) ?_
                refine lv_irem hx hb dX5_step_153 (by decide) ?_
                refine lv_topi (fun x_46 ex_46 => ?_)
                obtain rfl : x_46 = nI ((nw + 1) % 24) := ex_46.trans (pk_rem (a := nw + 1) (d := 24) (by omega) (by omega) (by omega))
                refine va_put (D := (dC, dI)) (ci := 5) (v := .int (nI ((nw + 1) % 24))) (ty := .int) (C := RX5) (T := TX5) (N := 33) hx hb hts hin_X5 tyX5 tyX5_ok nmX5 hown hK hP hD hS 0 rfl rfl 3 (by decide) hw3 (fun _ h9 => h9) rfl (by decide +kernel) rfl rfl (Nat.le_of_ble_eq_true rfl) dX5_step_154 (fun H locs hP hD hS => ?_)
                have hP : va_P (dC, dI) vwCl (wM cI cZ cJ h F1 G (va_up (va_up (va_up (va_up (va_up V 0 0) 4 (nI ((min 200 (un + ((aimH Pa_7 (ordn Pa_7 n) Lm n) / 100))) - (7 - 2 * wm)))) 7 1) 5 ((V 5) + (nI (5 * (Pr nw))))) 3 (nI ((nw + 1) % 24)))) H := hP
                have hD : va_D A (wM cI cZ cJ h F1 G (va_up (va_up (va_up (va_up (va_up V 0 0) 4 (nI ((min 200 (un + ((aimH Pa_7 (ordn Pa_7 n) Lm n) / 100))) - (7 - 2 * wm)))) 7 1) 5 ((V 5) + (nI (5 * (Pr nw))))) 3 (nI ((nw + 1) % 24)))) := hD
                refine lv_aload_n hx hb dX5_step_157 rfl (lv_at hl 0 rfl) ?_
                refine lv_iload_n hx hb dX5_step_158 rfl (lv_at hl 3 rfl) ?_
                refine cw_Vi (As := [.int (nI (5 * (Pr nw)))]) (rest := []) (c_X5_done l dC dI cI cZ cJ h F1 G (va_up (va_up (va_up (va_up (va_up V 0 0) 4 (nI ((min 200 (un + ((aimH Pa_7 (ordn Pa_7 n) Lm n) / 100))) - (7 - 2 * wm)))) 7 1) 5 ((V 5) + (nI (5 * (Pr nw))))) 3 (nI ((nw + 1) % 24))) (nI (5 * (Pr nw)))) fx (cwV 1 hts gX5_step_X5_done rfl rfl rfl (by decide +kernel) ⟨Nat.le_of_ble_eq_true rfl, Nat.le_of_ble_eq_true rfl⟩) hK hP hD hS hA 0 rfl rfl rfl rfl hl.1 rfl (Nat.le_of_ble_eq_true rfl) dX5_step_159 ⟨Nat.le_of_ble_eq_true rfl, Nat.le_of_ble_eq_true rfl⟩ (fun r_47 u_48 H locs hw_49 hP hD hS => ?_)
                have hP : va_P (dC, dI) vwCl (wM cI cZ cJ h F1 G (va_up (va_up (va_up (va_up (va_up (va_up V 0 0) 4 (nI ((min 200 (un + ((aimH Pa_7 (ordn Pa_7 n) Lm n) / 100))) - (7 - 2 * wm)))) 7 1) 5 ((V 5) + (nI (5 * (Pr nw))))) 3 (nI ((nw + 1) % 24))) 1 0)) H := hP
                have hD : va_D A (wM cI cZ cJ h F1 G (va_up (va_up (va_up (va_up (va_up (va_up V 0 0) 4 (nI ((min 200 (un + ((aimH Pa_7 (ordn Pa_7 n) Lm n) / 100))) - (7 - 2 * wm)))) 7 1) 5 ((V 5) + (nI (5 * (Pr nw))))) 3 (nI ((nw + 1) % 24))) 1 0)) := hD
                obtain rfl : r_47 = nI (5 * (Pr nw)) := hw_49
                exact hret (nI (5 * (Pr nw))) (F1, G, va_up (va_up (va_up (va_up (va_up (va_up V 0 0) 4 (nI ((min 200 (un + ((aimH Pa_7 (ordn Pa_7 n) Lm n) / 100))) - (7 - 2 * wm)))) 7 1) 5 ((V 5) + (nI (5 * (Pr nw))))) 3 (nI ((nw + 1) % 24))) 1 0) H locs 162 ls rfl dX5_step_162 (⟨trivial, ⟨n, ((nw + 1) % 24), ((min 200 (un + ((aimH Pa_7 (ordn Pa_7 n) Lm n) / 100))) - (7 - 2 * wm)), d, 1, pf, sh, am, Sv, Lm, Hh, Wd, Pr, ⟨hV2, by omega⟩, ⟨rfl, by omega⟩, ⟨rfl, by omega⟩, ⟨hV6, by omega⟩, ⟨rfl, by omega⟩, ⟨hV10, by omega⟩, ⟨hV11, by omega⟩, ⟨hV8, by omega⟩, ⟨hSv, bSv⟩, ⟨hN_38, bLm⟩, ⟨hN_39, bHh⟩, ⟨hN_40, bWd⟩, ⟨hN_41, bPr⟩⟩⟩) (hP) (hD) hS
              · have c_43 : ¬ n ≤ k := fun h => c_43 ((nI_leI (a := n) (b := k) (by omega) (by omega)).mpr h)
                refine lv_aload_n hx hb dX5_step_114 rfl (lv_at hl 0 rfl) ?_
                refine va_get (D := (dC, dI)) (ci := 5) (v := .ref (h 3)) (C := RX5) (T := TX5) (N := 33) hx hb hts hin_X5 hown hK hP 0 rfl rfl 10 (by decide) hw8 (fun _ h9 => h9) rfl dX5_step_115 ?_
                refine lv_iload hx hb dX5_step_118 (lv_at hl 4 rfl) ?_
                refine lv_bipush (v := 90) hx hb dX5_step_120 (by decide) ?_
                refine lv_aload_n hx hb dX5_step_122 rfl (lv_at hl 0 rfl) ?_
                refine va_get (D := (dC, dI)) (ci := 5) (v := .ref (h 3)) (C := RX5) (T := TX5) (N := 33) hx hb hts hin_X5 hown hK hP 0 rfl rfl 10 (by decide) hw8 (fun _ h9 => h9) rfl dX5_step_123 ?_
                refine lv_iload hx hb dX5_step_126 (lv_at hl 4 rfl) ?_
                refine va_iald hx hb hK hP 3 0 rfl rfl (vp_in_nI (n := k) (N := 40) (by omega) (by decide)) dX5_step_128 ?_
                have hb_50 := bSv k (by omega)
                refine lv_topi (fun x_51 ex_51 => ?_)
                obtain rfl : x_51 = nI (Sv k) := ex_51.trans ((congrArg (F1 3) (nI_clamp (n := k) (by omega))).trans (hSv k (by omega)))
                refine lv_aload_n hx hb dX5_step_129 rfl (lv_at hl 0 rfl) ?_
                refine va_get (D := (dC, dI)) (ci := 5) (v := .int (V 6)) (C := RX5) (T := TX5) (N := 33) hx hb hts hin_X5 hown hK hP 0 rfl rfl 6 (by decide) hw9 (fun _ h9 => h9) rfl dX5_step_130 ?_
                refine lv_topi (fun x_52 ex_52 => ?_)
                obtain rfl : x_52 = nI d := ex_52.trans (hV6)
                refine lv_iadd hx hb dX5_step_133 ?_
                refine lv_topi (fun x_53 ex_53 => ?_)
                obtain rfl : x_53 = nI ((Sv k) + d) := ex_53.trans (nI_add (Sv k) d)
                refine va_mmin hx hb (hml.trans hl.1.symm) hown hw10 hw11 hw12 hw13 (Nat.le_of_ble_eq_true rfl) (Nat.le_of_ble_eq_true rfl) (Nat.le_of_ble_eq_true rfl) (Nat.le_of_ble_eq_true rfl) dX5_step_134 ?_
                refine lv_topi (fun x_54 ex_54 => ?_)
                obtain rfl : x_54 = nI (min 90 ((Sv k) + d)) := ex_54.trans (mm_min (a := 90) (b := (Sv k) + d) (by omega) (by omega))
                refine va_iast hx hb hK hP hD hS 3 0 rfl rfl (vp_in_nI (n := k) (N := 40) (by omega) (by decide)) dX5_step_137 (fun H locs hP hD hS => ?_)
                obtain ⟨F_55, eF_55⟩ : ∃ z : Nat → Nat → Int32, z = va_up F1 3 (upd (F1 3) (nI k).toNatClampNeg (nI (min 90 ((Sv k) + d)))) := ⟨_, rfl⟩
                have hP : va_P (dC, dI) vwCl (wM cI cZ cJ h F_55 G (va_up (va_up (va_up (va_up V 0 0) 4 (nI ((min 200 (un + ((aimH Pa_7 (ordn Pa_7 n) Lm n) / 100))) - (7 - 2 * wm)))) 7 1) 5 ((V 5) + (nI (5 * (Pr nw)))))) H := by rw [eF_55]; exact hP
                have hD : va_D A (wM cI cZ cJ h F_55 G (va_up (va_up (va_up (va_up V 0 0) 4 (nI ((min 200 (un + ((aimH Pa_7 (ordn Pa_7 n) Lm n) / 100))) - (7 - 2 * wm)))) 7 1) 5 ((V 5) + (nI (5 * (Pr nw)))))) := by rw [eF_55]; exact hD
                have hN_56 : ∀ i, i < 4 → F_55 4 i = nI (Lm i) := by rw [eF_55]; exact hN_38
                have hN_57 : ∀ i, i < 24 → F_55 7 i = nI (Hh i) := by rw [eF_55]; exact hN_39
                have hN_58 : ∀ i, i < 24 → F_55 8 i = nI (Wd i) := by rw [eF_55]; exact hN_40
                have hN_59 : ∀ i, i < 24 → F_55 9 i = nI (Pr i) := by rw [eF_55]; exact hN_41
                obtain ⟨S_60, eS_60⟩ : ∃ z : Nat → Nat, z = nup Sv k (min 90 ((Sv k) + d)) := ⟨_, rfl⟩
                have hN_61 : ∀ i, i < 40 → F_55 3 i = nI (S_60 i) := by rw [eF_55, eS_60]; show ∀ i, i < 40 → upd (F1 3) (nI k).toNatClampNeg (nI (min 90 ((Sv k) + d))) i = nI _; exact nf_put hSv (nI_clamp (n := k) (by omega))
                have bN_62 : ∀ i, i < 40 → S_60 i ≤ 90 := by rw [eS_60]; exact nb_put bSv (by omega)
                refine lv_iinc (v := nI (k + 1)) (lv' := [(4, .int (nI (k + 1))), (0, .ref (h 0)), (1, .int 1), (2, .int (nI (min 200 (un + ((aimH Pa_7 (ordn Pa_7 n) Lm n) / 100))))), (3, .int (nI (5 * (Pr nw))))]) hx hb dX5_step_138 hl (k := 4) rfl (nI_1 _) (by decide) rfl (fun ls hl => ?_)
                refine lv_goto (tgt := 105) hx hb dX5_step_141 (by decide) ?_
                exact ih105 (k + 1) S_60 F_55 (by omega) hN_61 bN_62 (fun j hj => ((va_ne eF_55 (fun h => hj (by rw [h]; decide))).trans (hfr j hj))) (by omega) H locs ls hP hD hS (lv_sub hl [1, 2, 3, 4, 0] rfl)
          exact loop105 _ 0 So F_6 (by omega) hN_11 bSo (fun _ _ => rfl) (Nat.lt_succ_self _) H locs ls hP hD hS (lv_sub hl [3, 4, 2, 1, 0] rfl)
    · have c_26 : ¬ (7 - 2 * wm) ≤ (min 200 (un + ((aimH Pa_7 (ordn Pa_7 n) Lm n) / 100))) := fun h => c_26 ((nI_leI (a := 7 - 2 * wm) (b := min 200 (un + ((aimH Pa_7 (ordn Pa_7 n) Lm n) / 100))) (by omega) (by omega)).mpr h)
      refine lv_aload_n hx hb dX5_step_40 rfl (lv_at hl 1 rfl) ?_
      refine lv_iconst (v := 2) hx hb dX5_step_41 (by decide) ?_
      refine cw_Vi (As := [.int 2]) (rest := []) (c_X5_refused l dC dI cI cZ cJ h F_6 G (va_up V 0 0) 2) fx (cwV 1 hts gX5_step_X5_refused rfl rfl rfl (by decide +kernel) ⟨Nat.le_of_ble_eq_true rfl, Nat.le_of_ble_eq_true rfl⟩) hK hP hD hS hA 0 rfl rfl rfl rfl hl.1 rfl (Nat.le_of_ble_eq_true rfl) dX5_step_42 ⟨Nat.le_of_ble_eq_true rfl, Nat.le_of_ble_eq_true rfl⟩ (fun r_63 u_64 H locs hw_65 hP hD hS => ?_)
      have hP : va_P (dC, dI) vwCl (wM cI cZ cJ h F_6 G (va_up (va_up V 0 0) 1 2)) H := hP
      have hD : va_D A (wM cI cZ cJ h F_6 G (va_up (va_up V 0 0) 1 2)) := hD
      obtain rfl : r_63 = (-1) := hw_65
      exact hret (-1) (F_6, G, va_up (va_up V 0 0) 1 2) H locs 45 ls rfl dX5_step_45 (⟨trivial, ⟨n, nw, un, d, wm, pf, sh, am, So, Lm, Hh, Wd, Pr, ⟨hV2, by omega⟩, ⟨hV3, by omega⟩, ⟨hV4, by omega⟩, ⟨hV6, by omega⟩, ⟨hV7, by omega⟩, ⟨hV10, by omega⟩, ⟨hV11, by omega⟩, ⟨hV8, by omega⟩, ⟨hN_11, bSo⟩, ⟨hN_12, bLm⟩, ⟨hN_13, bHh⟩, ⟨hN_14, bWd⟩, ⟨hN_15, bPr⟩⟩⟩) (hP) (hD) hS
