theorem isW_from {v : Int32} {w : Nat} (hw : w ≤ 24) (h : isW v (nI w) 23 = true) : ∃ k : Nat, (w ≤ k ∧ k ≤ 23) ∧ v = nI k := by
  simp only [isW, ltI, Bool.and_eq_true, Bool.not_eq_true', decide_eq_false_iff_not] at h
  have h0 : ¬ v < 0 := fun q => h.1 (Int32.lt_of_lt_of_le q (nI_pos' (by omega)))
  obtain ⟨j, hj, e⟩ := nI_of h0
  refine ⟨j, ?_, e⟩
  have q1 := h.1
  have q2 := h.2
  rw [e] at q1 q2
  have a := (nI_leI (a := w) (b := j) (by omega) hj).mp (Int32.not_lt.mp q1)
  have b := (nI_leI (a := j) (b := 23) hj (by omega)).mp (Int32.not_lt.mp q2)
  exact ⟨a, b⟩
def rm_X5_runs : Room := { frames := 1, cells := 0, slots := 0, locals := 22 }
set_option maxHeartbeats 4000000 in
set_option maxRecDepth 100000 in
theorem c_X5_runs (l : Launch) (dC : Nat → ClassId) (dI : Nat → Nat → Nat) (cI cZ cJ : ClassId) (h : Nat → Nat) (F : Nat → Nat → Int32) (G : Nat → Int64) (V : Nat → Int32) (n : Nat) (hV2 : V 2 = nI n) (bV2 : n ≤ 40) (nw : Nat) (hV3 : V 3 = nI nw) (bV3 : nw ≤ 23) (un : Nat) (hV4 : V 4 = nI un) (bV4 : un ≤ 200) (d : Nat) (hV6 : V 6 = nI d) (bV6 : d ≤ 20) (wm : Nat) (hV7 : V 7 = nI wm) (bV7 : wm ≤ 1) (pf : Nat) (hV10 : V 10 = nI pf) (bV10 : pf ≤ 24) (sh : Nat) (hV11 : V 11 = nI sh) (bV11 : sh ≤ 12) (So : Nat → Nat) (hSo : ∀ i, i < 40 → F 3 i = nI (So i)) (bSo : ∀ i, i < 40 → So i ≤ 90) (Lm : Nat → Nat) (hLm : ∀ i, i < 4 → F 4 i = nI (Lm i)) (bLm : ∀ i, i < 4 → Lm i ≤ 10000) (Hh : Nat → Nat) (hHh : ∀ i, i < 24 → F 7 i = nI (Hh i)) (bHh : ∀ i, i < 24 → Hh i ≤ 9) (Wd : Nat → Nat) (hWd : ∀ i, i < 24 → F 8 i = nI (Wd i)) (bWd : ∀ i, i < 24 → Wd i ≤ 99) (Pr : Nat → Nat) (hPr : ∀ i, i < 24 → F 9 i = nI (Pr i)) (bPr : ∀ i, i < 24 → Pr i ≤ 999) (X : Nat → Nat) (hX : ∀ i, i < n → F 1 i = nI (X i)) (bX : ∀ i, i < n → X i ≤ 14) (Y : Nat → Nat) (hY : ∀ i, i < n → F 2 i = nI (Y i)) (bY : ∀ i, i < n → Y i ≤ 14) (p0 : Int32)  (ks am : Nat) (hV8 : V 8 = nI am - 1) (bam : am ≤ 41) (hks : am - 1 = ks) (SX SY Kc Kp : Nat → Int32) (er : Int32) (rb : Nat → Bool) (hGP : GP n X Y) (hSX : ∀ i, i < 24 → F 5 i = SX i) (hSY : ∀ i, i < 24 → F 6 i = SY i) (hKc : ∀ i, i < ks → F 13 i = Kc i) (hKp : ∀ i, i < 4 → F 15 i = Kp i) (hE : V 5 = er) (hRB : ∀ t, pf ≤ t → t < 24 → F 17 t = bI (rb t)) : CtI l (dC, dI) vwCl (tys3 cI cZ cJ) yX5_runs wsX5_runs rm_X5_runs [.ref (h 0), .int p0] (wM cI cZ cJ h F G V) (S := (Nat → Nat → Int32) × (Nat → Int64) × (Nat → Int32)) (fun r u => (r = (bif isW p0 (nI pf) 23 then bI (rb p0.toNatClampNeg) else (-1))) ∧ VM n d ks nw un wm pf So Hh Wd Lm Pr X Y SX SY Kc Kp er rb u.1 u.2.2) (fun u => wM cI cZ cJ h u.1 u.2.1 u.2.2) 0 0 := by
  refine ct_I (cc := cX5_runs) (maxL := 2) (ty := .int) (own := RX5) (by decide) rfl rfl (Nat.le_of_ble_eq_true rfl) (lv := [(0, .ref (h 0)), (1, .int p0)]) rfl ?_
  intro p e s m args below meth c A Q ls fx hK hP hD hA hl hret
  obtain ⟨hx, hb, hml, hown, hts⟩ := id fx
  have hS : va_S A s.heap s.heap [] := va_S.rf
  have hw0 := hts (.fieldLink RX5 1 "MirrorTowerModel" "thrown" "I") (by decide +kernel)
  have hin_X5 : ∀ w ∈ u_ws RX5 TX5 33, w ∈ wsX5_runs := by decide +kernel
  have hw2 := hts (.fieldLink RX5 75 "MirrorTowerModel" "planFrom" "I") (by decide +kernel)
  have hw3 := hts (.fieldLink RX5 71 "MirrorTowerModel" "isRun" "[Z") (by decide +kernel)
  obtain ⟨H, hH⟩ : ∃ H, H = s.heap := ⟨_, rfl⟩
  rw [← hH] at hP ⊢
  have hS : va_S A s.heap H [] := by rw [hH]; exact hS
  generalize ([] : List Loc) = locs at hS ⊢
  refine lv_aload_n hx hb dX5_runs_0 rfl (lv_at hl 0 rfl) ?_
  refine lv_iconst (v := 0) hx hb dX5_runs_1 (by decide) ?_
  refine va_put (D := (dC, dI)) (ci := 5) (v := .int 0) (ty := .int) (C := RX5) (T := TX5) (N := 33) hx hb hts hin_X5 tyX5 tyX5_ok nmX5 hown hK hP hD hS 0 rfl rfl 0 (by decide) hw0 (fun _ h9 => h9) rfl (by decide +kernel) rfl rfl (Nat.le_of_ble_eq_true rfl) dX5_runs_2 (fun H locs hP hD hS => ?_)
  have hP : va_P (dC, dI) vwCl (wM cI cZ cJ h F G (va_up V 0 0)) H := hP
  have hD : va_D A (wM cI cZ cJ h F G (va_up V 0 0)) := hD
  refine lv_iload_n hx hb dX5_runs_5 rfl (lv_at hl 1 rfl) ?_
  refine lv_aload_n hx hb dX5_runs_6 rfl (lv_at hl 0 rfl) ?_
  refine va_get (D := (dC, dI)) (ci := 5) (v := .int (V 10)) (C := RX5) (T := TX5) (N := 33) hx hb hts hin_X5 hown hK hP 0 rfl rfl 27 (by decide) hw2 (fun _ h9 => h9) rfl dX5_runs_7 ?_
  refine lv_topi (fun x_1 ex_1 => ?_)
  obtain rfl : x_1 = nI pf := ex_1.trans (hV10)
  refine lv_bipush (v := 23) hx hb dX5_runs_10 (by decide) ?_
  refine cw_Si (As := [.int p0, .int (nI pf), .int 23]) (rest := []) (c_X5_in l dC dI cI cZ cJ (wM cI cZ cJ h F G (va_up V 0 0)) p0 (nI pf) 23) fx (va_cwS 3 hts gX5_runs_X5_in rfl rfl rfl (by decide +kernel) ⟨Nat.le_of_ble_eq_true rfl, Nat.le_of_ble_eq_true rfl⟩) hK hP hD hS hA rfl hl.1 rfl (Nat.le_of_ble_eq_true rfl) dX5_runs_12 ⟨Nat.le_of_ble_eq_true rfl, Nat.le_of_ble_eq_true rfl⟩ (fun r_2 u_3 H locs hw_4 hP hD hS => ?_)
  have hP : va_P (dC, dI) vwCl (wM cI cZ cJ h F G (va_up V 0 0)) H := hP
  have hD : va_D A (wM cI cZ cJ h F G (va_up V 0 0)) := hD
  have hw_4 : r_2 = bI (isW p0 (nI pf) 23) := hw_4
  refine lv_if_eq (tgt := 35) hx hb dX5_runs_15 (by decide) (fun c_5 => ?_) (fun c_5 => ?_)
  · have c_5 : isW p0 (nI pf) 23 = false := bI_f hw_4 c_5
    refine lv_iconst (v := (-1)) hx hb dX5_runs_35 (by decide) ?_
    exact hret (-1) (F, G, va_up V 0 0) H locs 36 ls rfl dX5_runs_36 (by
                  have hc_ : isW p0 (nI pf) 23 = false := by simp [c_5]
                  refine ⟨?_, ?_⟩
                  · (try simp only [hc_, cond_true, cond_false])
                    first | done | exact rfl
                  · (try simp only [hc_, cond_true, cond_false])
                    exact ⟨⟨hV2, by omega⟩, ⟨hV3, by omega⟩, ⟨hV4, by omega⟩, ⟨hV6, by omega⟩, ⟨hV7, by omega⟩, ⟨hV10, by omega⟩, ⟨sh, hV11, by omega⟩, ⟨hSo, bSo⟩, ⟨hLm, bLm⟩, ⟨hHh, bHh⟩, ⟨hWd, bWd⟩, ⟨hPr, bPr⟩, ⟨hX, bX⟩, ⟨hY, bY⟩, ⟨am, hV8, by omega, by omega⟩, hGP, (fun i hi => (congrFun (Eq.refl (F 5)) i).trans (hSX i hi)), (fun i hi => (congrFun (Eq.refl (F 6)) i).trans (hSY i hi)), (fun i hi => (congrFun (Eq.refl (F 13)) i).trans (hKc i hi)), (fun i hi => (congrFun (Eq.refl (F 15)) i).trans (hKp i hi)), ((show (va_up V 0 0) 5 = V 5 from rfl)).trans hE, (fun t h1 h2 => (congrFun (Eq.refl (F 17)) t).trans (hRB t h1 h2))⟩) (hP) (hD) hS
  · have c_5 : isW p0 (nI pf) 23 = true := bI_t hw_4 c_5
    refine lv_aload_n hx hb dX5_runs_18 rfl (lv_at hl 0 rfl) ?_
    refine va_get (D := (dC, dI)) (ci := 5) (v := .ref (h 17)) (C := RX5) (T := TX5) (N := 33) hx hb hts hin_X5 hown hK hP 0 rfl rfl 26 (by decide) hw3 (fun _ h9 => h9) rfl dX5_runs_19 ?_
    refine lv_iload_n hx hb dX5_runs_22 rfl (lv_at hl 1 rfl) ?_
    obtain ⟨k0, hk0, rfl⟩ := isW_from bV10 c_5
    refine va_zald hx hb hK hP 17 1 rfl rfl (vp_in_nI (n := k0) (N := 24) (by omega) (by decide)) dX5_runs_23 ?_
    refine lv_topi (fun x_6 ex_6 => ?_)
    rw [nI_clamp (n := k0) (by omega)] at ex_6
    refine lv_if_eq (tgt := 31) hx hb dX5_runs_24 (by decide) (fun c_7 => ?_) (fun c_7 => ?_)
    · have c_7 : eqI x_6 0 = true := decide_eq_true c_7
      refine lv_iconst (v := 0) hx hb dX5_runs_31 (by decide) ?_
      refine lv_goto (tgt := 36) hx hb dX5_runs_32 (by decide) ?_
      exact hret 0 (F, G, va_up V 0 0) H locs 36 ls rfl dX5_runs_36 (by
                    have hc_ : isW (nI k0) (nI pf) 23 = true := by simp [c_5, c_7]
                    refine ⟨?_, ?_⟩
                    · (try simp only [hc_, cond_true, cond_false, nI_clamp (show k0 < 2 ^ 31 by omega)])
                      first | done | exact (runs_0 (ex_6.trans (hRB k0 (by omega) (by omega))) c_7).symm
                    · (try simp only [hc_, cond_true, cond_false, nI_clamp (show k0 < 2 ^ 31 by omega)])
                      exact ⟨⟨hV2, by omega⟩, ⟨hV3, by omega⟩, ⟨hV4, by omega⟩, ⟨hV6, by omega⟩, ⟨hV7, by omega⟩, ⟨hV10, by omega⟩, ⟨sh, hV11, by omega⟩, ⟨hSo, bSo⟩, ⟨hLm, bLm⟩, ⟨hHh, bHh⟩, ⟨hWd, bWd⟩, ⟨hPr, bPr⟩, ⟨hX, bX⟩, ⟨hY, bY⟩, ⟨am, hV8, by omega, by omega⟩, hGP, (fun i hi => (congrFun (Eq.refl (F 5)) i).trans (hSX i hi)), (fun i hi => (congrFun (Eq.refl (F 6)) i).trans (hSY i hi)), (fun i hi => (congrFun (Eq.refl (F 13)) i).trans (hKc i hi)), (fun i hi => (congrFun (Eq.refl (F 15)) i).trans (hKp i hi)), ((show (va_up V 0 0) 5 = V 5 from rfl)).trans hE, (fun t h1 h2 => (congrFun (Eq.refl (F 17)) t).trans (hRB t h1 h2))⟩) (hP) (hD) hS
    · have c_7 : eqI x_6 0 = false := decide_eq_false c_7
      refine lv_iconst (v := 1) hx hb dX5_runs_27 (by decide) ?_
      refine lv_goto (tgt := 36) hx hb dX5_runs_28 (by decide) ?_
      exact hret 1 (F, G, va_up V 0 0) H locs 36 ls rfl dX5_runs_36 (by
                    have hc_ : isW (nI k0) (nI pf) 23 = true := by simp [c_5, c_7]
                    refine ⟨?_, ?_⟩
                    · (try simp only [hc_, cond_true, cond_false, nI_clamp (show k0 < 2 ^ 31 by omega)])
                      first | done | exact (runs_1 (ex_6.trans (hRB k0 (by omega) (by omega))) c_7).symm
                    · (try simp only [hc_, cond_true, cond_false, nI_clamp (show k0 < 2 ^ 31 by omega)])
                      exact ⟨⟨hV2, by omega⟩, ⟨hV3, by omega⟩, ⟨hV4, by omega⟩, ⟨hV6, by omega⟩, ⟨hV7, by omega⟩, ⟨hV10, by omega⟩, ⟨sh, hV11, by omega⟩, ⟨hSo, bSo⟩, ⟨hLm, bLm⟩, ⟨hHh, bHh⟩, ⟨hWd, bWd⟩, ⟨hPr, bPr⟩, ⟨hX, bX⟩, ⟨hY, bY⟩, ⟨am, hV8, by omega, by omega⟩, hGP, (fun i hi => (congrFun (Eq.refl (F 5)) i).trans (hSX i hi)), (fun i hi => (congrFun (Eq.refl (F 6)) i).trans (hSY i hi)), (fun i hi => (congrFun (Eq.refl (F 13)) i).trans (hKc i hi)), (fun i hi => (congrFun (Eq.refl (F 15)) i).trans (hKp i hi)), ((show (va_up V 0 0) 5 = V 5 from rfl)).trans hE, (fun t h1 h2 => (congrFun (Eq.refl (F 17)) t).trans (hRB t h1 h2))⟩) (hP) (hD) hS
def rm_X5_best : Room := { frames := 9, cells := 0, slots := 0, locals := 206 }
set_option maxHeartbeats 4000000 in
set_option maxRecDepth 100000 in
theorem c_X5_best (l : Launch) (dC : Nat → ClassId) (dI : Nat → Nat → Nat) (cI cZ cJ : ClassId) (h : Nat → Nat) (F : Nat → Nat → Int32) (G : Nat → Int64) (V : Nat → Int32) (n : Nat) (hV2 : V 2 = nI n) (bV2 : n ≤ 40) (nw : Nat) (hV3 : V 3 = nI nw) (bV3 : nw ≤ 23) (un : Nat) (hV4 : V 4 = nI un) (bV4 : un ≤ 200) (d : Nat) (hV6 : V 6 = nI d) (bV6 : d ≤ 20) (wm : Nat) (hV7 : V 7 = nI wm) (bV7 : wm ≤ 1) (pf : Nat) (hV10 : V 10 = nI pf) (bV10 : pf ≤ 24) (sh : Nat) (hV11 : V 11 = nI sh) (bV11 : sh ≤ 12) (So : Nat → Nat) (hSo : ∀ i, i < 40 → F 3 i = nI (So i)) (bSo : ∀ i, i < 40 → So i ≤ 90) (Lm : Nat → Nat) (hLm : ∀ i, i < 4 → F 4 i = nI (Lm i)) (bLm : ∀ i, i < 4 → Lm i ≤ 10000) (Hh : Nat → Nat) (hHh : ∀ i, i < 24 → F 7 i = nI (Hh i)) (bHh : ∀ i, i < 24 → Hh i ≤ 9) (Wd : Nat → Nat) (hWd : ∀ i, i < 24 → F 8 i = nI (Wd i)) (bWd : ∀ i, i < 24 → Wd i ≤ 99) (Pr : Nat → Nat) (hPr : ∀ i, i < 24 → F 9 i = nI (Pr i)) (bPr : ∀ i, i < 24 → Pr i ≤ 999) (X : Nat → Nat) (hX : ∀ i, i < n → F 1 i = nI (X i)) (bX : ∀ i, i < n → X i ≤ 14) (Y : Nat → Nat) (hY : ∀ i, i < n → F 2 i = nI (Y i)) (bY : ∀ i, i < n → Y i ≤ 14) (p0 : Int32)  (ks am : Nat) (hV8 : V 8 = nI am - 1) (bam : am ≤ 41) (hks : am - 1 = ks) (SX SY Kc Kp : Nat → Int32) (er : Int32) (rb : Nat → Bool) (hGP : GP n X Y) (hSX : ∀ i, i < 24 → F 5 i = SX i) (hSY : ∀ i, i < 24 → F 6 i = SY i) (hKc : ∀ i, i < ks → F 13 i = Kc i) (hKp : ∀ i, i < 4 → F 15 i = Kp i) (hE : V 5 = er) (hRB : ∀ t, pf ≤ t → t < 24 → F 17 t = bI (rb t)) : CtI l (dC, dI) vwCl (tys3 cI cZ cJ) yX5_best wsX5_best rm_X5_best [.ref (h 0), .int p0] (wM cI cZ cJ h F G V) (S := (Nat → Nat → Int32) × (Nat → Int64) × (Nat → Int32)) (fun r u => (True) ∧ VM n d ks nw un wm pf So Hh Wd Lm Pr X Y SX SY Kc Kp er rb u.1 u.2.2) (fun u => wM cI cZ cJ h u.1 u.2.1 u.2.2) 0 0 := by
  refine ct_I (cc := cX5_best) (maxL := 3) (ty := .int) (own := RX5) (by decide) rfl rfl (Nat.le_of_ble_eq_true rfl) (lv := [(0, .ref (h 0)), (1, .int p0)]) rfl ?_
  intro p e s m args below meth c A Q ls fx hK hP hD hA hl hret
  obtain ⟨hx, hb, hml, hown, hts⟩ := id fx
  have hS : va_S A s.heap s.heap [] := va_S.rf
  have hw0 := hts (.fieldLink RX5 1 "MirrorTowerModel" "thrown" "I") (by decide +kernel)
  have hin_X5 : ∀ w ∈ u_ws RX5 TX5 33, w ∈ wsX5_best := by decide +kernel
  have hw2 := hts (.fieldLink RX5 53 "MirrorTowerModel" "left" "[I") (by decide +kernel)
  have hw3 := hts (.fieldLink RX5 29 "MirrorTowerModel" "limit" "[I") (by decide +kernel)
  have hw4 := hts (.fieldLink RX5 148 "MirrorTowerModel" "most" "I") (by decide +kernel)
  obtain ⟨H, hH⟩ : ∃ H, H = s.heap := ⟨_, rfl⟩
  rw [← hH] at hP ⊢
  have hS : va_S A s.heap H [] := by rw [hH]; exact hS
  generalize ([] : List Loc) = locs at hS ⊢
  refine lv_aload_n hx hb dX5_best_0 rfl (lv_at hl 0 rfl) ?_
  refine lv_iconst (v := 0) hx hb dX5_best_1 (by decide) ?_
  refine va_put (D := (dC, dI)) (ci := 5) (v := .int 0) (ty := .int) (C := RX5) (T := TX5) (N := 33) hx hb hts hin_X5 tyX5 tyX5_ok nmX5 hown hK hP hD hS 0 rfl rfl 0 (by decide) hw0 (fun _ h9 => h9) rfl (by decide +kernel) rfl rfl (Nat.le_of_ble_eq_true rfl) dX5_best_2 (fun H locs hP hD hS => ?_)
  have hP : va_P (dC, dI) vwCl (wM cI cZ cJ h F G (va_up V 0 0)) H := hP
  have hD : va_D A (wM cI cZ cJ h F G (va_up V 0 0)) := hD
  refine lv_iload_n hx hb dX5_best_5 rfl (lv_at hl 1 rfl) ?_
  refine cw_Si (As := [.int p0]) (rest := []) (c_X5_isHour l dC dI cI cZ cJ (wM cI cZ cJ h F G (va_up V 0 0)) p0) fx (va_cwS 1 hts gX5_best_X5_isHour rfl rfl rfl (by decide +kernel) ⟨Nat.le_of_ble_eq_true rfl, Nat.le_of_ble_eq_true rfl⟩) hK hP hD hS hA rfl hl.1 rfl (Nat.le_of_ble_eq_true rfl) dX5_best_6 ⟨Nat.le_of_ble_eq_true rfl, Nat.le_of_ble_eq_true rfl⟩ (fun r_1 u_2 H locs hw_3 hP hD hS => ?_)
  have hP : va_P (dC, dI) vwCl (wM cI cZ cJ h F G (va_up V 0 0)) H := hP
  have hD : va_D A (wM cI cZ cJ h F G (va_up V 0 0)) := hD
  have hw_3 : r_1 = bI (isW p0 0 23) := hw_3
  refine lv_if_ne (tgt := 18) hx hb dX5_best_9 (by decide) (fun c_4 => ?_) (fun c_4 => ?_)
  · have c_4 : isW p0 0 23 = true := bI_t hw_3 c_4
    refine lv_aload_n hx hb dX5_best_18 rfl (lv_at hl 0 rfl) ?_
    refine lv_iload_n hx hb dX5_best_19 rfl (lv_at hl 1 rfl) ?_
    refine lv_iconst (v := 0) hx hb dX5_best_20 (by decide) ?_
    obtain ⟨k0, hk0, rfl⟩ := isW_nat (M := 23) (n := 23) (by decide) c_4
    refine cw_Vv (As := [.int (nI k0), .int 0]) (rest := []) (c_X5_orders l dC dI cI cZ cJ h F G (va_up V 0 0) n hV2 (by omega) So hSo bSo Hh hHh bHh Wd hWd bWd X hX bX Y hY bY k0 0 (by omega) (by omega) SX SY (fun i hi => (congrFun (Eq.refl (F 5)) i).trans (hSX i hi)) (fun i hi => (congrFun (Eq.refl (F 6)) i).trans (hSY i hi)) hGP) fx (cwV 2 hts gX5_best_X5_orders rfl rfl rfl (by decide +kernel) ⟨Nat.le_of_ble_eq_true rfl, Nat.le_of_ble_eq_true rfl⟩) hK hP hD hS hA 0 rfl rfl rfl rfl hl.1 rfl (Nat.le_of_ble_eq_true rfl) dX5_best_21 ⟨Nat.le_of_ble_eq_true rfl, Nat.le_of_ble_eq_true rfl⟩ (fun u_6 H locs hw_7 hP hD hS => ?_)
    obtain ⟨F_8, rfl⟩ : ∃ z, z = u_6 := ⟨_, rfl⟩
    have hf_9 : ∀ j, j ∉ ([10, 11] : List Nat) → F_8 j = F j := hw_7.1
    have hP : va_P (dC, dI) vwCl (wM cI cZ cJ h F_8 G (va_up V 0 0)) H := hP
    have hD : va_D A (wM cI cZ cJ h F_8 G (va_up V 0 0)) := hD
    have hN_10 : ∀ i, i < 40 → F_8 3 i = nI (So i) := by rw [hf_9 3 (by decide)]; exact hSo
    have hN_11 : ∀ i, i < 4 → F_8 4 i = nI (Lm i) := by rw [hf_9 4 (by decide)]; exact hLm
    have hN_12 : ∀ i, i < 24 → F_8 7 i = nI (Hh i) := by rw [hf_9 7 (by decide)]; exact hHh
    have hN_13 : ∀ i, i < 24 → F_8 8 i = nI (Wd i) := by rw [hf_9 8 (by decide)]; exact hWd
    have hN_14 : ∀ i, i < 24 → F_8 9 i = nI (Pr i) := by rw [hf_9 9 (by decide)]; exact hPr
    have hN_15 : ∀ i, i < n → F_8 1 i = nI (X i) := by rw [hf_9 1 (by decide)]; exact hX
    have hN_16 : ∀ i, i < n → F_8 2 i = nI (Y i) := by rw [hf_9 2 (by decide)]; exact hY
    obtain ⟨Pq_17, ePq_17⟩ : ∃ z : Nat → Nat, z = pwA X Y n SX SY Hh So Wd k0 0 := ⟨_, rfl⟩
    obtain ⟨Oq_21, eOq_21⟩ : ∃ z : Nat → Nat, z = ordn Pq_17 n := ⟨_, rfl⟩
    have hN_18 : ∀ i, i < n → F_8 11 i = nI (Pq_17 i) := by rw [ePq_17]; exact (hw_7.2).1
    have bN_19 : ∀ i, i < n → Pq_17 i ≤ 100 := fun i _ => by rw [ePq_17]; exact pwA_le (bHh k0 (by omega))
    have hN_20 : ∀ i, i < n → F_8 10 i = nI (Oq_21 i) := by rw [eOq_21, ePq_17]; exact (hw_7.2).2
    have bN_22 : ∀ i, i < n → Oq_21 i ≤ n - 1 := by rw [eOq_21]; exact fun i hi => by have := ordn_lt Pq_17 n i hi; omega
    refine lv_iconst (v := 0) hx hb dX5_best_24 (by decide) ?_
    refine lv_istore_n (lv' := [(2, .int 0), (0, .ref (h 0)), (1, .int (nI k0))]) hx hb dX5_best_25 rfl hl (by decide) rfl (fun ls hl => ?_)
    refine lv_iload_n hx hb dX5_best_26 rfl (lv_at hl 0 rfl) ?_
    refine lv_iconst (v := 4) hx hb dX5_best_27 (by decide) ?_
    refine lv_icmp_ge (tgt := 49) hx hb dX5_best_28 (by decide) (fun c_23 => ?_) (fun c_23 => ?_)
    · exact absurd c_23 (by decide)
    · refine lv_aload_n hx hb dX5_best_31 rfl (lv_at hl 1 rfl) ?_
      refine va_get (D := (dC, dI)) (ci := 5) (v := .ref (h 12)) (C := RX5) (T := TX5) (N := 33) hx hb hts hin_X5 hown hK hP 0 rfl rfl 19 (by decide) hw2 (fun _ h9 => h9) rfl dX5_best_32 ?_
      refine lv_iload_n hx hb dX5_best_35 rfl (lv_at hl 0 rfl) ?_
      refine lv_aload_n hx hb dX5_best_36 rfl (lv_at hl 1 rfl) ?_
      refine va_get (D := (dC, dI)) (ci := 5) (v := .ref (h 4)) (C := RX5) (T := TX5) (N := 33) hx hb hts hin_X5 hown hK hP 0 rfl rfl 11 (by decide) hw3 (fun _ h9 => h9) rfl dX5_best_37 ?_
      refine lv_iload_n hx hb dX5_best_40 rfl (lv_at hl 0 rfl) ?_
      refine va_iald hx hb hK hP 4 0 rfl rfl (vp_in_nI (n := 0) (N := 4) (by decide) (by decide)) dX5_best_41 ?_
      have hb_24 := bLm 0 (by omega)
      refine lv_topi (fun x_25 ex_25 => ?_)
      obtain rfl : x_25 = nI (Lm 0) := ex_25.trans ((congrArg (F_8 4) (by decide : (0 : Int32).toNatClampNeg = 0)).trans (hN_11 0 (by omega)))
      refine va_iast hx hb hK hP hD hS 12 0 rfl rfl (vp_in_nI (n := 0) (N := 4) (by decide) (by decide)) dX5_best_42 (fun H locs hP hD hS => ?_)
      obtain ⟨F_26, eF_26⟩ : ∃ z : Nat → Nat → Int32, z = va_up F_8 12 (upd (F_8 12) (0 : Int32).toNatClampNeg (nI (Lm 0))) := ⟨_, rfl⟩
      have hP : va_P (dC, dI) vwCl (wM cI cZ cJ h F_26 G (va_up V 0 0)) H := by rw [eF_26]; exact hP
      have hD : va_D A (wM cI cZ cJ h F_26 G (va_up V 0 0)) := by rw [eF_26]; exact hD
      have hN_27 : ∀ i, i < 40 → F_26 3 i = nI (So i) := by rw [eF_26]; exact hN_10
      have hN_28 : ∀ i, i < 4 → F_26 4 i = nI (Lm i) := by rw [eF_26]; exact hN_11
      have hN_29 : ∀ i, i < 24 → F_26 7 i = nI (Hh i) := by rw [eF_26]; exact hN_12
      have hN_30 : ∀ i, i < 24 → F_26 8 i = nI (Wd i) := by rw [eF_26]; exact hN_13
      have hN_31 : ∀ i, i < 24 → F_26 9 i = nI (Pr i) := by rw [eF_26]; exact hN_14
      have hN_32 : ∀ i, i < n → F_26 1 i = nI (X i) := by rw [eF_26]; exact hN_15
      have hN_33 : ∀ i, i < n → F_26 2 i = nI (Y i) := by rw [eF_26]; exact hN_16
      have hN_34 : ∀ i, i < n → F_26 11 i = nI (Pq_17 i) := by rw [eF_26]; exact hN_18
      have hN_35 : ∀ i, i < n → F_26 10 i = nI (Oq_21 i) := by rw [eF_26]; exact hN_20
      refine lv_iinc (v := 1) (lv' := [(2, .int 1), (0, .ref (h 0)), (1, .int (nI k0))]) hx hb dX5_best_43 hl (k := 0) rfl (by decide) (by decide) rfl (fun ls hl => ?_)
      refine lv_goto (tgt := 26) hx hb dX5_best_46 (by decide) ?_
      refine lv_iload_n hx hb dX5_best_26 rfl (lv_at hl 0 rfl) ?_
      refine lv_iconst (v := 4) hx hb dX5_best_27 (by decide) ?_
      refine lv_icmp_ge (tgt := 49) hx hb dX5_best_28 (by decide) (fun c_36 => ?_) (fun c_36 => ?_)
      · exact absurd c_36 (by decide)
      · refine lv_aload_n hx hb dX5_best_31 rfl (lv_at hl 1 rfl) ?_
        refine va_get (D := (dC, dI)) (ci := 5) (v := .ref (h 12)) (C := RX5) (T := TX5) (N := 33) hx hb hts hin_X5 hown hK hP 0 rfl rfl 19 (by decide) hw2 (fun _ h9 => h9) rfl dX5_best_32 ?_
        refine lv_iload_n hx hb dX5_best_35 rfl (lv_at hl 0 rfl) ?_
        refine lv_aload_n hx hb dX5_best_36 rfl (lv_at hl 1 rfl) ?_
        refine va_get (D := (dC, dI)) (ci := 5) (v := .ref (h 4)) (C := RX5) (T := TX5) (N := 33) hx hb hts hin_X5 hown hK hP 0 rfl rfl 11 (by decide) hw3 (fun _ h9 => h9) rfl dX5_best_37 ?_
        refine lv_iload_n hx hb dX5_best_40 rfl (lv_at hl 0 rfl) ?_
        refine va_iald hx hb hK hP 4 0 rfl rfl (vp_in_nI (n := 1) (N := 4) (by decide) (by decide)) dX5_best_41 ?_
        have hb_37 := bLm 1 (by omega)
        refine lv_topi (fun x_38 ex_38 => ?_)
        obtain rfl : x_38 = nI (Lm 1) := ex_38.trans ((congrArg (F_26 4) (by decide : (1 : Int32).toNatClampNeg = 1)).trans (hN_28 1 (by omega)))
        refine va_iast hx hb hK hP hD hS 12 0 rfl rfl (vp_in_nI (n := 1) (N := 4) (by decide) (by decide)) dX5_best_42 (fun H locs hP hD hS => ?_)
        obtain ⟨F_39, eF_39⟩ : ∃ z : Nat → Nat → Int32, z = va_up F_26 12 (upd (F_26 12) (1 : Int32).toNatClampNeg (nI (Lm 1))) := ⟨_, rfl⟩
        have hP : va_P (dC, dI) vwCl (wM cI cZ cJ h F_39 G (va_up V 0 0)) H := by rw [eF_39]; exact hP
        have hD : va_D A (wM cI cZ cJ h F_39 G (va_up V 0 0)) := by rw [eF_39]; exact hD
        have hN_40 : ∀ i, i < 40 → F_39 3 i = nI (So i) := by rw [eF_39]; exact hN_27
        have hN_41 : ∀ i, i < 4 → F_39 4 i = nI (Lm i) := by rw [eF_39]; exact hN_28
        have hN_42 : ∀ i, i < 24 → F_39 7 i = nI (Hh i) := by rw [eF_39]; exact hN_29
        have hN_43 : ∀ i, i < 24 → F_39 8 i = nI (Wd i) := by rw [eF_39]; exact hN_30
        have hN_44 : ∀ i, i < 24 → F_39 9 i = nI (Pr i) := by rw [eF_39]; exact hN_31
        have hN_45 : ∀ i, i < n → F_39 1 i = nI (X i) := by rw [eF_39]; exact hN_32
        have hN_46 : ∀ i, i < n → F_39 2 i = nI (Y i) := by rw [eF_39]; exact hN_33
        have hN_47 : ∀ i, i < n → F_39 11 i = nI (Pq_17 i) := by rw [eF_39]; exact hN_34
        have hN_48 : ∀ i, i < n → F_39 10 i = nI (Oq_21 i) := by rw [eF_39]; exact hN_35
        refine lv_iinc (v := 2) (lv' := [(2, .int 2), (0, .ref (h 0)), (1, .int (nI k0))]) hx hb dX5_best_43 hl (k := 0) rfl (by decide) (by decide) rfl (fun ls hl => ?_)
        refine lv_goto (tgt := 26) hx hb dX5_best_46 (by decide) ?_
        refine lv_iload_n hx hb dX5_best_26 rfl (lv_at hl 0 rfl) ?_
        refine lv_iconst (v := 4) hx hb dX5_best_27 (by decide) ?_
        refine lv_icmp_ge (tgt := 49) hx hb dX5_best_28 (by decide) (fun c_49 => ?_) (fun c_49 => ?_)
        · exact absurd c_49 (by decide)
        · refine lv_aload_n hx hb dX5_best_31 rfl (lv_at hl 1 rfl) ?_
          refine va_get (D := (dC, dI)) (ci := 5) (v := .ref (h 12)) (C := RX5) (T := TX5) (N := 33) hx hb hts hin_X5 hown hK hP 0 rfl rfl 19 (by decide) hw2 (fun _ h9 => h9) rfl dX5_best_32 ?_
          refine lv_iload_n hx hb dX5_best_35 rfl (lv_at hl 0 rfl) ?_
          refine lv_aload_n hx hb dX5_best_36 rfl (lv_at hl 1 rfl) ?_
          refine va_get (D := (dC, dI)) (ci := 5) (v := .ref (h 4)) (C := RX5) (T := TX5) (N := 33) hx hb hts hin_X5 hown hK hP 0 rfl rfl 11 (by decide) hw3 (fun _ h9 => h9) rfl dX5_best_37 ?_
          refine lv_iload_n hx hb dX5_best_40 rfl (lv_at hl 0 rfl) ?_
          refine va_iald hx hb hK hP 4 0 rfl rfl (vp_in_nI (n := 2) (N := 4) (by decide) (by decide)) dX5_best_41 ?_
          have hb_50 := bLm 2 (by omega)
          refine lv_topi (fun x_51 ex_51 => ?_)
          obtain rfl : x_51 = nI (Lm 2) := ex_51.trans ((congrArg (F_39 4) (by decide : (2 : Int32).toNatClampNeg = 2)).trans (hN_41 2 (by omega)))
          refine va_iast hx hb hK hP hD hS 12 0 rfl rfl (vp_in_nI (n := 2) (N := 4) (by decide) (by decide)) dX5_best_42 (fun H locs hP hD hS => ?_)
          obtain ⟨F_52, eF_52⟩ : ∃ z : Nat → Nat → Int32, z = va_up F_39 12 (upd (F_39 12) (2 : Int32).toNatClampNeg (nI (Lm 2))) := ⟨_, rfl⟩
          have hP : va_P (dC, dI) vwCl (wM cI cZ cJ h F_52 G (va_up V 0 0)) H := by rw [eF_52]; exact hP
          have hD : va_D A (wM cI cZ cJ h F_52 G (va_up V 0 0)) := by rw [eF_52]; exact hD
          have hN_53 : ∀ i, i < 40 → F_52 3 i = nI (So i) := by rw [eF_52]; exact hN_40
          have hN_54 : ∀ i, i < 4 → F_52 4 i = nI (Lm i) := by rw [eF_52]; exact hN_41
          have hN_55 : ∀ i, i < 24 → F_52 7 i = nI (Hh i) := by rw [eF_52]; exact hN_42
          have hN_56 : ∀ i, i < 24 → F_52 8 i = nI (Wd i) := by rw [eF_52]; exact hN_43
          have hN_57 : ∀ i, i < 24 → F_52 9 i = nI (Pr i) := by rw [eF_52]; exact hN_44
          have hN_58 : ∀ i, i < n → F_52 1 i = nI (X i) := by rw [eF_52]; exact hN_45
          have hN_59 : ∀ i, i < n → F_52 2 i = nI (Y i) := by rw [eF_52]; exact hN_46
          have hN_60 : ∀ i, i < n → F_52 11 i = nI (Pq_17 i) := by rw [eF_52]; exact hN_47
          have hN_61 : ∀ i, i < n → F_52 10 i = nI (Oq_21 i) := by rw [eF_52]; exact hN_48
          refine lv_iinc (v := 3) (lv' := [(2, .int 3), (0, .ref (h 0)), (1, .int (nI k0))]) hx hb dX5_best_43 hl (k := 0) rfl (by decide) (by decide) rfl (fun ls hl => ?_)
          refine lv_goto (tgt := 26) hx hb dX5_best_46 (by decide) ?_
          refine lv_iload_n hx hb dX5_best_26 rfl (lv_at hl 0 rfl) ?_
          refine lv_iconst (v := 4) hx hb dX5_best_27 (by decide) ?_
          refine lv_icmp_ge (tgt := 49) hx hb dX5_best_28 (by decide) (fun c_62 => ?_) (fun c_62 => ?_)
          · exact absurd c_62 (by decide)
          · refine lv_aload_n hx hb dX5_best_31 rfl (lv_at hl 1 rfl) ?_
            refine va_get (D := (dC, dI)) (ci := 5) (v := .ref (h 12)) (C := RX5) (T := TX5) (N := 33) hx hb hts hin_X5 hown hK hP 0 rfl rfl 19 (by decide) hw2 (fun _ h9 => h9) rfl dX5_best_32 ?_
            refine lv_iload_n hx hb dX5_best_35 rfl (lv_at hl 0 rfl) ?_
            refine lv_aload_n hx hb dX5_best_36 rfl (lv_at hl 1 rfl) ?_
            refine va_get (D := (dC, dI)) (ci := 5) (v := .ref (h 4)) (C := RX5) (T := TX5) (N := 33) hx hb hts hin_X5 hown hK hP 0 rfl rfl 11 (by decide) hw3 (fun _ h9 => h9) rfl dX5_best_37 ?_
            refine lv_iload_n hx hb dX5_best_40 rfl (lv_at hl 0 rfl) ?_
            refine va_iald hx hb hK hP 4 0 rfl rfl (vp_in_nI (n := 3) (N := 4) (by decide) (by decide)) dX5_best_41 ?_
            have hb_63 := bLm 3 (by omega)
            refine lv_topi (fun x_64 ex_64 => ?_)
            obtain rfl : x_64 = nI (Lm 3) := ex_64.trans ((congrArg (F_52 4) (by decide : (3 : Int32).toNatClampNeg = 3)).trans (hN_54 3 (by omega)))
            refine va_iast hx hb hK hP hD hS 12 0 rfl rfl (vp_in_nI (n := 3) (N := 4) (by decide) (by decide)) dX5_best_42 (fun H locs hP hD hS => ?_)
            obtain ⟨F_65, eF_65⟩ : ∃ z : Nat → Nat → Int32, z = va_up F_52 12 (upd (F_52 12) (3 : Int32).toNatClampNeg (nI (Lm 3))) := ⟨_, rfl⟩
            have hP : va_P (dC, dI) vwCl (wM cI cZ cJ h F_65 G (va_up V 0 0)) H := by rw [eF_65]; exact hP
            have hD : va_D A (wM cI cZ cJ h F_65 G (va_up V 0 0)) := by rw [eF_65]; exact hD
            have hN_66 : ∀ i, i < 40 → F_65 3 i = nI (So i) := by rw [eF_65]; exact hN_53
            have hN_67 : ∀ i, i < 4 → F_65 4 i = nI (Lm i) := by rw [eF_65]; exact hN_54
            have hN_68 : ∀ i, i < 24 → F_65 7 i = nI (Hh i) := by rw [eF_65]; exact hN_55
            have hN_69 : ∀ i, i < 24 → F_65 8 i = nI (Wd i) := by rw [eF_65]; exact hN_56
            have hN_70 : ∀ i, i < 24 → F_65 9 i = nI (Pr i) := by rw [eF_65]; exact hN_57
            have hN_71 : ∀ i, i < n → F_65 1 i = nI (X i) := by rw [eF_65]; exact hN_58
            have hN_72 : ∀ i, i < n → F_65 2 i = nI (Y i) := by rw [eF_65]; exact hN_59
            have hN_73 : ∀ i, i < n → F_65 11 i = nI (Pq_17 i) := by rw [eF_65]; exact hN_60
            have hN_74 : ∀ i, i < n → F_65 10 i = nI (Oq_21 i) := by rw [eF_65]; exact hN_61
            refine lv_iinc (v := 4) (lv' := [(2, .int 4), (0, .ref (h 0)), (1, .int (nI k0))]) hx hb dX5_best_43 hl (k := 0) rfl (by decide) (by decide) rfl (fun ls hl => ?_)
            refine lv_goto (tgt := 26) hx hb dX5_best_46 (by decide) ?_
            refine lv_iload_n hx hb dX5_best_26 rfl (lv_at hl 0 rfl) ?_
            refine lv_iconst (v := 4) hx hb dX5_best_27 (by decide) ?_
            refine lv_icmp_ge (tgt := 49) hx hb dX5_best_28 (by decide) (fun c_75 => ?_) (fun c_75 => ?_)
            · refine lv_aload_n hx hb dX5_best_49 rfl (lv_at hl 1 rfl) ?_
              refine lv_iconst (v := 0) hx hb dX5_best_50 (by decide) ?_
              refine va_put (D := (dC, dI)) (ci := 5) (v := .int 0) (ty := .int) (C := RX5) (T := TX5) (N := 33) hx hb hts hin_X5 tyX5 tyX5_ok nmX5 hown hK hP hD hS 0 rfl rfl 24 (by decide) hw4 (fun _ h9 => h9) rfl (by decide +kernel) rfl rfl (Nat.le_of_ble_eq_true rfl) dX5_best_51 (fun H locs hP hD hS => ?_)
              have hP : va_P (dC, dI) vwCl (wM cI cZ cJ h F_65 G (va_up (va_up V 0 0) 9 0)) H := hP
              have hD : va_D A (wM cI cZ cJ h F_65 G (va_up (va_up V 0 0) 9 0)) := hD
              refine lv_aload_n hx hb dX5_best_54 rfl (lv_at hl 1 rfl) ?_
              refine lv_iconst (v := 0) hx hb dX5_best_55 (by decide) ?_
              refine lv_iconst (v := 0) hx hb dX5_best_56 (by decide) ?_
              have hN_76 : ∀ i, i < 4 → F_65 12 i = nI (Lm i) := by
                intro i hi
                rw [eF_65, eF_52, eF_39, eF_26]
                match i, hi with
                | 0, _ => rfl
                | 1, _ => rfl
                | 2, _ => rfl
                | 3, _ => rfl
                | i + 4, hi => exact absurd hi (by omega)
              refine cw_Vv (As := [.int 0, .int 0]) (rest := []) (c_X5_tries0 l dC dI cI cZ cJ h F_65 G (va_up (va_up V 0 0) 9 0) n hV2 (by omega) Pq_17 hN_73 bN_19 Oq_21 hN_74 bN_22 Lm hN_76 bLm 0 (by omega)) fx (cwV 2 hts gX5_best_X5_tries rfl rfl rfl (by decide +kernel) ⟨Nat.le_of_ble_eq_true rfl, Nat.le_of_ble_eq_true rfl⟩) hK hP hD hS hA 0 rfl rfl rfl rfl hl.1 rfl (Nat.le_of_ble_eq_true rfl) dX5_best_57 ⟨Nat.le_of_ble_eq_true rfl, Nat.le_of_ble_eq_true rfl⟩ (fun u_78 H locs hw_79 hP hD hS => ?_)
              obtain ⟨F_80, V_81⟩ := u_78
              have hf_82 : ∀ j, j ∉ ([12] : List Nat) → F_80 j = F_65 j := hw_79.1
              have hv_83 : ∀ j, j ≠ 9 → V_81 j = (va_up (va_up V 0 0) 9 0) j := hw_79.2.1
              have hN_84 : ∀ i, i < 4 → F_80 12 i = nI (Lm i) := hw_79.2.2
              have hP : va_P (dC, dI) vwCl (wM cI cZ cJ h F_80 G V_81) H := hP
              have hD : va_D A (wM cI cZ cJ h F_80 G V_81) := hD
              have hN_85 : ∀ i, i < 40 → F_80 3 i = nI (So i) := by rw [hf_82 3 (by decide)]; exact hN_66
              have hN_86 : ∀ i, i < 4 → F_80 4 i = nI (Lm i) := by rw [hf_82 4 (by decide)]; exact hN_67
              have hN_87 : ∀ i, i < 24 → F_80 7 i = nI (Hh i) := by rw [hf_82 7 (by decide)]; exact hN_68
              have hN_88 : ∀ i, i < 24 → F_80 8 i = nI (Wd i) := by rw [hf_82 8 (by decide)]; exact hN_69
              have hN_89 : ∀ i, i < 24 → F_80 9 i = nI (Pr i) := by rw [hf_82 9 (by decide)]; exact hN_70
              have hN_90 : ∀ i, i < n → F_80 1 i = nI (X i) := by rw [hf_82 1 (by decide)]; exact hN_71
              have hN_91 : ∀ i, i < n → F_80 2 i = nI (Y i) := by rw [hf_82 2 (by decide)]; exact hN_72
              have hN_92 : ∀ i, i < n → F_80 11 i = nI (Pq_17 i) := by rw [hf_82 11 (by decide)]; exact hN_73
              have hN_93 : ∀ i, i < n → F_80 10 i = nI (Oq_21 i) := by rw [hf_82 10 (by decide)]; exact hN_74
              have hV_94 : V_81 2 = nI n := by rw [hv_83 2 (by decide)]; exact hV2
              have hV_95 : V_81 3 = nI nw := by rw [hv_83 3 (by decide)]; exact hV3
              have hV_96 : V_81 4 = nI un := by rw [hv_83 4 (by decide)]; exact hV4
              have hV_97 : V_81 6 = nI d := by rw [hv_83 6 (by decide)]; exact hV6
              have hV_98 : V_81 7 = nI wm := by rw [hv_83 7 (by decide)]; exact hV7
              have hV_99 : V_81 10 = nI pf := by rw [hv_83 10 (by decide)]; exact hV10
              have hV_100 : V_81 11 = nI sh := by rw [hv_83 11 (by decide)]; exact hV11
              have hV_101 : V_81 8 = nI am - 1 := by rw [hv_83 8 (by decide)]; exact hV8
              refine lv_aload_n hx hb dX5_best_60 rfl (lv_at hl 1 rfl) ?_
              refine lv_aload_n hx hb dX5_best_61 rfl (lv_at hl 1 rfl) ?_
              refine va_get (D := (dC, dI)) (ci := 5) (v := .int (V_81 9)) (C := RX5) (T := TX5) (N := 33) hx hb hts hin_X5 hown hK hP 0 rfl rfl 24 (by decide) hw4 (fun _ h9 => h9) rfl dX5_best_62 ?_
              refine cw_Vi (As := [.int (V_81 9)]) (rest := []) (c_X5_done l dC dI cI cZ cJ h F_80 G V_81 (V_81 9)) fx (cwV 1 hts gX5_best_X5_done rfl rfl rfl (by decide +kernel) ⟨Nat.le_of_ble_eq_true rfl, Nat.le_of_ble_eq_true rfl⟩) hK hP hD hS hA 0 rfl rfl rfl rfl hl.1 rfl (Nat.le_of_ble_eq_true rfl) dX5_best_65 ⟨Nat.le_of_ble_eq_true rfl, Nat.le_of_ble_eq_true rfl⟩ (fun r_102 u_103 H locs hw_104 hP hD hS => ?_)
              have hP : va_P (dC, dI) vwCl (wM cI cZ cJ h F_80 G (va_up V_81 1 0)) H := hP
              have hD : va_D A (wM cI cZ cJ h F_80 G (va_up V_81 1 0)) := hD
              exact hret r_102 (F_80, G, va_up V_81 1 0) H locs 68 ls rfl dX5_best_68 (by
                            refine ⟨?_, ?_⟩
                            · (try dsimp only)
                              first | done | exact trivial
                            · (try dsimp only)
                              exact ⟨⟨hV_94, by omega⟩, ⟨hV_95, by omega⟩, ⟨hV_96, by omega⟩, ⟨hV_97, by omega⟩, ⟨hV_98, by omega⟩, ⟨hV_99, by omega⟩, ⟨sh, hV_100, by omega⟩, ⟨hN_85, bSo⟩, ⟨hN_86, bLm⟩, ⟨hN_87, bHh⟩, ⟨hN_88, bWd⟩, ⟨hN_89, bPr⟩, ⟨hN_90, bX⟩, ⟨hN_91, bY⟩, ⟨am, hV_101, by omega, by omega⟩, hGP, (fun i hi => (congrFun (Eq.trans (hf_82 5 (by decide)) (Eq.trans (va_ne eF_65 (by decide)) (Eq.trans (va_ne eF_52 (by decide)) (Eq.trans (va_ne eF_39 (by decide)) (Eq.trans (va_ne eF_26 (by decide)) (hf_9 5 (by decide))))))) i).trans (hSX i hi)), (fun i hi => (congrFun (Eq.trans (hf_82 6 (by decide)) (Eq.trans (va_ne eF_65 (by decide)) (Eq.trans (va_ne eF_52 (by decide)) (Eq.trans (va_ne eF_39 (by decide)) (Eq.trans (va_ne eF_26 (by decide)) (hf_9 6 (by decide))))))) i).trans (hSY i hi)), (fun i hi => (congrFun (Eq.trans (hf_82 13 (by decide)) (Eq.trans (va_ne eF_65 (by decide)) (Eq.trans (va_ne eF_52 (by decide)) (Eq.trans (va_ne eF_39 (by decide)) (Eq.trans (va_ne eF_26 (by decide)) (hf_9 13 (by decide))))))) i).trans (hKc i hi)), (fun i hi => (congrFun (Eq.trans (hf_82 15 (by decide)) (Eq.trans (va_ne eF_65 (by decide)) (Eq.trans (va_ne eF_52 (by decide)) (Eq.trans (va_ne eF_39 (by decide)) (Eq.trans (va_ne eF_26 (by decide)) (hf_9 15 (by decide))))))) i).trans (hKp i hi)), ((Eq.trans (show (va_up V_81 1 0) 5 = V_81 5 from rfl) (hv_83 5 (by decide)))).trans hE, (fun t h1 h2 => (congrFun (Eq.trans (hf_82 17 (by decide)) (Eq.trans (va_ne eF_65 (by decide)) (Eq.trans (va_ne eF_52 (by decide)) (Eq.trans (va_ne eF_39 (by decide)) (Eq.trans (va_ne eF_26 (by decide)) (hf_9 17 (by decide))))))) t).trans (hRB t h1 h2))⟩) (hP) (hD) hS
            · exact absurd c_75 (by decide)
  · have c_4 : isW p0 0 23 = false := bI_f hw_3 c_4
    refine lv_aload_n hx hb dX5_best_12 rfl (lv_at hl 0 rfl) ?_
    refine lv_iconst (v := 2) hx hb dX5_best_13 (by decide) ?_
    refine cw_Vi (As := [.int 2]) (rest := []) (c_X5_refused l dC dI cI cZ cJ h F G (va_up V 0 0) 2) fx (cwV 1 hts gX5_best_X5_refused rfl rfl rfl (by decide +kernel) ⟨Nat.le_of_ble_eq_true rfl, Nat.le_of_ble_eq_true rfl⟩) hK hP hD hS hA 0 rfl rfl rfl rfl hl.1 rfl (Nat.le_of_ble_eq_true rfl) dX5_best_14 ⟨Nat.le_of_ble_eq_true rfl, Nat.le_of_ble_eq_true rfl⟩ (fun r_105 u_106 H locs hw_107 hP hD hS => ?_)
    have hP : va_P (dC, dI) vwCl (wM cI cZ cJ h F G (va_up (va_up V 0 0) 1 2)) H := hP
    have hD : va_D A (wM cI cZ cJ h F G (va_up (va_up V 0 0) 1 2)) := hD
    obtain rfl : r_105 = (-1) := hw_107
    exact hret (-1) (F, G, va_up (va_up V 0 0) 1 2) H locs 17 ls rfl dX5_best_17 (by
                  refine ⟨?_, ?_⟩
                  · (try dsimp only)
                    first | done | exact trivial
                  · (try dsimp only)
                    exact ⟨⟨hV2, by omega⟩, ⟨hV3, by omega⟩, ⟨hV4, by omega⟩, ⟨hV6, by omega⟩, ⟨hV7, by omega⟩, ⟨hV10, by omega⟩, ⟨sh, hV11, by omega⟩, ⟨hSo, bSo⟩, ⟨hLm, bLm⟩, ⟨hHh, bHh⟩, ⟨hWd, bWd⟩, ⟨hPr, bPr⟩, ⟨hX, bX⟩, ⟨hY, bY⟩, ⟨am, hV8, by omega, by omega⟩, hGP, (fun i hi => (congrFun (Eq.refl (F 5)) i).trans (hSX i hi)), (fun i hi => (congrFun (Eq.refl (F 6)) i).trans (hSY i hi)), (fun i hi => (congrFun (Eq.refl (F 13)) i).trans (hKc i hi)), (fun i hi => (congrFun (Eq.refl (F 15)) i).trans (hKp i hi)), ((show (va_up (va_up V 0 0) 1 2) 5 = V 5 from rfl)).trans hE, (fun t h1 h2 => (congrFun (Eq.refl (F 17)) t).trans (hRB t h1 h2))⟩) (hP) (hD) hS
def rm_X5_step0 : Room := { frames := 4, cells := 0, slots := 0, locals := 104 }
set_option maxHeartbeats 4000000 in
set_option maxRecDepth 100000 in
theorem c_X5_step0 (l : Launch) (dC : Nat → ClassId) (dI : Nat → Nat → Nat) (cI cZ cJ : ClassId) (h : Nat → Nat) (F : Nat → Nat → Int32) (G : Nat → Int64) (V : Nat → Int32) (n : Nat) (hV2 : V 2 = nI n) (bV2 : n ≤ 40) (nw : Nat) (hV3 : V 3 = nI nw) (bV3 : nw ≤ 23) (un : Nat) (hV4 : V 4 = nI un) (bV4 : un ≤ 200) (d : Nat) (hV6 : V 6 = nI d) (bV6 : d ≤ 20) (wm : Nat) (hV7 : V 7 = nI wm) (bV7 : wm ≤ 1) (pf : Nat) (hV10 : V 10 = nI pf) (bV10 : pf ≤ 24) (sh : Nat) (hV11 : V 11 = nI sh) (bV11 : sh ≤ 12) (So : Nat → Nat) (hSo : ∀ i, i < 40 → F 3 i = nI (So i)) (bSo : ∀ i, i < 40 → So i ≤ 90) (Lm : Nat → Nat) (hLm : ∀ i, i < 4 → F 4 i = nI (Lm i)) (bLm : ∀ i, i < 4 → Lm i ≤ 10000) (Hh : Nat → Nat) (hHh : ∀ i, i < 24 → F 7 i = nI (Hh i)) (bHh : ∀ i, i < 24 → Hh i ≤ 9) (Wd : Nat → Nat) (hWd : ∀ i, i < 24 → F 8 i = nI (Wd i)) (bWd : ∀ i, i < 24 → Wd i ≤ 99) (Pr : Nat → Nat) (hPr : ∀ i, i < 24 → F 9 i = nI (Pr i)) (bPr : ∀ i, i < 24 → Pr i ≤ 999) (X : Nat → Nat) (hX : ∀ i, i < n → F 1 i = nI (X i)) (bX : ∀ i, i < n → X i ≤ 14) (Y : Nat → Nat) (hY : ∀ i, i < n → F 2 i = nI (Y i)) (bY : ∀ i, i < n → Y i ≤ 14)   (ks am : Nat) (hV8 : V 8 = nI am - 1) (bam : am ≤ 41) (hks : am - 1 = ks) (SX SY Kc Kp : Nat → Int32) (er : Int32) (rb : Nat → Bool) (hGP : GP n X Y) (hSX : ∀ i, i < 24 → F 5 i = SX i) (hSY : ∀ i, i < 24 → F 6 i = SY i) (hKc : ∀ i, i < ks → F 13 i = Kc i) (hKp : ∀ i, i < 4 → F 15 i = Kp i) (hE : V 5 = er) (hRB : ∀ t, pf ≤ t → t < 24 → F 17 t = bI (rb t)) : CtI l (dC, dI) vwCl (tys3 cI cZ cJ) yX5_step wsX5_step rm_X5_step0 [.ref (h 0), .int 0] (wM cI cZ cJ h F G V) (S := (Nat → Nat → Int32) × (Nat → Int64) × (Nat → Int32)) (fun r u => (r = 0) ∧ VM n d ks ((nw + 1) % 24) (min 200 (un + htA (pwA X Y n SX SY Hh So Wd nw 0) Lm n / 100)) (0) pf (grow So d n) Hh Wd Lm Pr X Y SX SY Kc Kp (er + 0) rb u.1 u.2.2) (fun u => wM cI cZ cJ h u.1 u.2.1 u.2.2) 0 0 := by
  refine ct_I (cc := cX5_step) (maxL := 5) (ty := .int) (own := RX5) (by decide) rfl rfl (Nat.le_of_ble_eq_true rfl) (lv := [(0, .ref (h 0)), (1, .int 0)]) rfl ?_
  intro p e s m args below meth c A Q ls fx hK hP hD hA hl hret
  obtain ⟨hx, hb, hml, hown, hts⟩ := id fx
  have hS : va_S A s.heap s.heap [] := va_S.rf
  have hw0 := hts (.fieldLink RX5 1 "MirrorTowerModel" "thrown" "I") (by decide +kernel)
  have hin_X5 : ∀ w ∈ u_ws RX5 TX5 33, w ∈ wsX5_step := by decide +kernel
  have hw2 := hts (.fieldLink RX5 168 "MirrorTowerModel" "store" "I") (by decide +kernel)
  have hw3 := hts (.fieldLink RX5 154 "MirrorTowerModel" "now" "I") (by decide +kernel)
  have hw4 := hts (.fieldLink RX5 171 "MirrorTowerModel" "isWarm" "Z") (by decide +kernel)
  have hw5 := hts (.fieldLink RX5 175 "MirrorTowerModel" "earned" "I") (by decide +kernel)
  have hw6 := hts (.fieldLink RX5 91 "MirrorTowerModel" "mirrors" "I") (by decide +kernel)
  have hw7 := hts (.fieldLink RX5 26 "MirrorTowerModel" "soil" "[I") (by decide +kernel)
  have hw8 := hts (.fieldLink RX5 16 "MirrorTowerModel" "dust" "I") (by decide +kernel)
  have hw9 := hts (.methodLink RX5 129 Lib.Math.min.name) (by decide +kernel)
  have hw10 := hts (.static Lib.Math.min.name) (by decide +kernel)
  have hw11 := hts (.initialized "java/lang/Math") (by decide +kernel)
  have hw12 := hts (.code Lib.Math.min.name Lib.Math.min.code 2 (some .int)) (by decide +kernel)
  obtain ⟨H, hH⟩ : ∃ H, H = s.heap := ⟨_, rfl⟩
  rw [← hH] at hP ⊢
  have hS : va_S A s.heap H [] := by rw [hH]; exact hS
  generalize ([] : List Loc) = locs at hS ⊢
  refine lv_aload_n hx hb dX5_step_0 rfl (lv_at hl 0 rfl) ?_
  refine lv_iconst (v := 0) hx hb dX5_step_1 (by decide) ?_
  refine va_put (D := (dC, dI)) (ci := 5) (v := .int 0) (ty := .int) (C := RX5) (T := TX5) (N := 33) hx hb hts hin_X5 tyX5 tyX5_ok nmX5 hown hK hP hD hS 0 rfl rfl 0 (by decide) hw0 (fun _ h9 => h9) rfl (by decide +kernel) rfl rfl (Nat.le_of_ble_eq_true rfl) dX5_step_2 (fun H locs hP hD hS => ?_)
  have hP : va_P (dC, dI) vwCl (wM cI cZ cJ h F G (va_up V 0 0)) H := hP
  have hD : va_D A (wM cI cZ cJ h F G (va_up V 0 0)) := hD
  refine lv_aload_n hx hb dX5_step_5 rfl (lv_at hl 0 rfl) ?_
  refine va_get (D := (dC, dI)) (ci := 5) (v := .int (V 4)) (C := RX5) (T := TX5) (N := 33) hx hb hts hin_X5 hown hK hP 0 rfl rfl 4 (by decide) hw2 (fun _ h9 => h9) rfl dX5_step_6 ?_
  refine lv_topi (fun x_1 ex_1 => ?_)
  obtain rfl : x_1 = nI un := ex_1.trans (hV4)
  refine lv_aload_n hx hb dX5_step_9 rfl (lv_at hl 0 rfl) ?_
  refine lv_aload_n hx hb dX5_step_10 rfl (lv_at hl 0 rfl) ?_
  refine va_get (D := (dC, dI)) (ci := 5) (v := .int (V 3)) (C := RX5) (T := TX5) (N := 33) hx hb hts hin_X5 hown hK hP 0 rfl rfl 3 (by decide) hw3 (fun _ h9 => h9) rfl dX5_step_11 ?_
  refine lv_topi (fun x_2 ex_2 => ?_)
  obtain rfl : x_2 = nI nw := ex_2.trans (hV3)
  refine lv_iconst (v := 0) hx hb dX5_step_14 (by decide) ?_
  refine cw_Vi (As := [.int (nI nw), .int 0]) (rest := [.int (nI un)]) (c_X5_aims l dC dI cI cZ cJ h F G (va_up V 0 0) n hV2 (by omega) So hSo bSo Hh hHh bHh Wd hWd bWd Lm hLm bLm X hX bX Y hY bY nw 0 (by omega) (by omega) SX SY (fun i hi => (congrFun (Eq.refl (F 5)) i).trans (hSX i hi)) (fun i hi => (congrFun (Eq.refl (F 6)) i).trans (hSY i hi)) hGP) fx (cwV 2 hts gX5_step_X5_aims rfl rfl rfl (by decide +kernel) ⟨Nat.le_of_ble_eq_true rfl, Nat.le_of_ble_eq_true rfl⟩) hK hP hD hS hA 0 rfl rfl rfl rfl hl.1 rfl (Nat.le_of_ble_eq_true rfl) dX5_step_15 ⟨Nat.le_of_ble_eq_true rfl, Nat.le_of_ble_eq_true rfl⟩ (fun r_3 u_4 H locs hw_5 hP hD hS => ?_)
  obtain ⟨F_6, rfl⟩ : ∃ z, z = u_4 := ⟨_, rfl⟩
  have hf_7 : ∀ j, j ∉ ([10, 11, 12, 14] : List Nat) → F_6 j = F j := hw_5.2.1
  have hP : va_P (dC, dI) vwCl (wM cI cZ cJ h F_6 G (va_up V 0 0)) H := hP
  have hD : va_D A (wM cI cZ cJ h F_6 G (va_up V 0 0)) := hD
  have hN_8 : ∀ i, i < 40 → F_6 3 i = nI (So i) := by rw [hf_7 3 (by decide)]; exact hSo
  have hN_9 : ∀ i, i < 4 → F_6 4 i = nI (Lm i) := by rw [hf_7 4 (by decide)]; exact hLm
  have hN_10 : ∀ i, i < 24 → F_6 7 i = nI (Hh i) := by rw [hf_7 7 (by decide)]; exact hHh
  have hN_11 : ∀ i, i < 24 → F_6 8 i = nI (Wd i) := by rw [hf_7 8 (by decide)]; exact hWd
  have hN_12 : ∀ i, i < 24 → F_6 9 i = nI (Pr i) := by rw [hf_7 9 (by decide)]; exact hPr
  have hN_13 : ∀ i, i < n → F_6 1 i = nI (X i) := by rw [hf_7 1 (by decide)]; exact hX
  have hN_14 : ∀ i, i < n → F_6 2 i = nI (Y i) := by rw [hf_7 2 (by decide)]; exact hY
  have hb_15 : htA (pwA X Y n SX SY Hh So Wd nw 0) Lm n ≤ 4000 := hA_le bV2 (fun i _ => pwA_le (bHh nw (by omega)))
  have hN_16 : ∀ i, i < 4 → F_6 12 i = nI ((lA (pwA X Y n SX SY Hh So Wd nw 0) Lm n) i) := (hw_5.2.2).1
  have bN_17 : ∀ i, i < 4 → (lA (pwA X Y n SX SY Hh So Wd nw 0) Lm n) i ≤ 10000 := (hw_5.2.2).2.1
  have hC_18 : ∀ i, i < n → F_6 14 i = cA (pwA X Y n SX SY Hh So Wd nw 0) Lm n i := (hw_5.2.2).2.2
  obtain rfl : r_3 = nI (htA (pwA X Y n SX SY Hh So Wd nw 0) Lm n) := hw_5.1
  refine lv_bipush (v := 100) hx hb dX5_step_18 (by decide) ?_
  refine lv_idiv hx hb dX5_step_20 (by decide) ?_
  refine lv_topi (fun x_19 ex_19 => ?_)
  obtain rfl : x_19 = nI ((htA (pwA X Y n SX SY Hh So Wd nw 0) Lm n) / 100) := ex_19.trans (pk_div (a := htA (pwA X Y n SX SY Hh So Wd nw 0) Lm n) (d := 100) (by omega) (by omega) (by omega))
  refine cw_Si (As := [.int (nI un), .int (nI ((htA (pwA X Y n SX SY Hh So Wd nw 0) Lm n) / 100))]) (rest := []) (c_X5_filled l dC dI cI cZ cJ (wM cI cZ cJ h F_6 G (va_up V 0 0)) un ((htA (pwA X Y n SX SY Hh So Wd nw 0) Lm n) / 100) (by omega)) fx (va_cwS 2 hts gX5_step_X5_filled rfl rfl rfl (by decide +kernel) ⟨Nat.le_of_ble_eq_true rfl, Nat.le_of_ble_eq_true rfl⟩) hK hP hD hS hA rfl hl.1 rfl (Nat.le_of_ble_eq_true rfl) dX5_step_21 ⟨Nat.le_of_ble_eq_true rfl, Nat.le_of_ble_eq_true rfl⟩ (fun r_20 u_21 H locs hw_22 hP hD hS => ?_)
  have hP : va_P (dC, dI) vwCl (wM cI cZ cJ h F_6 G (va_up V 0 0)) H := hP
  have hD : va_D A (wM cI cZ cJ h F_6 G (va_up V 0 0)) := hD
  obtain rfl : r_20 = nI (min 200 (un + ((htA (pwA X Y n SX SY Hh So Wd nw 0) Lm n) / 100))) := hw_22
  refine lv_istore_n (lv' := [(2, .int (nI (min 200 (un + ((htA (pwA X Y n SX SY Hh So Wd nw 0) Lm n) / 100))))), (0, .ref (h 0)), (1, .int 0)]) hx hb dX5_step_24 rfl hl (by decide) rfl (fun ls hl => ?_)
  refine lv_iload_n hx hb dX5_step_25 rfl (lv_at hl 2 rfl) ?_
  refine lv_if_eq (tgt := 46) hx hb dX5_step_26 (by decide) (fun c_23 => ?_) (fun c_23 => ?_)
  · refine lv_iload_n hx hb dX5_step_46 rfl (lv_at hl 2 rfl) ?_
    refine lv_if_eq (tgt := 64) hx hb dX5_step_47 (by decide) (fun c_24 => ?_) (fun c_24 => ?_)
    · refine lv_iconst (v := 0) hx hb dX5_step_64 (by decide) ?_
      refine lv_istore_n (lv' := [(3, .int 0), (2, .int (nI (min 200 (un + ((htA (pwA X Y n SX SY Hh So Wd nw 0) Lm n) / 100))))), (0, .ref (h 0)), (1, .int 0)]) hx hb dX5_step_65 rfl hl (by decide) rfl (fun ls hl => ?_)
      refine lv_aload_n hx hb dX5_step_66 rfl (lv_at hl 2 rfl) ?_
      refine lv_iload_n hx hb dX5_step_67 rfl (lv_at hl 3 rfl) ?_
      refine lv_if_eq (tgt := 83) hx hb dX5_step_68 (by decide) (fun c_25 => ?_) (fun c_25 => ?_)
      · refine lv_iload_n hx hb dX5_step_83 rfl (lv_at hl 1 rfl) ?_
        refine va_put (D := (dC, dI)) (ci := 5) (v := .int (nI (min 200 (un + ((htA (pwA X Y n SX SY Hh So Wd nw 0) Lm n) / 100))))) (ty := .int) (C := RX5) (T := TX5) (N := 33) hx hb hts hin_X5 tyX5 tyX5_ok nmX5 hown hK hP hD hS 0 rfl rfl 4 (by decide) hw2 (fun _ h9 => h9) rfl (by decide +kernel) rfl rfl (Nat.le_of_ble_eq_true rfl) dX5_step_84 (fun H locs hP hD hS => ?_)
        have hP : va_P (dC, dI) vwCl (wM cI cZ cJ h F_6 G (va_up (va_up V 0 0) 4 (nI (min 200 (un + ((htA (pwA X Y n SX SY Hh So Wd nw 0) Lm n) / 100)))))) H := hP
        have hD : va_D A (wM cI cZ cJ h F_6 G (va_up (va_up V 0 0) 4 (nI (min 200 (un + ((htA (pwA X Y n SX SY Hh So Wd nw 0) Lm n) / 100)))))) := hD
        refine lv_aload_n hx hb dX5_step_87 rfl (lv_at hl 2 rfl) ?_
        refine lv_iload_n hx hb dX5_step_88 rfl (lv_at hl 3 rfl) ?_
        refine va_put (D := (dC, dI)) (ci := 5) (v := .int 0) (ty := .boolean) (C := RX5) (T := TX5) (N := 33) hx hb hts hin_X5 tyX5 tyX5_ok nmX5 hown hK hP hD hS 0 rfl rfl 7 (by decide) hw4 (fun _ h9 => h9) rfl (by decide +kernel) rfl rfl (Nat.le_of_ble_eq_true rfl) dX5_step_89 (fun H locs hP hD hS => ?_)
        have hP : va_P (dC, dI) vwCl (wM cI cZ cJ h F_6 G (va_up (va_up (va_up V 0 0) 4 (nI (min 200 (un + ((htA (pwA X Y n SX SY Hh So Wd nw 0) Lm n) / 100))))) 7 0)) H := hP
        have hD : va_D A (wM cI cZ cJ h F_6 G (va_up (va_up (va_up V 0 0) 4 (nI (min 200 (un + ((htA (pwA X Y n SX SY Hh So Wd nw 0) Lm n) / 100))))) 7 0)) := hD
        refine lv_aload_n hx hb dX5_step_92 rfl (lv_at hl 2 rfl) ?_
        refine lv_dup hx hb dX5_step_93 rfl ?_
        refine va_get (D := (dC, dI)) (ci := 5) (v := .int (V 5)) (C := RX5) (T := TX5) (N := 33) hx hb hts hin_X5 hown hK hP 0 rfl rfl 5 (by decide) hw5 (fun _ h9 => h9) rfl dX5_step_94 ?_
        refine lv_iload_n hx hb dX5_step_97 rfl (lv_at hl 0 rfl) ?_
        refine lv_iadd hx hb dX5_step_98 ?_
        refine va_put (D := (dC, dI)) (ci := 5) (v := .int ((V 5) + 0)) (ty := .int) (C := RX5) (T := TX5) (N := 33) hx hb hts hin_X5 tyX5 tyX5_ok nmX5 hown hK hP hD hS 0 rfl rfl 5 (by decide) hw5 (fun _ h9 => h9) rfl (by decide +kernel) rfl rfl (Nat.le_of_ble_eq_true rfl) dX5_step_99 (fun H locs hP hD hS => ?_)
        have hP : va_P (dC, dI) vwCl (wM cI cZ cJ h F_6 G (va_up (va_up (va_up (va_up V 0 0) 4 (nI (min 200 (un + ((htA (pwA X Y n SX SY Hh So Wd nw 0) Lm n) / 100))))) 7 0) 5 ((V 5) + 0))) H := hP
        have hD : va_D A (wM cI cZ cJ h F_6 G (va_up (va_up (va_up (va_up V 0 0) 4 (nI (min 200 (un + ((htA (pwA X Y n SX SY Hh So Wd nw 0) Lm n) / 100))))) 7 0) 5 ((V 5) + 0))) := hD
        refine lv_iconst (v := 0) hx hb dX5_step_102 (by decide) ?_
        refine lv_istore (lv' := [(4, .int 0), (3, .int 0), (2, .int (nI (min 200 (un + ((htA (pwA X Y n SX SY Hh So Wd nw 0) Lm n) / 100))))), (0, .ref (h 0)), (1, .int 0)]) hx hb dX5_step_103 hl (by decide) rfl (fun ls hl => ?_)
        have loop105 : ∀ (fu : Nat) (k : Nat) (F1 : Nat → Nat → Int32), (k ≤ n) → (∀ i, i < 40 → F1 3 i = nI (grow So d k i)) → (∀ i, i < 40 → grow So d k i ≤ 90) → (∀ j, j ∉ ([3] : List Nat) → F1 j = F_6 j) → (n - k) < fu → ∀ (H : Heap) (locs : List Loc) (ls : Array Slot), va_P (dC, dI) vwCl (wM cI cZ cJ h F1 G (va_up (va_up (va_up (va_up V 0 0) 4 (nI (min 200 (un + ((htA (pwA X Y n SX SY Hh So Wd nw 0) Lm n) / 100))))) 7 0) 5 ((V 5) + 0))) H → va_D A (wM cI cZ cJ h F1 G (va_up (va_up (va_up (va_up V 0 0) 4 (nI (min 200 (un + ((htA (pwA X Y n SX SY Hh So Wd nw 0) Lm n) / 100))))) 7 0) 5 ((V 5) + 0))) → va_S A s.heap H locs → lv_has ls 5 [(0, .ref (h 0)), (1, .int 0), (2, .int (nI (min 200 (un + ((htA (pwA X Y n SX SY Hh So Wd nw 0) Lm n) / 100))))), (3, .int 0), (4, .int (nI k))] → W p l e rm_X5_step0 s m args below meth c H locs 0 0 Q (F0 m 105 ls []) := by
          intro fu
          induction fu with
          | zero => intro k F1 hk hSv bSv hfr hn_; exact absurd hn_ (Nat.not_lt_zero _)
          | succ fu ih105 =>
            intro k F1 hk hSv bSv hfr hn_ H locs ls hP hD hS hl
            have hN_26 : ∀ i, i < 4 → F1 4 i = nI (Lm i) := by rw [hfr 4 (by decide)]; exact hN_9
            have hN_27 : ∀ i, i < 24 → F1 7 i = nI (Hh i) := by rw [hfr 7 (by decide)]; exact hN_10
            have hN_28 : ∀ i, i < 24 → F1 8 i = nI (Wd i) := by rw [hfr 8 (by decide)]; exact hN_11
            have hN_29 : ∀ i, i < 24 → F1 9 i = nI (Pr i) := by rw [hfr 9 (by decide)]; exact hN_12
            have hN_30 : ∀ i, i < n → F1 1 i = nI (X i) := by rw [hfr 1 (by decide)]; exact hN_13
            have hN_31 : ∀ i, i < n → F1 2 i = nI (Y i) := by rw [hfr 2 (by decide)]; exact hN_14
            have hfrA : ∀ j, j ∉ ([3, 10, 11, 12, 14] : List Nat) → F1 j = F j := fun j hj => (hfr j (fun z => hj ((by decide : ∀ x ∈ ([3] : List Nat), x ∈ ([3, 10, 11, 12, 14] : List Nat)) j z))).trans (hf_7 j (fun z => hj ((by decide : ∀ x ∈ ([10, 11, 12, 14] : List Nat), x ∈ ([3, 10, 11, 12, 14] : List Nat)) j z)))
            refine lv_iload hx hb dX5_step_105 (lv_at hl 4 rfl) ?_
            refine lv_aload_n hx hb dX5_step_107 rfl (lv_at hl 0 rfl) ?_
            refine va_get (D := (dC, dI)) (ci := 5) (v := .int (V 2)) (C := RX5) (T := TX5) (N := 33) hx hb hts hin_X5 hown hK hP 0 rfl rfl 2 (by decide) hw6 (fun _ h9 => h9) rfl dX5_step_108 ?_
            refine lv_topi (fun x_32 ex_32 => ?_)
            obtain rfl : x_32 = nI n := ex_32.trans (hV2)
            refine lv_icmp_ge (tgt := 144) hx hb dX5_step_111 (by decide) (fun c_33 => ?_) (fun c_33 => ?_)
            · have c_33 : n ≤ k := (nI_leI (a := n) (b := k) (by omega) (by omega)).mp c_33
              refine lv_aload_n hx hb dX5_step_144 rfl (lv_at hl 0 rfl) ?_
              refine lv_aload_n hx hb dX5_step_145 rfl (lv_at hl 0 rfl) ?_
              refine va_get (D := (dC, dI)) (ci := 5) (v := .int (V 3)) (C := RX5) (T := TX5) (N := 33) hx hb hts hin_X5 hown hK hP 0 rfl rfl 3 (by decide) hw3 (fun _ h9 => h9) rfl dX5_step_146 ?_
              refine lv_topi (fun x_34 ex_34 => ?_)
              obtain rfl : x_34 = nI nw := ex_34.trans (hV3)
              refine lv_iconst (v := 1) hx hb dX5_step_149 (by decide) ?_
              refine lv_iadd hx hb dX5_step_150 ?_
              refine lv_topi (fun x_35 ex_35 => ?_)
              obtain rfl : x_35 = nI (nw + 1) := ex_35.trans (nI_add nw 1)
              refine lv_bipush (v := 24) hx hb dX5_step_151 (by decide) ?_
              refine lv_irem hx hb dX5_step_153 (by decide) ?_
              refine lv_topi (fun x_36 ex_36 => ?_)
              obtain rfl : x_36 = nI ((nw + 1) % 24) := ex_36.trans (pk_rem (a := nw + 1) (d := 24) (by omega) (by omega) (by omega))
              refine va_put (D := (dC, dI)) (ci := 5) (v := .int (nI ((nw + 1) % 24))) (ty := .int) (C := RX5) (T := TX5) (N := 33) hx hb hts hin_X5 tyX5 tyX5_ok nmX5 hown hK hP hD hS 0 rfl rfl 3 (by decide) hw3 (fun _ h9 => h9) rfl (by decide +kernel) rfl rfl (Nat.le_of_ble_eq_true rfl) dX5_step_154 (fun H locs hP hD hS => ?_)
              have hP : va_P (dC, dI) vwCl (wM cI cZ cJ h F1 G (va_up (va_up (va_up (va_up (va_up V 0 0) 4 (nI (min 200 (un + ((htA (pwA X Y n SX SY Hh So Wd nw 0) Lm n) / 100))))) 7 0) 5 ((V 5) + 0)) 3 (nI ((nw + 1) % 24)))) H := hP
              have hD : va_D A (wM cI cZ cJ h F1 G (va_up (va_up (va_up (va_up (va_up V 0 0) 4 (nI (min 200 (un + ((htA (pwA X Y n SX SY Hh So Wd nw 0) Lm n) / 100))))) 7 0) 5 ((V 5) + 0)) 3 (nI ((nw + 1) % 24)))) := hD
              refine lv_aload_n hx hb dX5_step_157 rfl (lv_at hl 0 rfl) ?_
              refine lv_iload_n hx hb dX5_step_158 rfl (lv_at hl 3 rfl) ?_
              refine cw_Vi (As := [.int 0]) (rest := []) (c_X5_done l dC dI cI cZ cJ h F1 G (va_up (va_up (va_up (va_up (va_up V 0 0) 4 (nI (min 200 (un + ((htA (pwA X Y n SX SY Hh So Wd nw 0) Lm n) / 100))))) 7 0) 5 ((V 5) + 0)) 3 (nI ((nw + 1) % 24))) 0) fx (cwV 1 hts gX5_step_X5_done rfl rfl rfl (by decide +kernel) ⟨Nat.le_of_ble_eq_true rfl, Nat.le_of_ble_eq_true rfl⟩) hK hP hD hS hA 0 rfl rfl rfl rfl hl.1 rfl (Nat.le_of_ble_eq_true rfl) dX5_step_159 ⟨Nat.le_of_ble_eq_true rfl, Nat.le_of_ble_eq_true rfl⟩ (fun r_37 u_38 H locs hw_39 hP hD hS => ?_)
              have hP : va_P (dC, dI) vwCl (wM cI cZ cJ h F1 G (va_up (va_up (va_up (va_up (va_up (va_up V 0 0) 4 (nI (min 200 (un + ((htA (pwA X Y n SX SY Hh So Wd nw 0) Lm n) / 100))))) 7 0) 5 ((V 5) + 0)) 3 (nI ((nw + 1) % 24))) 1 0)) H := hP
              have hD : va_D A (wM cI cZ cJ h F1 G (va_up (va_up (va_up (va_up (va_up (va_up V 0 0) 4 (nI (min 200 (un + ((htA (pwA X Y n SX SY Hh So Wd nw 0) Lm n) / 100))))) 7 0) 5 ((V 5) + 0)) 3 (nI ((nw + 1) % 24))) 1 0)) := hD
              obtain rfl : r_37 = 0 := hw_39
              exact hret 0 (F1, G, va_up (va_up (va_up (va_up (va_up (va_up V 0 0) 4 (nI (min 200 (un + ((htA (pwA X Y n SX SY Hh So Wd nw 0) Lm n) / 100))))) 7 0) 5 ((V 5) + 0)) 3 (nI ((nw + 1) % 24))) 1 0) H locs 162 ls rfl dX5_step_162 (by
                            have hk_ : k = n := by omega
                            rw [hk_] at hSv bSv
                            refine ⟨?_, ?_⟩
                            · (try dsimp only)
                              first | done | exact rfl
                            · (try dsimp only)
                              exact ⟨⟨hV2, by omega⟩, ⟨rfl, by omega⟩, ⟨rfl, by omega⟩, ⟨hV6, by omega⟩, ⟨rfl, by omega⟩, ⟨hV10, by omega⟩, ⟨sh, hV11, by omega⟩, ⟨hSv, bSv⟩, ⟨hN_26, bLm⟩, ⟨hN_27, bHh⟩, ⟨hN_28, bWd⟩, ⟨hN_29, bPr⟩, ⟨hN_30, bX⟩, ⟨hN_31, bY⟩, ⟨am, hV8, by omega, by omega⟩, hGP, (fun i hi => (congrFun (hfrA 5 (by decide)) i).trans (hSX i hi)), (fun i hi => (congrFun (hfrA 6 (by decide)) i).trans (hSY i hi)), (fun i hi => (congrFun (hfrA 13 (by decide)) i).trans (hKc i hi)), (fun i hi => (congrFun (hfrA 15 (by decide)) i).trans (hKp i hi)), congrArg (fun z => z + 0) hE, (fun t h1 h2 => (congrFun (hfrA 17 (by decide)) t).trans (hRB t h1 h2))⟩) (hP) (hD) hS
            · have c_33 : ¬ n ≤ k := fun h => c_33 ((nI_leI (a := n) (b := k) (by omega) (by omega)).mpr h)
              refine lv_aload_n hx hb dX5_step_114 rfl (lv_at hl 0 rfl) ?_
              refine va_get (D := (dC, dI)) (ci := 5) (v := .ref (h 3)) (C := RX5) (T := TX5) (N := 33) hx hb hts hin_X5 hown hK hP 0 rfl rfl 10 (by decide) hw7 (fun _ h9 => h9) rfl dX5_step_115 ?_
              refine lv_iload hx hb dX5_step_118 (lv_at hl 4 rfl) ?_
              refine lv_bipush (v := 90) hx hb dX5_step_120 (by decide) ?_
              refine lv_aload_n hx hb dX5_step_122 rfl (lv_at hl 0 rfl) ?_
              refine va_get (D := (dC, dI)) (ci := 5) (v := .ref (h 3)) (C := RX5) (T := TX5) (N := 33) hx hb hts hin_X5 hown hK hP 0 rfl rfl 10 (by decide) hw7 (fun _ h9 => h9) rfl dX5_step_123 ?_
              refine lv_iload hx hb dX5_step_126 (lv_at hl 4 rfl) ?_
              refine va_iald hx hb hK hP 3 0 rfl rfl (vp_in_nI (n := k) (N := 40) (by omega) (by decide)) dX5_step_128 ?_
              have hb_40 := bSv k (by omega)
              try dsimp only at hb_40
              refine lv_topi (fun x_41 ex_41 => ?_)
              obtain rfl : x_41 = nI ((grow So d k) k) := ex_41.trans ((congrArg (F1 3) (nI_clamp (n := k) (by omega))).trans (hSv k (by omega)))
              refine lv_aload_n hx hb dX5_step_129 rfl (lv_at hl 0 rfl) ?_
              refine va_get (D := (dC, dI)) (ci := 5) (v := .int (V 6)) (C := RX5) (T := TX5) (N := 33) hx hb hts hin_X5 hown hK hP 0 rfl rfl 6 (by decide) hw8 (fun _ h9 => h9) rfl dX5_step_130 ?_
              refine lv_topi (fun x_42 ex_42 => ?_)
              obtain rfl : x_42 = nI d := ex_42.trans (hV6)
              refine lv_iadd hx hb dX5_step_133 ?_
              refine lv_topi (fun x_43 ex_43 => ?_)
              obtain rfl : x_43 = nI (((grow So d k) k) + d) := ex_43.trans (nI_add ((grow So d k) k) d)
              refine va_mmin hx hb (hml.trans hl.1.symm) hown hw9 hw10 hw11 hw12 (Nat.le_of_ble_eq_true rfl) (Nat.le_of_ble_eq_true rfl) (Nat.le_of_ble_eq_true rfl) (Nat.le_of_ble_eq_true rfl) dX5_step_134 ?_
              refine lv_topi (fun x_44 ex_44 => ?_)
              obtain rfl : x_44 = nI (min 90 (((grow So d k) k) + d)) := ex_44.trans (mm_min (a := 90) (b := ((grow So d k) k) + d) (by omega) (by omega))
              refine va_iast hx hb hK hP hD hS 3 0 rfl rfl (vp_in_nI (n := k) (N := 40) (by omega) (by decide)) dX5_step_137 (fun H locs hP hD hS => ?_)
              obtain ⟨F_45, eF_45⟩ : ∃ z : Nat → Nat → Int32, z = va_up F1 3 (upd (F1 3) (nI k).toNatClampNeg (nI (min 90 (((grow So d k) k) + d)))) := ⟨_, rfl⟩
              have hP : va_P (dC, dI) vwCl (wM cI cZ cJ h F_45 G (va_up (va_up (va_up (va_up V 0 0) 4 (nI (min 200 (un + ((htA (pwA X Y n SX SY Hh So Wd nw 0) Lm n) / 100))))) 7 0) 5 ((V 5) + 0))) H := by rw [eF_45]; exact hP
              have hD : va_D A (wM cI cZ cJ h F_45 G (va_up (va_up (va_up (va_up V 0 0) 4 (nI (min 200 (un + ((htA (pwA X Y n SX SY Hh So Wd nw 0) Lm n) / 100))))) 7 0) 5 ((V 5) + 0))) := by rw [eF_45]; exact hD
              have hN_46 : ∀ i, i < 4 → F_45 4 i = nI (Lm i) := by rw [eF_45]; exact hN_26
              have hN_47 : ∀ i, i < 24 → F_45 7 i = nI (Hh i) := by rw [eF_45]; exact hN_27
              have hN_48 : ∀ i, i < 24 → F_45 8 i = nI (Wd i) := by rw [eF_45]; exact hN_28
              have hN_49 : ∀ i, i < 24 → F_45 9 i = nI (Pr i) := by rw [eF_45]; exact hN_29
              have hN_50 : ∀ i, i < n → F_45 1 i = nI (X i) := by rw [eF_45]; exact hN_30
              have hN_51 : ∀ i, i < n → F_45 2 i = nI (Y i) := by rw [eF_45]; exact hN_31
              obtain ⟨S_52, eS_52⟩ : ∃ z : Nat → Nat, z = nup (grow So d k) k (min 90 (((grow So d k) k) + d)) := ⟨_, rfl⟩
              have hN_53 : ∀ i, i < 40 → F_45 3 i = nI (S_52 i) := by rw [eF_45, eS_52]; show ∀ i, i < 40 → upd (F1 3) (nI k).toNatClampNeg (nI (min 90 (((grow So d k) k) + d))) i = nI _; exact nf_put hSv (nI_clamp (n := k) (by omega))
              have bN_54 : ∀ i, i < 40 → S_52 i ≤ 90 := by rw [eS_52]; exact nb_put bSv (by omega)
              refine lv_iinc (v := nI (k + 1)) (lv' := [(4, .int (nI (k + 1))), (0, .ref (h 0)), (1, .int 0), (2, .int (nI (min 200 (un + ((htA (pwA X Y n SX SY Hh So Wd nw 0) Lm n) / 100))))), (3, .int 0)]) hx hb dX5_step_138 hl (k := 4) rfl (nI_1 _) (by decide) rfl (fun ls hl => ?_)
              refine lv_goto (tgt := 105) hx hb dX5_step_141 (by decide) ?_
              have hb_55 : S_52 = grow So d (k + 1) := by rw [eS_52, grow_at]; exact grow_up1 So d k
              rw [hb_55] at hN_53 bN_54
              exact ih105 (k + 1) F_45 (by omega) hN_53 bN_54 (fun j hj => ((va_ne eF_45 (fun h => hj (by rw [h]; decide))).trans (hfr j hj))) (by omega) H locs ls hP hD hS (lv_sub hl [1, 2, 3, 4, 0] rfl)
        exact loop105 _ 0 F_6 (by omega) (by rw [grow_0]; exact hN_8) (by rw [grow_0]; exact bSo) (fun _ _ => rfl) (Nat.lt_succ_self _) H locs ls hP hD hS (lv_sub hl [3, 4, 2, 1, 0] rfl)
      · exact absurd c_25 (by decide)
    · exact absurd c_24 (by decide)
  · exact absurd c_23 (by decide)
def rm_X5_step1 : Room := { frames := 4, cells := 0, slots := 0, locals := 104 }
set_option maxHeartbeats 4000000 in
set_option maxRecDepth 100000 in
theorem c_X5_step1 (l : Launch) (dC : Nat → ClassId) (dI : Nat → Nat → Nat) (cI cZ cJ : ClassId) (h : Nat → Nat) (F : Nat → Nat → Int32) (G : Nat → Int64) (V : Nat → Int32) (n : Nat) (hV2 : V 2 = nI n) (bV2 : n ≤ 40) (nw : Nat) (hV3 : V 3 = nI nw) (bV3 : nw ≤ 23) (un : Nat) (hV4 : V 4 = nI un) (bV4 : un ≤ 200) (d : Nat) (hV6 : V 6 = nI d) (bV6 : d ≤ 20) (wm : Nat) (hV7 : V 7 = nI wm) (bV7 : wm ≤ 1) (pf : Nat) (hV10 : V 10 = nI pf) (bV10 : pf ≤ 24) (sh : Nat) (hV11 : V 11 = nI sh) (bV11 : sh ≤ 12) (So : Nat → Nat) (hSo : ∀ i, i < 40 → F 3 i = nI (So i)) (bSo : ∀ i, i < 40 → So i ≤ 90) (Lm : Nat → Nat) (hLm : ∀ i, i < 4 → F 4 i = nI (Lm i)) (bLm : ∀ i, i < 4 → Lm i ≤ 10000) (Hh : Nat → Nat) (hHh : ∀ i, i < 24 → F 7 i = nI (Hh i)) (bHh : ∀ i, i < 24 → Hh i ≤ 9) (Wd : Nat → Nat) (hWd : ∀ i, i < 24 → F 8 i = nI (Wd i)) (bWd : ∀ i, i < 24 → Wd i ≤ 99) (Pr : Nat → Nat) (hPr : ∀ i, i < 24 → F 9 i = nI (Pr i)) (bPr : ∀ i, i < 24 → Pr i ≤ 999) (X : Nat → Nat) (hX : ∀ i, i < n → F 1 i = nI (X i)) (bX : ∀ i, i < n → X i ≤ 14) (Y : Nat → Nat) (hY : ∀ i, i < n → F 2 i = nI (Y i)) (bY : ∀ i, i < n → Y i ≤ 14)   (ks am : Nat) (hV8 : V 8 = nI am - 1) (bam : am ≤ 41) (hks : am - 1 = ks) (SX SY Kc Kp : Nat → Int32) (er : Int32) (rb : Nat → Bool) (hGP : GP n X Y) (hSX : ∀ i, i < 24 → F 5 i = SX i) (hSY : ∀ i, i < 24 → F 6 i = SY i) (hKc : ∀ i, i < ks → F 13 i = Kc i) (hKp : ∀ i, i < 4 → F 15 i = Kp i) (hE : V 5 = er) (hRB : ∀ t, pf ≤ t → t < 24 → F 17 t = bI (rb t)) : CtI l (dC, dI) vwCl (tys3 cI cZ cJ) yX5_step wsX5_step rm_X5_step1 [.ref (h 0), .int 1] (wM cI cZ cJ h F G V) (S := (Nat → Nat → Int32) × (Nat → Int64) × (Nat → Int32)) (fun r u => (r = (bif decide (7 - 2 * wm ≤ min 200 (un + htA (pwA X Y n SX SY Hh So Wd nw 0) Lm n / 100)) then nI (5 * Pr nw) else (-1))) ∧ VM n d ks (bif decide (7 - 2 * wm ≤ min 200 (un + htA (pwA X Y n SX SY Hh So Wd nw 0) Lm n / 100)) then (nw + 1) % 24 else nw) (bif decide (7 - 2 * wm ≤ min 200 (un + htA (pwA X Y n SX SY Hh So Wd nw 0) Lm n / 100)) then (min 200 (un + htA (pwA X Y n SX SY Hh So Wd nw 0) Lm n / 100)) - (7 - 2 * wm) else un) (bif decide (7 - 2 * wm ≤ min 200 (un + htA (pwA X Y n SX SY Hh So Wd nw 0) Lm n / 100)) then 1 else wm) pf (bif decide (7 - 2 * wm ≤ min 200 (un + htA (pwA X Y n SX SY Hh So Wd nw 0) Lm n / 100)) then grow So d n else So) Hh Wd Lm Pr X Y SX SY Kc Kp (bif decide (7 - 2 * wm ≤ min 200 (un + htA (pwA X Y n SX SY Hh So Wd nw 0) Lm n / 100)) then er + nI (5 * Pr nw) else er) rb u.1 u.2.2) (fun u => wM cI cZ cJ h u.1 u.2.1 u.2.2) 0 0 := by
  refine ct_I (cc := cX5_step) (maxL := 5) (ty := .int) (own := RX5) (by decide) rfl rfl (Nat.le_of_ble_eq_true rfl) (lv := [(0, .ref (h 0)), (1, .int 1)]) rfl ?_
  intro p e s m args below meth c A Q ls fx hK hP hD hA hl hret
  obtain ⟨hx, hb, hml, hown, hts⟩ := id fx
  have hS : va_S A s.heap s.heap [] := va_S.rf
  have hw0 := hts (.fieldLink RX5 1 "MirrorTowerModel" "thrown" "I") (by decide +kernel)
  have hin_X5 : ∀ w ∈ u_ws RX5 TX5 33, w ∈ wsX5_step := by decide +kernel
  have hw2 := hts (.fieldLink RX5 168 "MirrorTowerModel" "store" "I") (by decide +kernel)
  have hw3 := hts (.fieldLink RX5 154 "MirrorTowerModel" "now" "I") (by decide +kernel)
  have hw4 := hts (.fieldLink RX5 171 "MirrorTowerModel" "isWarm" "Z") (by decide +kernel)
  have hw5 := hts (.fieldLink RX5 44 "MirrorTowerModel" "price" "[I") (by decide +kernel)
  have hw6 := hts (.fieldLink RX5 175 "MirrorTowerModel" "earned" "I") (by decide +kernel)
  have hw7 := hts (.fieldLink RX5 91 "MirrorTowerModel" "mirrors" "I") (by decide +kernel)
  have hw8 := hts (.fieldLink RX5 26 "MirrorTowerModel" "soil" "[I") (by decide +kernel)
  have hw9 := hts (.fieldLink RX5 16 "MirrorTowerModel" "dust" "I") (by decide +kernel)
  have hw10 := hts (.methodLink RX5 129 Lib.Math.min.name) (by decide +kernel)
  have hw11 := hts (.static Lib.Math.min.name) (by decide +kernel)
  have hw12 := hts (.initialized "java/lang/Math") (by decide +kernel)
  have hw13 := hts (.code Lib.Math.min.name Lib.Math.min.code 2 (some .int)) (by decide +kernel)
  obtain ⟨H, hH⟩ : ∃ H, H = s.heap := ⟨_, rfl⟩
  rw [← hH] at hP ⊢
  have hS : va_S A s.heap H [] := by rw [hH]; exact hS
  generalize ([] : List Loc) = locs at hS ⊢
  refine lv_aload_n hx hb dX5_step_0 rfl (lv_at hl 0 rfl) ?_
  refine lv_iconst (v := 0) hx hb dX5_step_1 (by decide) ?_
  refine va_put (D := (dC, dI)) (ci := 5) (v := .int 0) (ty := .int) (C := RX5) (T := TX5) (N := 33) hx hb hts hin_X5 tyX5 tyX5_ok nmX5 hown hK hP hD hS 0 rfl rfl 0 (by decide) hw0 (fun _ h9 => h9) rfl (by decide +kernel) rfl rfl (Nat.le_of_ble_eq_true rfl) dX5_step_2 (fun H locs hP hD hS => ?_)
  have hP : va_P (dC, dI) vwCl (wM cI cZ cJ h F G (va_up V 0 0)) H := hP
  have hD : va_D A (wM cI cZ cJ h F G (va_up V 0 0)) := hD
  refine lv_aload_n hx hb dX5_step_5 rfl (lv_at hl 0 rfl) ?_
  refine va_get (D := (dC, dI)) (ci := 5) (v := .int (V 4)) (C := RX5) (T := TX5) (N := 33) hx hb hts hin_X5 hown hK hP 0 rfl rfl 4 (by decide) hw2 (fun _ h9 => h9) rfl dX5_step_6 ?_
  refine lv_topi (fun x_1 ex_1 => ?_)
  obtain rfl : x_1 = nI un := ex_1.trans (hV4)
  refine lv_aload_n hx hb dX5_step_9 rfl (lv_at hl 0 rfl) ?_
  refine lv_aload_n hx hb dX5_step_10 rfl (lv_at hl 0 rfl) ?_
  refine va_get (D := (dC, dI)) (ci := 5) (v := .int (V 3)) (C := RX5) (T := TX5) (N := 33) hx hb hts hin_X5 hown hK hP 0 rfl rfl 3 (by decide) hw3 (fun _ h9 => h9) rfl dX5_step_11 ?_
  refine lv_topi (fun x_2 ex_2 => ?_)
  obtain rfl : x_2 = nI nw := ex_2.trans (hV3)
  refine lv_iconst (v := 0) hx hb dX5_step_14 (by decide) ?_
  refine cw_Vi (As := [.int (nI nw), .int 0]) (rest := [.int (nI un)]) (c_X5_aims l dC dI cI cZ cJ h F G (va_up V 0 0) n hV2 (by omega) So hSo bSo Hh hHh bHh Wd hWd bWd Lm hLm bLm X hX bX Y hY bY nw 0 (by omega) (by omega) SX SY (fun i hi => (congrFun (Eq.refl (F 5)) i).trans (hSX i hi)) (fun i hi => (congrFun (Eq.refl (F 6)) i).trans (hSY i hi)) hGP) fx (cwV 2 hts gX5_step_X5_aims rfl rfl rfl (by decide +kernel) ⟨Nat.le_of_ble_eq_true rfl, Nat.le_of_ble_eq_true rfl⟩) hK hP hD hS hA 0 rfl rfl rfl rfl hl.1 rfl (Nat.le_of_ble_eq_true rfl) dX5_step_15 ⟨Nat.le_of_ble_eq_true rfl, Nat.le_of_ble_eq_true rfl⟩ (fun r_3 u_4 H locs hw_5 hP hD hS => ?_)
  obtain ⟨F_6, rfl⟩ : ∃ z, z = u_4 := ⟨_, rfl⟩
  have hf_7 : ∀ j, j ∉ ([10, 11, 12, 14] : List Nat) → F_6 j = F j := hw_5.2.1
  have hP : va_P (dC, dI) vwCl (wM cI cZ cJ h F_6 G (va_up V 0 0)) H := hP
  have hD : va_D A (wM cI cZ cJ h F_6 G (va_up V 0 0)) := hD
  have hN_8 : ∀ i, i < 40 → F_6 3 i = nI (So i) := by rw [hf_7 3 (by decide)]; exact hSo
  have hN_9 : ∀ i, i < 4 → F_6 4 i = nI (Lm i) := by rw [hf_7 4 (by decide)]; exact hLm
  have hN_10 : ∀ i, i < 24 → F_6 7 i = nI (Hh i) := by rw [hf_7 7 (by decide)]; exact hHh
  have hN_11 : ∀ i, i < 24 → F_6 8 i = nI (Wd i) := by rw [hf_7 8 (by decide)]; exact hWd
  have hN_12 : ∀ i, i < 24 → F_6 9 i = nI (Pr i) := by rw [hf_7 9 (by decide)]; exact hPr
  have hN_13 : ∀ i, i < n → F_6 1 i = nI (X i) := by rw [hf_7 1 (by decide)]; exact hX
  have hN_14 : ∀ i, i < n → F_6 2 i = nI (Y i) := by rw [hf_7 2 (by decide)]; exact hY
  have hb_15 : htA (pwA X Y n SX SY Hh So Wd nw 0) Lm n ≤ 4000 := hA_le bV2 (fun i _ => pwA_le (bHh nw (by omega)))
  have hN_16 : ∀ i, i < 4 → F_6 12 i = nI ((lA (pwA X Y n SX SY Hh So Wd nw 0) Lm n) i) := (hw_5.2.2).1
  have bN_17 : ∀ i, i < 4 → (lA (pwA X Y n SX SY Hh So Wd nw 0) Lm n) i ≤ 10000 := (hw_5.2.2).2.1
  have hC_18 : ∀ i, i < n → F_6 14 i = cA (pwA X Y n SX SY Hh So Wd nw 0) Lm n i := (hw_5.2.2).2.2
  obtain rfl : r_3 = nI (htA (pwA X Y n SX SY Hh So Wd nw 0) Lm n) := hw_5.1
  refine lv_bipush (v := 100) hx hb dX5_step_18 (by decide) ?_
  refine lv_idiv hx hb dX5_step_20 (by decide) ?_
  refine lv_topi (fun x_19 ex_19 => ?_)
  obtain rfl : x_19 = nI ((htA (pwA X Y n SX SY Hh So Wd nw 0) Lm n) / 100) := ex_19.trans (pk_div (a := htA (pwA X Y n SX SY Hh So Wd nw 0) Lm n) (d := 100) (by omega) (by omega) (by omega))
  refine cw_Si (As := [.int (nI un), .int (nI ((htA (pwA X Y n SX SY Hh So Wd nw 0) Lm n) / 100))]) (rest := []) (c_X5_filled l dC dI cI cZ cJ (wM cI cZ cJ h F_6 G (va_up V 0 0)) un ((htA (pwA X Y n SX SY Hh So Wd nw 0) Lm n) / 100) (by omega)) fx (va_cwS 2 hts gX5_step_X5_filled rfl rfl rfl (by decide +kernel) ⟨Nat.le_of_ble_eq_true rfl, Nat.le_of_ble_eq_true rfl⟩) hK hP hD hS hA rfl hl.1 rfl (Nat.le_of_ble_eq_true rfl) dX5_step_21 ⟨Nat.le_of_ble_eq_true rfl, Nat.le_of_ble_eq_true rfl⟩ (fun r_20 u_21 H locs hw_22 hP hD hS => ?_)
  have hP : va_P (dC, dI) vwCl (wM cI cZ cJ h F_6 G (va_up V 0 0)) H := hP
  have hD : va_D A (wM cI cZ cJ h F_6 G (va_up V 0 0)) := hD
  obtain rfl : r_20 = nI (min 200 (un + ((htA (pwA X Y n SX SY Hh So Wd nw 0) Lm n) / 100))) := hw_22
  refine lv_istore_n (lv' := [(2, .int (nI (min 200 (un + ((htA (pwA X Y n SX SY Hh So Wd nw 0) Lm n) / 100))))), (0, .ref (h 0)), (1, .int 1)]) hx hb dX5_step_24 rfl hl (by decide) rfl (fun ls hl => ?_)
  refine lv_iload_n hx hb dX5_step_25 rfl (lv_at hl 2 rfl) ?_
  refine lv_if_eq (tgt := 46) hx hb dX5_step_26 (by decide) (fun c_23 => ?_) (fun c_23 => ?_)
  · exact absurd c_23 (by decide)
  · refine lv_iload_n hx hb dX5_step_29 rfl (lv_at hl 0 rfl) ?_
    refine lv_aload_n hx hb dX5_step_30 rfl (lv_at hl 1 rfl) ?_
    refine va_get (D := (dC, dI)) (ci := 5) (v := .int (V 7)) (C := RX5) (T := TX5) (N := 33) hx hb hts hin_X5 hown hK hP 0 rfl rfl 7 (by decide) hw4 (fun _ h9 => h9) rfl dX5_step_31 ?_
    refine lv_topi (fun x_24 ex_24 => ?_)
    obtain rfl : x_24 = nI wm := ex_24.trans (hV7)
    refine cw_Si (As := [.int (nI wm)]) (rest := [.int (nI (min 200 (un + ((htA (pwA X Y n SX SY Hh So Wd nw 0) Lm n) / 100))))]) (c_X5_takes l dC dI cI cZ cJ (wM cI cZ cJ h F_6 G (va_up V 0 0)) wm (by omega)) fx (va_cwS 1 hts gX5_step_X5_takes rfl rfl rfl (by decide +kernel) ⟨Nat.le_of_ble_eq_true rfl, Nat.le_of_ble_eq_true rfl⟩) hK hP hD hS hA rfl hl.1 rfl (Nat.le_of_ble_eq_true rfl) dX5_step_34 ⟨Nat.le_of_ble_eq_true rfl, Nat.le_of_ble_eq_true rfl⟩ (fun r_25 u_26 H locs hw_27 hP hD hS => ?_)
    have hP : va_P (dC, dI) vwCl (wM cI cZ cJ h F_6 G (va_up V 0 0)) H := hP
    have hD : va_D A (wM cI cZ cJ h F_6 G (va_up V 0 0)) := hD
    obtain rfl : r_25 = nI (7 - 2 * wm) := hw_27
    refine lv_icmp_ge (tgt := 46) hx hb dX5_step_37 (by decide) (fun c_28 => ?_) (fun c_28 => ?_)
    · have c_28 : (7 - 2 * wm) ≤ (min 200 (un + ((htA (pwA X Y n SX SY Hh So Wd nw 0) Lm n) / 100))) := (nI_leI (a := 7 - 2 * wm) (b := min 200 (un + ((htA (pwA X Y n SX SY Hh So Wd nw 0) Lm n) / 100))) (by omega) (by omega)).mp c_28
      refine lv_iload_n hx hb dX5_step_46 rfl (lv_at hl 2 rfl) ?_
      refine lv_if_eq (tgt := 64) hx hb dX5_step_47 (by decide) (fun c_29 => ?_) (fun c_29 => ?_)
      · exact absurd c_29 (by decide)
      · refine lv_iconst (v := 5) hx hb dX5_step_50 (by decide) ?_
        refine lv_aload_n hx hb dX5_step_51 rfl (lv_at hl 1 rfl) ?_
        refine va_get (D := (dC, dI)) (ci := 5) (v := .ref (h 9)) (C := RX5) (T := TX5) (N := 33) hx hb hts hin_X5 hown hK hP 0 rfl rfl 16 (by decide) hw5 (fun _ h9 => h9) rfl dX5_step_52 ?_
        refine lv_aload_n hx hb dX5_step_55 rfl (lv_at hl 1 rfl) ?_
        refine va_get (D := (dC, dI)) (ci := 5) (v := .int (V 3)) (C := RX5) (T := TX5) (N := 33) hx hb hts hin_X5 hown hK hP 0 rfl rfl 3 (by decide) hw3 (fun _ h9 => h9) rfl dX5_step_56 ?_
        refine lv_topi (fun x_30 ex_30 => ?_)
        obtain rfl : x_30 = nI nw := ex_30.trans (hV3)
        refine va_iald hx hb hK hP 9 0 rfl rfl (vp_in_nI (n := nw) (N := 24) (by omega) (by decide)) dX5_step_59 ?_
        have hb_31 := bPr nw (by omega)
        refine lv_topi (fun x_32 ex_32 => ?_)
        obtain rfl : x_32 = nI (Pr nw) := ex_32.trans ((congrArg (F_6 9) (nI_clamp (n := nw) (by omega))).trans (hN_12 nw (by omega)))
        refine lv_imul hx hb dX5_step_60 ?_
        refine lv_topi (fun x_33 ex_33 => ?_)
        obtain rfl : x_33 = nI (5 * (Pr nw)) := ex_33.trans (pk_mul 5 (Pr nw))
        refine lv_goto (tgt := 65) hx hb dX5_step_61 (by decide) ?_
        refine lv_istore_n (lv' := [(3, .int (nI (5 * (Pr nw)))), (2, .int (nI (min 200 (un + ((htA (pwA X Y n SX SY Hh So Wd nw 0) Lm n) / 100))))), (0, .ref (h 0)), (1, .int 1)]) hx hb dX5_step_65 rfl hl (by decide) rfl (fun ls hl => ?_)
        refine lv_aload_n hx hb dX5_step_66 rfl (lv_at hl 2 rfl) ?_
        refine lv_iload_n hx hb dX5_step_67 rfl (lv_at hl 3 rfl) ?_
        refine lv_if_eq (tgt := 83) hx hb dX5_step_68 (by decide) (fun c_34 => ?_) (fun c_34 => ?_)
        · exact absurd c_34 (by decide)
        · refine lv_iload_n hx hb dX5_step_71 rfl (lv_at hl 1 rfl) ?_
          refine lv_aload_n hx hb dX5_step_72 rfl (lv_at hl 2 rfl) ?_
          refine va_get (D := (dC, dI)) (ci := 5) (v := .int (V 7)) (C := RX5) (T := TX5) (N := 33) hx hb hts hin_X5 hown hK hP 0 rfl rfl 7 (by decide) hw4 (fun _ h9 => h9) rfl dX5_step_73 ?_
          refine lv_topi (fun x_35 ex_35 => ?_)
          obtain rfl : x_35 = nI wm := ex_35.trans (hV7)
          refine cw_Si (As := [.int (nI wm)]) (rest := [.int (nI (min 200 (un + ((htA (pwA X Y n SX SY Hh So Wd nw 0) Lm n) / 100)))), .ref (h 0)]) (c_X5_takes l dC dI cI cZ cJ (wM cI cZ cJ h F_6 G (va_up V 0 0)) wm (by omega)) fx (va_cwS 1 hts gX5_step_X5_takes rfl rfl rfl (by decide +kernel) ⟨Nat.le_of_ble_eq_true rfl, Nat.le_of_ble_eq_true rfl⟩) hK hP hD hS hA rfl hl.1 rfl (Nat.le_of_ble_eq_true rfl) dX5_step_76 ⟨Nat.le_of_ble_eq_true rfl, Nat.le_of_ble_eq_true rfl⟩ (fun r_36 u_37 H locs hw_38 hP hD hS => ?_)
          have hP : va_P (dC, dI) vwCl (wM cI cZ cJ h F_6 G (va_up V 0 0)) H := hP
          have hD : va_D A (wM cI cZ cJ h F_6 G (va_up V 0 0)) := hD
          obtain rfl : r_36 = nI (7 - 2 * wm) := hw_38
          refine lv_isub hx hb dX5_step_79 ?_
          refine lv_topi (fun x_39 ex_39 => ?_)
          obtain rfl : x_39 = nI ((min 200 (un + ((htA (pwA X Y n SX SY Hh So Wd nw 0) Lm n) / 100))) - (7 - 2 * wm)) := ex_39.trans (pk_sub (a := min 200 (un + ((htA (pwA X Y n SX SY Hh So Wd nw 0) Lm n) / 100))) (b := 7 - 2 * wm) (by omega))
          refine lv_goto (tgt := 84) hx hb dX5_step_80 (by decide) ?_
          refine va_put (D := (dC, dI)) (ci := 5) (v := .int (nI ((min 200 (un + ((htA (pwA X Y n SX SY Hh So Wd nw 0) Lm n) / 100))) - (7 - 2 * wm)))) (ty := .int) (C := RX5) (T := TX5) (N := 33) hx hb hts hin_X5 tyX5 tyX5_ok nmX5 hown hK hP hD hS 0 rfl rfl 4 (by decide) hw2 (fun _ h9 => h9) rfl (by decide +kernel) rfl rfl (Nat.le_of_ble_eq_true rfl) dX5_step_84 (fun H locs hP hD hS => ?_)
          have hP : va_P (dC, dI) vwCl (wM cI cZ cJ h F_6 G (va_up (va_up V 0 0) 4 (nI ((min 200 (un + ((htA (pwA X Y n SX SY Hh So Wd nw 0) Lm n) / 100))) - (7 - 2 * wm))))) H := hP
          have hD : va_D A (wM cI cZ cJ h F_6 G (va_up (va_up V 0 0) 4 (nI ((min 200 (un + ((htA (pwA X Y n SX SY Hh So Wd nw 0) Lm n) / 100))) - (7 - 2 * wm))))) := hD
          refine lv_aload_n hx hb dX5_step_87 rfl (lv_at hl 2 rfl) ?_
          refine lv_iload_n hx hb dX5_step_88 rfl (lv_at hl 3 rfl) ?_
          refine va_put (D := (dC, dI)) (ci := 5) (v := .int 1) (ty := .boolean) (C := RX5) (T := TX5) (N := 33) hx hb hts hin_X5 tyX5 tyX5_ok nmX5 hown hK hP hD hS 0 rfl rfl 7 (by decide) hw4 (fun _ h9 => h9) rfl (by decide +kernel) rfl rfl (Nat.le_of_ble_eq_true rfl) dX5_step_89 (fun H locs hP hD hS => ?_)
          have hP : va_P (dC, dI) vwCl (wM cI cZ cJ h F_6 G (va_up (va_up (va_up V 0 0) 4 (nI ((min 200 (un + ((htA (pwA X Y n SX SY Hh So Wd nw 0) Lm n) / 100))) - (7 - 2 * wm)))) 7 1)) H := hP
          have hD : va_D A (wM cI cZ cJ h F_6 G (va_up (va_up (va_up V 0 0) 4 (nI ((min 200 (un + ((htA (pwA X Y n SX SY Hh So Wd nw 0) Lm n) / 100))) - (7 - 2 * wm)))) 7 1)) := hD
          refine lv_aload_n hx hb dX5_step_92 rfl (lv_at hl 2 rfl) ?_
          refine lv_dup hx hb dX5_step_93 rfl ?_
          refine va_get (D := (dC, dI)) (ci := 5) (v := .int (V 5)) (C := RX5) (T := TX5) (N := 33) hx hb hts hin_X5 hown hK hP 0 rfl rfl 5 (by decide) hw6 (fun _ h9 => h9) rfl dX5_step_94 ?_
          refine lv_iload_n hx hb dX5_step_97 rfl (lv_at hl 0 rfl) ?_
          refine lv_iadd hx hb dX5_step_98 ?_
          refine va_put (D := (dC, dI)) (ci := 5) (v := .int ((V 5) + (nI (5 * (Pr nw))))) (ty := .int) (C := RX5) (T := TX5) (N := 33) hx hb hts hin_X5 tyX5 tyX5_ok nmX5 hown hK hP hD hS 0 rfl rfl 5 (by decide) hw6 (fun _ h9 => h9) rfl (by decide +kernel) rfl rfl (Nat.le_of_ble_eq_true rfl) dX5_step_99 (fun H locs hP hD hS => ?_)
          have hP : va_P (dC, dI) vwCl (wM cI cZ cJ h F_6 G (va_up (va_up (va_up (va_up V 0 0) 4 (nI ((min 200 (un + ((htA (pwA X Y n SX SY Hh So Wd nw 0) Lm n) / 100))) - (7 - 2 * wm)))) 7 1) 5 ((V 5) + (nI (5 * (Pr nw)))))) H := hP
          have hD : va_D A (wM cI cZ cJ h F_6 G (va_up (va_up (va_up (va_up V 0 0) 4 (nI ((min 200 (un + ((htA (pwA X Y n SX SY Hh So Wd nw 0) Lm n) / 100))) - (7 - 2 * wm)))) 7 1) 5 ((V 5) + (nI (5 * (Pr nw)))))) := hD
          refine lv_iconst (v := 0) hx hb dX5_step_102 (by decide) ?_
          refine lv_istore (lv' := [(4, .int 0), (3, .int (nI (5 * (Pr nw)))), (2, .int (nI (min 200 (un + ((htA (pwA X Y n SX SY Hh So Wd nw 0) Lm n) / 100))))), (0, .ref (h 0)), (1, .int 1)]) hx hb dX5_step_103 hl (by decide) rfl (fun ls hl => ?_)
          have loop105 : ∀ (fu : Nat) (k : Nat) (F1 : Nat → Nat → Int32), (k ≤ n) → (∀ i, i < 40 → F1 3 i = nI (grow So d k i)) → (∀ i, i < 40 → grow So d k i ≤ 90) → (∀ j, j ∉ ([3] : List Nat) → F1 j = F_6 j) → (n - k) < fu → ∀ (H : Heap) (locs : List Loc) (ls : Array Slot), va_P (dC, dI) vwCl (wM cI cZ cJ h F1 G (va_up (va_up (va_up (va_up V 0 0) 4 (nI ((min 200 (un + ((htA (pwA X Y n SX SY Hh So Wd nw 0) Lm n) / 100))) - (7 - 2 * wm)))) 7 1) 5 ((V 5) + (nI (5 * (Pr nw)))))) H → va_D A (wM cI cZ cJ h F1 G (va_up (va_up (va_up (va_up V 0 0) 4 (nI ((min 200 (un + ((htA (pwA X Y n SX SY Hh So Wd nw 0) Lm n) / 100))) - (7 - 2 * wm)))) 7 1) 5 ((V 5) + (nI (5 * (Pr nw)))))) → va_S A s.heap H locs → lv_has ls 5 [(0, .ref (h 0)), (1, .int 1), (2, .int (nI (min 200 (un + ((htA (pwA X Y n SX SY Hh So Wd nw 0) Lm n) / 100))))), (3, .int (nI (5 * (Pr nw)))), (4, .int (nI k))] → W p l e rm_X5_step1 s m args below meth c H locs 0 0 Q (F0 m 105 ls []) := by
            intro fu
            induction fu with
            | zero => intro k F1 hk hSv bSv hfr hn_; exact absurd hn_ (Nat.not_lt_zero _)
            | succ fu ih105 =>
              intro k F1 hk hSv bSv hfr hn_ H locs ls hP hD hS hl
              have hN_40 : ∀ i, i < 4 → F1 4 i = nI (Lm i) := by rw [hfr 4 (by decide)]; exact hN_9
              have hN_41 : ∀ i, i < 24 → F1 7 i = nI (Hh i) := by rw [hfr 7 (by decide)]; exact hN_10
              have hN_42 : ∀ i, i < 24 → F1 8 i = nI (Wd i) := by rw [hfr 8 (by decide)]; exact hN_11
              have hN_43 : ∀ i, i < 24 → F1 9 i = nI (Pr i) := by rw [hfr 9 (by decide)]; exact hN_12
              have hN_44 : ∀ i, i < n → F1 1 i = nI (X i) := by rw [hfr 1 (by decide)]; exact hN_13
              have hN_45 : ∀ i, i < n → F1 2 i = nI (Y i) := by rw [hfr 2 (by decide)]; exact hN_14
              have hfrA : ∀ j, j ∉ ([3, 10, 11, 12, 14] : List Nat) → F1 j = F j := fun j hj => (hfr j (fun z => hj ((by decide : ∀ x ∈ ([3] : List Nat), x ∈ ([3, 10, 11, 12, 14] : List Nat)) j z))).trans (hf_7 j (fun z => hj ((by decide : ∀ x ∈ ([10, 11, 12, 14] : List Nat), x ∈ ([3, 10, 11, 12, 14] : List Nat)) j z)))
              refine lv_iload hx hb dX5_step_105 (lv_at hl 4 rfl) ?_
              refine lv_aload_n hx hb dX5_step_107 rfl (lv_at hl 0 rfl) ?_
              refine va_get (D := (dC, dI)) (ci := 5) (v := .int (V 2)) (C := RX5) (T := TX5) (N := 33) hx hb hts hin_X5 hown hK hP 0 rfl rfl 2 (by decide) hw7 (fun _ h9 => h9) rfl dX5_step_108 ?_
              refine lv_topi (fun x_46 ex_46 => ?_)
              obtain rfl : x_46 = nI n := ex_46.trans (hV2)
              refine lv_icmp_ge (tgt := 144) hx hb dX5_step_111 (by decide) (fun c_47 => ?_) (fun c_47 => ?_)
              · have c_47 : n ≤ k := (nI_leI (a := n) (b := k) (by omega) (by omega)).mp c_47
                refine lv_aload_n hx hb dX5_step_144 rfl (lv_at hl 0 rfl) ?_
                refine lv_aload_n hx hb dX5_step_145 rfl (lv_at hl 0 rfl) ?_
                refine va_get (D := (dC, dI)) (ci := 5) (v := .int (V 3)) (C := RX5) (T := TX5) (N := 33) hx hb hts hin_X5 hown hK hP 0 rfl rfl 3 (by decide) hw3 (fun _ h9 => h9) rfl dX5_step_146 ?_
                refine lv_topi (fun x_48 ex_48 => ?_)
                obtain rfl : x_48 = nI nw := ex_48.trans (hV3)
                refine lv_iconst (v := 1) hx hb dX5_step_149 (by decide) ?_
                refine lv_iadd hx hb dX5_step_150 ?_
                refine lv_topi (fun x_49 ex_49 => ?_)
                obtain rfl : x_49 = nI (nw + 1) := ex_49.trans (nI_add nw 1)
                refine lv_bipush (v := 24) hx hb dX5_step_151 (by decide) ?_
                refine lv_irem hx hb dX5_step_153 (by decide) ?_
                refine lv_topi (fun x_50 ex_50 => ?_)
                obtain rfl : x_50 = nI ((nw + 1) % 24) := ex_50.trans (pk_rem (a := nw + 1) (d := 24) (by omega) (by omega) (by omega))
                refine va_put (D := (dC, dI)) (ci := 5) (v := .int (nI ((nw + 1) % 24))) (ty := .int) (C := RX5) (T := TX5) (N := 33) hx hb hts hin_X5 tyX5 tyX5_ok nmX5 hown hK hP hD hS 0 rfl rfl 3 (by decide) hw3 (fun _ h9 => h9) rfl (by decide +kernel) rfl rfl (Nat.le_of_ble_eq_true rfl) dX5_step_154 (fun H locs hP hD hS => ?_)
                have hP : va_P (dC, dI) vwCl (wM cI cZ cJ h F1 G (va_up (va_up (va_up (va_up (va_up V 0 0) 4 (nI ((min 200 (un + ((htA (pwA X Y n SX SY Hh So Wd nw 0) Lm n) / 100))) - (7 - 2 * wm)))) 7 1) 5 ((V 5) + (nI (5 * (Pr nw))))) 3 (nI ((nw + 1) % 24)))) H := hP
                have hD : va_D A (wM cI cZ cJ h F1 G (va_up (va_up (va_up (va_up (va_up V 0 0) 4 (nI ((min 200 (un + ((htA (pwA X Y n SX SY Hh So Wd nw 0) Lm n) / 100))) - (7 - 2 * wm)))) 7 1) 5 ((V 5) + (nI (5 * (Pr nw))))) 3 (nI ((nw + 1) % 24)))) := hD
                refine lv_aload_n hx hb dX5_step_157 rfl (lv_at hl 0 rfl) ?_
                refine lv_iload_n hx hb dX5_step_158 rfl (lv_at hl 3 rfl) ?_
                refine cw_Vi (As := [.int (nI (5 * (Pr nw)))]) (rest := []) (c_X5_done l dC dI cI cZ cJ h F1 G (va_up (va_up (va_up (va_up (va_up V 0 0) 4 (nI ((min 200 (un + ((htA (pwA X Y n SX SY Hh So Wd nw 0) Lm n) / 100))) - (7 - 2 * wm)))) 7 1) 5 ((V 5) + (nI (5 * (Pr nw))))) 3 (nI ((nw + 1) % 24))) (nI (5 * (Pr nw)))) fx (cwV 1 hts gX5_step_X5_done rfl rfl rfl (by decide +kernel) ⟨Nat.le_of_ble_eq_true rfl, Nat.le_of_ble_eq_true rfl⟩) hK hP hD hS hA 0 rfl rfl rfl rfl hl.1 rfl (Nat.le_of_ble_eq_true rfl) dX5_step_159 ⟨Nat.le_of_ble_eq_true rfl, Nat.le_of_ble_eq_true rfl⟩ (fun r_51 u_52 H locs hw_53 hP hD hS => ?_)
                have hP : va_P (dC, dI) vwCl (wM cI cZ cJ h F1 G (va_up (va_up (va_up (va_up (va_up (va_up V 0 0) 4 (nI ((min 200 (un + ((htA (pwA X Y n SX SY Hh So Wd nw 0) Lm n) / 100))) - (7 - 2 * wm)))) 7 1) 5 ((V 5) + (nI (5 * (Pr nw))))) 3 (nI ((nw + 1) % 24))) 1 0)) H := hP
                have hD : va_D A (wM cI cZ cJ h F1 G (va_up (va_up (va_up (va_up (va_up (va_up V 0 0) 4 (nI ((min 200 (un + ((htA (pwA X Y n SX SY Hh So Wd nw 0) Lm n) / 100))) - (7 - 2 * wm)))) 7 1) 5 ((V 5) + (nI (5 * (Pr nw))))) 3 (nI ((nw + 1) % 24))) 1 0)) := hD
                obtain rfl : r_51 = nI (5 * (Pr nw)) := hw_53
                exact hret (nI (5 * (Pr nw))) (F1, G, va_up (va_up (va_up (va_up (va_up (va_up V 0 0) 4 (nI ((min 200 (un + ((htA (pwA X Y n SX SY Hh So Wd nw 0) Lm n) / 100))) - (7 - 2 * wm)))) 7 1) 5 ((V 5) + (nI (5 * (Pr nw))))) 3 (nI ((nw + 1) % 24))) 1 0) H locs 162 ls rfl dX5_step_162 (by
                              have hk_ : k = n := by omega
                              rw [hk_] at hSv bSv
                              have hc_ : decide (7 - 2 * wm ≤ min 200 (un + htA (pwA X Y n SX SY Hh So Wd nw 0) Lm n / 100)) = true := decide_eq_true (by omega)
                              refine ⟨?_, ?_⟩
                              · (try simp only [hc_, cond_true, cond_false])
                                first | done | exact rfl
                              · (try simp only [hc_, cond_true, cond_false])
                                exact ⟨⟨hV2, by omega⟩, ⟨rfl, by omega⟩, ⟨rfl, by omega⟩, ⟨hV6, by omega⟩, ⟨rfl, by omega⟩, ⟨hV10, by omega⟩, ⟨sh, hV11, by omega⟩, ⟨hSv, bSv⟩, ⟨hN_40, bLm⟩, ⟨hN_41, bHh⟩, ⟨hN_42, bWd⟩, ⟨hN_43, bPr⟩, ⟨hN_44, bX⟩, ⟨hN_45, bY⟩, ⟨am, hV8, by omega, by omega⟩, hGP, (fun i hi => (congrFun (hfrA 5 (by decide)) i).trans (hSX i hi)), (fun i hi => (congrFun (hfrA 6 (by decide)) i).trans (hSY i hi)), (fun i hi => (congrFun (hfrA 13 (by decide)) i).trans (hKc i hi)), (fun i hi => (congrFun (hfrA 15 (by decide)) i).trans (hKp i hi)), congrArg (fun z => z + nI (5 * Pr nw)) hE, (fun t h1 h2 => (congrFun (hfrA 17 (by decide)) t).trans (hRB t h1 h2))⟩) (hP) (hD) hS
              · have c_47 : ¬ n ≤ k := fun h => c_47 ((nI_leI (a := n) (b := k) (by omega) (by omega)).mpr h)
                refine lv_aload_n hx hb dX5_step_114 rfl (lv_at hl 0 rfl) ?_
                refine va_get (D := (dC, dI)) (ci := 5) (v := .ref (h 3)) (C := RX5) (T := TX5) (N := 33) hx hb hts hin_X5 hown hK hP 0 rfl rfl 10 (by decide) hw8 (fun _ h9 => h9) rfl dX5_step_115 ?_
                refine lv_iload hx hb dX5_step_118 (lv_at hl 4 rfl) ?_
                refine lv_bipush (v := 90) hx hb dX5_step_120 (by decide) ?_
                refine lv_aload_n hx hb dX5_step_122 rfl (lv_at hl 0 rfl) ?_
                refine va_get (D := (dC, dI)) (ci := 5) (v := .ref (h 3)) (C := RX5) (T := TX5) (N := 33) hx hb hts hin_X5 hown hK hP 0 rfl rfl 10 (by decide) hw8 (fun _ h9 => h9) rfl dX5_step_123 ?_
                refine lv_iload hx hb dX5_step_126 (lv_at hl 4 rfl) ?_
                refine va_iald hx hb hK hP 3 0 rfl rfl (vp_in_nI (n := k) (N := 40) (by omega) (by decide)) dX5_step_128 ?_
                have hb_54 := bSv k (by omega)
                try dsimp only at hb_54
                refine lv_topi (fun x_55 ex_55 => ?_)
                obtain rfl : x_55 = nI ((grow So d k) k) := ex_55.trans ((congrArg (F1 3) (nI_clamp (n := k) (by omega))).trans (hSv k (by omega)))
                refine lv_aload_n hx hb dX5_step_129 rfl (lv_at hl 0 rfl) ?_
                refine va_get (D := (dC, dI)) (ci := 5) (v := .int (V 6)) (C := RX5) (T := TX5) (N := 33) hx hb hts hin_X5 hown hK hP 0 rfl rfl 6 (by decide) hw9 (fun _ h9 => h9) rfl dX5_step_130 ?_
                refine lv_topi (fun x_56 ex_56 => ?_)
                obtain rfl : x_56 = nI d := ex_56.trans (hV6)
                refine lv_iadd hx hb dX5_step_133 ?_
                refine lv_topi (fun x_57 ex_57 => ?_)
                obtain rfl : x_57 = nI (((grow So d k) k) + d) := ex_57.trans (nI_add ((grow So d k) k) d)
                refine va_mmin hx hb (hml.trans hl.1.symm) hown hw10 hw11 hw12 hw13 (Nat.le_of_ble_eq_true rfl) (Nat.le_of_ble_eq_true rfl) (Nat.le_of_ble_eq_true rfl) (Nat.le_of_ble_eq_true rfl) dX5_step_134 ?_
                refine lv_topi (fun x_58 ex_58 => ?_)
                obtain rfl : x_58 = nI (min 90 (((grow So d k) k) + d)) := ex_58.trans (mm_min (a := 90) (b := ((grow So d k) k) + d) (by omega) (by omega))
                refine va_iast hx hb hK hP hD hS 3 0 rfl rfl (vp_in_nI (n := k) (N := 40) (by omega) (by decide)) dX5_step_137 (fun H locs hP hD hS => ?_)
                obtain ⟨F_59, eF_59⟩ : ∃ z : Nat → Nat → Int32, z = va_up F1 3 (upd (F1 3) (nI k).toNatClampNeg (nI (min 90 (((grow So d k) k) + d)))) := ⟨_, rfl⟩
                have hP : va_P (dC, dI) vwCl (wM cI cZ cJ h F_59 G (va_up (va_up (va_up (va_up V 0 0) 4 (nI ((min 200 (un + ((htA (pwA X Y n SX SY Hh So Wd nw 0) Lm n) / 100))) - (7 - 2 * wm)))) 7 1) 5 ((V 5) + (nI (5 * (Pr nw)))))) H := by rw [eF_59]; exact hP
                have hD : va_D A (wM cI cZ cJ h F_59 G (va_up (va_up (va_up (va_up V 0 0) 4 (nI ((min 200 (un + ((htA (pwA X Y n SX SY Hh So Wd nw 0) Lm n) / 100))) - (7 - 2 * wm)))) 7 1) 5 ((V 5) + (nI (5 * (Pr nw)))))) := by rw [eF_59]; exact hD
                have hN_60 : ∀ i, i < 4 → F_59 4 i = nI (Lm i) := by rw [eF_59]; exact hN_40
                have hN_61 : ∀ i, i < 24 → F_59 7 i = nI (Hh i) := by rw [eF_59]; exact hN_41
                have hN_62 : ∀ i, i < 24 → F_59 8 i = nI (Wd i) := by rw [eF_59]; exact hN_42
                have hN_63 : ∀ i, i < 24 → F_59 9 i = nI (Pr i) := by rw [eF_59]; exact hN_43
                have hN_64 : ∀ i, i < n → F_59 1 i = nI (X i) := by rw [eF_59]; exact hN_44
                have hN_65 : ∀ i, i < n → F_59 2 i = nI (Y i) := by rw [eF_59]; exact hN_45
                obtain ⟨S_66, eS_66⟩ : ∃ z : Nat → Nat, z = nup (grow So d k) k (min 90 (((grow So d k) k) + d)) := ⟨_, rfl⟩
                have hN_67 : ∀ i, i < 40 → F_59 3 i = nI (S_66 i) := by rw [eF_59, eS_66]; show ∀ i, i < 40 → upd (F1 3) (nI k).toNatClampNeg (nI (min 90 (((grow So d k) k) + d))) i = nI _; exact nf_put hSv (nI_clamp (n := k) (by omega))
                have bN_68 : ∀ i, i < 40 → S_66 i ≤ 90 := by rw [eS_66]; exact nb_put bSv (by omega)
                refine lv_iinc (v := nI (k + 1)) (lv' := [(4, .int (nI (k + 1))), (0, .ref (h 0)), (1, .int 1), (2, .int (nI (min 200 (un + ((htA (pwA X Y n SX SY Hh So Wd nw 0) Lm n) / 100))))), (3, .int (nI (5 * (Pr nw))))]) hx hb dX5_step_138 hl (k := 4) rfl (nI_1 _) (by decide) rfl (fun ls hl => ?_)
                refine lv_goto (tgt := 105) hx hb dX5_step_141 (by decide) ?_
                have hb_69 : S_66 = grow So d (k + 1) := by rw [eS_66, grow_at]; exact grow_up1 So d k
                rw [hb_69] at hN_67 bN_68
                exact ih105 (k + 1) F_59 (by omega) hN_67 bN_68 (fun j hj => ((va_ne eF_59 (fun h => hj (by rw [h]; decide))).trans (hfr j hj))) (by omega) H locs ls hP hD hS (lv_sub hl [1, 2, 3, 4, 0] rfl)
          exact loop105 _ 0 F_6 (by omega) (by rw [grow_0]; exact hN_8) (by rw [grow_0]; exact bSo) (fun _ _ => rfl) (Nat.lt_succ_self _) H locs ls hP hD hS (lv_sub hl [3, 4, 2, 1, 0] rfl)
    · have c_28 : ¬ (7 - 2 * wm) ≤ (min 200 (un + ((htA (pwA X Y n SX SY Hh So Wd nw 0) Lm n) / 100))) := fun h => c_28 ((nI_leI (a := 7 - 2 * wm) (b := min 200 (un + ((htA (pwA X Y n SX SY Hh So Wd nw 0) Lm n) / 100))) (by omega) (by omega)).mpr h)
      refine lv_aload_n hx hb dX5_step_40 rfl (lv_at hl 1 rfl) ?_
      refine lv_iconst (v := 2) hx hb dX5_step_41 (by decide) ?_
      refine cw_Vi (As := [.int 2]) (rest := []) (c_X5_refused l dC dI cI cZ cJ h F_6 G (va_up V 0 0) 2) fx (cwV 1 hts gX5_step_X5_refused rfl rfl rfl (by decide +kernel) ⟨Nat.le_of_ble_eq_true rfl, Nat.le_of_ble_eq_true rfl⟩) hK hP hD hS hA 0 rfl rfl rfl rfl hl.1 rfl (Nat.le_of_ble_eq_true rfl) dX5_step_42 ⟨Nat.le_of_ble_eq_true rfl, Nat.le_of_ble_eq_true rfl⟩ (fun r_70 u_71 H locs hw_72 hP hD hS => ?_)
      have hP : va_P (dC, dI) vwCl (wM cI cZ cJ h F_6 G (va_up (va_up V 0 0) 1 2)) H := hP
      have hD : va_D A (wM cI cZ cJ h F_6 G (va_up (va_up V 0 0) 1 2)) := hD
      obtain rfl : r_70 = (-1) := hw_72
      exact hret (-1) (F_6, G, va_up (va_up V 0 0) 1 2) H locs 45 ls rfl dX5_step_45 (by
                    have hc_ : decide (7 - 2 * wm ≤ min 200 (un + htA (pwA X Y n SX SY Hh So Wd nw 0) Lm n / 100)) = false := decide_eq_false (by omega)
                    refine ⟨?_, ?_⟩
                    · (try simp only [hc_, cond_true, cond_false])
                      first | done | exact rfl
                    · (try simp only [hc_, cond_true, cond_false])
                      exact ⟨⟨hV2, by omega⟩, ⟨hV3, by omega⟩, ⟨hV4, by omega⟩, ⟨hV6, by omega⟩, ⟨hV7, by omega⟩, ⟨hV10, by omega⟩, ⟨sh, hV11, by omega⟩, ⟨hN_8, bSo⟩, ⟨hN_9, bLm⟩, ⟨hN_10, bHh⟩, ⟨hN_11, bWd⟩, ⟨hN_12, bPr⟩, ⟨hN_13, bX⟩, ⟨hN_14, bY⟩, ⟨am, hV8, by omega, by omega⟩, hGP, (fun i hi => (congrFun (hf_7 5 (by decide)) i).trans (hSX i hi)), (fun i hi => (congrFun (hf_7 6 (by decide)) i).trans (hSY i hi)), (fun i hi => (congrFun (hf_7 13 (by decide)) i).trans (hKc i hi)), (fun i hi => (congrFun (hf_7 15 (by decide)) i).trans (hKp i hi)), ((show (va_up (va_up V 0 0) 1 2) 5 = V 5 from rfl)).trans hE, (fun t h1 h2 => (congrFun (hf_7 17 (by decide)) t).trans (hRB t h1 h2))⟩) (hP) (hD) hS
