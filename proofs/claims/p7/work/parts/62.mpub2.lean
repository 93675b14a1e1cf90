theorem aim_nat {v x : Int32} {am : Nat} (hx : x = nI am - 1) (ha : am ≤ 41) (h1 : ltI v 0 = false) (h2 : ltI v x = true) : ∃ k : Nat, k < 40 ∧ v = nI k := by
  obtain ⟨j, hj, e⟩ := nI_of (of_decide_eq_false h1)
  refine ⟨j, ?_, e⟩
  have q := of_decide_eq_true h2
  rw [hx, e, Int32.lt_iff_toInt_lt, show (nI am - 1).toInt = (am : Int) - 1 from pk_sub_toInt (a := am) (b := 1) (by omega) (by decide), nI_toInt hj] at q
  omega
theorem aimHn_le {P Lm : Nat → Nat} {n : Nat} (hn : n ≤ 40) (hP : ∀ i, i < n → P i ≤ 100) : aimH P (ordn P n) Lm n ≤ 4000 := by
  have key : ∀ t, t ≤ n → aimH P (ordn P n) Lm t ≤ t * 100 := by
    intro t
    induction t with
    | zero => intro _; exact Nat.zero_le _
    | succ t ih =>
      intro ht
      have a := ih (by omega)
      have b := hP _ (ordn_lt P n t (by omega))
      unfold aimH
      split <;> omega
  have := key n (Nat.le_refl n)
  omega
def rm_X5_shaded : Room := { frames := 1, cells := 0, slots := 0, locals := 28 }
set_option maxHeartbeats 4000000 in
set_option maxRecDepth 100000 in
theorem c_X5_shaded (l : Launch) (dC : Nat → ClassId) (dI : Nat → Nat → Nat) (cI cZ cJ : ClassId) (h : Nat → Nat) (F : Nat → Nat → Int32) (G : Nat → Int64) (V : Nat → Int32) (n : Nat) (hV2 : V 2 = nI n) (bV2 : n ≤ 40) (nw : Nat) (hV3 : V 3 = nI nw) (bV3 : nw ≤ 23) (un : Nat) (hV4 : V 4 = nI un) (bV4 : un ≤ 200) (d : Nat) (hV6 : V 6 = nI d) (bV6 : d ≤ 20) (wm : Nat) (hV7 : V 7 = nI wm) (bV7 : wm ≤ 1) (pf : Nat) (hV10 : V 10 = nI pf) (bV10 : pf ≤ 24) (sh : Nat) (hV11 : V 11 = nI sh) (bV11 : sh ≤ 12) (So : Nat → Nat) (hSo : ∀ i, i < 40 → F 3 i = nI (So i)) (bSo : ∀ i, i < 40 → So i ≤ 90) (Lm : Nat → Nat) (hLm : ∀ i, i < 4 → F 4 i = nI (Lm i)) (bLm : ∀ i, i < 4 → Lm i ≤ 10000) (Hh : Nat → Nat) (hHh : ∀ i, i < 24 → F 7 i = nI (Hh i)) (bHh : ∀ i, i < 24 → Hh i ≤ 9) (Wd : Nat → Nat) (hWd : ∀ i, i < 24 → F 8 i = nI (Wd i)) (bWd : ∀ i, i < 24 → Wd i ≤ 99) (Pr : Nat → Nat) (hPr : ∀ i, i < 24 → F 9 i = nI (Pr i)) (bPr : ∀ i, i < 24 → Pr i ≤ 999) (X : Nat → Nat) (hX : ∀ i, i < n → F 1 i = nI (X i)) (bX : ∀ i, i < n → X i ≤ 14) (Y : Nat → Nat) (hY : ∀ i, i < n → F 2 i = nI (Y i)) (bY : ∀ i, i < n → Y i ≤ 14) (p0 p1 p2 : Int32)  (ks am : Nat) (hV8 : V 8 = nI am - 1) (bam : am ≤ 41) (hks : am - 1 = ks) (SX SY Kc Kp : Nat → Int32) (er : Int32) (rb : Nat → Bool) (hGP : GP n X Y) (hSX : ∀ i, i < 24 → F 5 i = SX i) (hSY : ∀ i, i < 24 → F 6 i = SY i) (hKc : ∀ i, i < ks → F 13 i = Kc i) (hKp : ∀ i, i < 4 → F 15 i = Kp i) (hE : V 5 = er) (hRB : ∀ t, pf ≤ t → t < 24 → F 17 t = bI (rb t)) : CtI l (dC, dI) vwCl (tys3 cI cZ cJ) yX5_shaded wsX5_shaded rm_X5_shaded [.ref (h 0), .int p0, .int p1, .int p2] (wM cI cZ cJ h F G V) (S := (Nat → Nat → Int32) × (Nat → Int64) × (Nat → Int32)) (fun r u => (r = (bif (inN p0 n && isW p1 0 23) then (bif eqI p2 0 then nI (shA X Y n SX SY Hh p0.toNatClampNeg p1.toNatClampNeg) else nI (blA X Y n p0.toNatClampNeg)) else (-1))) ∧ VM n d ks nw un wm pf So Hh Wd Lm Pr X Y SX SY Kc Kp er rb u.1 u.2.2) (fun u => wM cI cZ cJ h u.1 u.2.1 u.2.2) 0 0 := by
  refine ct_I (cc := cX5_shaded) (maxL := 4) (ty := .int) (own := RX5) (by decide) rfl rfl (Nat.le_of_ble_eq_true rfl) (lv := [(0, .ref (h 0)), (1, .int p0), (2, .int p1), (3, .int p2)]) rfl ?_
  intro p e s m args below meth c A Q ls fx hK hP hD hA hl hret
  obtain ⟨hx, hb, hml, hown, hts⟩ := id fx
  have hS : va_S A s.heap s.heap [] := va_S.rf
  have hw0 := hts (.fieldLink RX5 1 "MirrorTowerModel" "thrown" "I") (by decide +kernel)
  have hin_X5 : ∀ w ∈ u_ws RX5 TX5 33, w ∈ wsX5_shaded := by decide +kernel
  obtain ⟨H, hH⟩ : ∃ H, H = s.heap := ⟨_, rfl⟩
  rw [← hH] at hP ⊢
  have hS : va_S A s.heap H [] := by rw [hH]; exact hS
  generalize ([] : List Loc) = locs at hS ⊢
  refine lv_aload_n hx hb dX5_shaded_0 rfl (lv_at hl 0 rfl) ?_
  refine lv_iconst (v := 0) hx hb dX5_shaded_1 (by decide) ?_
  refine va_put (D := (dC, dI)) (ci := 5) (v := .int 0) (ty := .int) (C := RX5) (T := TX5) (N := 33) hx hb hts hin_X5 tyX5 tyX5_ok nmX5 hown hK hP hD hS 0 rfl rfl 0 (by decide) hw0 (fun _ h9 => h9) rfl (by decide +kernel) rfl rfl (Nat.le_of_ble_eq_true rfl) dX5_shaded_2 (fun H locs hP hD hS => ?_)
  have hP : va_P (dC, dI) vwCl (wM cI cZ cJ h F G (va_up V 0 0)) H := hP
  have hD : va_D A (wM cI cZ cJ h F G (va_up V 0 0)) := hD
  refine lv_aload_n hx hb dX5_shaded_5 rfl (lv_at hl 0 rfl) ?_
  refine lv_iload_n hx hb dX5_shaded_6 rfl (lv_at hl 1 rfl) ?_
  refine cw_Vi (As := [.int p0]) (rest := []) (c_X5_isMirror l dC dI cI cZ cJ h F G (va_up V 0 0) n hV2 (by omega) p0) fx (cwV 1 hts gX5_shaded_X5_isMirror rfl rfl rfl (by decide +kernel) ⟨Nat.le_of_ble_eq_true rfl, Nat.le_of_ble_eq_true rfl⟩) hK hP hD hS hA 0 rfl rfl rfl rfl hl.1 rfl (Nat.le_of_ble_eq_true rfl) dX5_shaded_7 ⟨Nat.le_of_ble_eq_true rfl, Nat.le_of_ble_eq_true rfl⟩ (fun r_1 u_2 H locs hw_3 hP hD hS => ?_)
  have hP : va_P (dC, dI) vwCl (wM cI cZ cJ h F G (va_up V 0 0)) H := hP
  have hD : va_D A (wM cI cZ cJ h F G (va_up V 0 0)) := hD
  have hw_3 : r_1 = bI ((!ltI p0 0 && ltI p0 (nI n))) := hw_3
  refine lv_if_eq (tgt := 41) hx hb dX5_shaded_10 (by decide) (fun c_4 => ?_) (fun c_4 => ?_)
  · have c_4 : (!ltI p0 0 && ltI p0 (nI n)) = false := bI_f hw_3 c_4
    refine lv_iconst (v := (-1)) hx hb dX5_shaded_41 (by decide) ?_
    exact hret (-1) (F, G, va_up V 0 0) H locs 42 ls rfl dX5_shaded_42 (by
                  have hc_ : (inN p0 n && isW p1 0 23) = false := by simp [inN, c_4]
                  refine ⟨?_, ?_⟩
                  · (try simp only [hc_, cond_true, cond_false])
                    first | done | exact rfl
                  · (try simp only [hc_, cond_true, cond_false])
                    exact ⟨⟨hV2, by omega⟩, ⟨hV3, by omega⟩, ⟨hV4, by omega⟩, ⟨hV6, by omega⟩, ⟨hV7, by omega⟩, ⟨hV10, by omega⟩, ⟨sh, hV11, by omega⟩, ⟨hSo, bSo⟩, ⟨hLm, bLm⟩, ⟨hHh, bHh⟩, ⟨hWd, bWd⟩, ⟨hPr, bPr⟩, ⟨hX, bX⟩, ⟨hY, bY⟩, ⟨am, hV8, by omega, by omega⟩, hGP, (fun i hi => (congrFun (Eq.refl (F 5)) i).trans (hSX i hi)), (fun i hi => (congrFun (Eq.refl (F 6)) i).trans (hSY i hi)), (fun i hi => (congrFun (Eq.refl (F 13)) i).trans (hKc i hi)), (fun i hi => (congrFun (Eq.refl (F 15)) i).trans (hKp i hi)), ((show (va_up V 0 0) 5 = V 5 from rfl)).trans hE, (fun t h1 h2 => (congrFun (Eq.refl (F 17)) t).trans (hRB t h1 h2))⟩) (hP) (hD) hS
  · have c_4 : (!ltI p0 0 && ltI p0 (nI n)) = true := bI_t hw_3 c_4
    refine lv_iload_n hx hb dX5_shaded_13 rfl (lv_at hl 2 rfl) ?_
    refine cw_Si (As := [.int p1]) (rest := []) (c_X5_isHour l dC dI cI cZ cJ (wM cI cZ cJ h F G (va_up V 0 0)) p1) fx (va_cwS 1 hts gX5_shaded_X5_isHour rfl rfl rfl (by decide +kernel) ⟨Nat.le_of_ble_eq_true rfl, Nat.le_of_ble_eq_true rfl⟩) hK hP hD hS hA rfl hl.1 rfl (Nat.le_of_ble_eq_true rfl) dX5_shaded_14 ⟨Nat.le_of_ble_eq_true rfl, Nat.le_of_ble_eq_true rfl⟩ (fun r_5 u_6 H locs hw_7 hP hD hS => ?_)
    have hP : va_P (dC, dI) vwCl (wM cI cZ cJ h F G (va_up V 0 0)) H := hP
    have hD : va_D A (wM cI cZ cJ h F G (va_up V 0 0)) := hD
    have hw_7 : r_5 = bI (isW p1 0 23) := hw_7
    refine lv_if_eq (tgt := 41) hx hb dX5_shaded_17 (by decide) (fun c_8 => ?_) (fun c_8 => ?_)
    · have c_8 : isW p1 0 23 = false := bI_f hw_7 c_8
      refine lv_iconst (v := (-1)) hx hb dX5_shaded_41 (by decide) ?_
      exact hret (-1) (F, G, va_up V 0 0) H locs 42 ls rfl dX5_shaded_42 (by
                    have hc_ : (inN p0 n && isW p1 0 23) = false := by simp [inN, c_4, c_8]
                    refine ⟨?_, ?_⟩
                    · (try simp only [hc_, cond_true, cond_false])
                      first | done | exact rfl
                    · (try simp only [hc_, cond_true, cond_false])
                      exact ⟨⟨hV2, by omega⟩, ⟨hV3, by omega⟩, ⟨hV4, by omega⟩, ⟨hV6, by omega⟩, ⟨hV7, by omega⟩, ⟨hV10, by omega⟩, ⟨sh, hV11, by omega⟩, ⟨hSo, bSo⟩, ⟨hLm, bLm⟩, ⟨hHh, bHh⟩, ⟨hWd, bWd⟩, ⟨hPr, bPr⟩, ⟨hX, bX⟩, ⟨hY, bY⟩, ⟨am, hV8, by omega, by omega⟩, hGP, (fun i hi => (congrFun (Eq.refl (F 5)) i).trans (hSX i hi)), (fun i hi => (congrFun (Eq.refl (F 6)) i).trans (hSY i hi)), (fun i hi => (congrFun (Eq.refl (F 13)) i).trans (hKc i hi)), (fun i hi => (congrFun (Eq.refl (F 15)) i).trans (hKp i hi)), ((show (va_up V 0 0) 5 = V 5 from rfl)).trans hE, (fun t h1 h2 => (congrFun (Eq.refl (F 17)) t).trans (hRB t h1 h2))⟩) (hP) (hD) hS
    · have c_8 : isW p1 0 23 = true := bI_t hw_7 c_8
      refine lv_iload_n hx hb dX5_shaded_20 rfl (lv_at hl 3 rfl) ?_
      refine lv_if_eq (tgt := 32) hx hb dX5_shaded_21 (by decide) (fun c_9 => ?_) (fun c_9 => ?_)
      · have c_9 : eqI p2 0 = true := decide_eq_true c_9
        refine lv_aload_n hx hb dX5_shaded_32 rfl (lv_at hl 0 rfl) ?_
        refine lv_iload_n hx hb dX5_shaded_33 rfl (lv_at hl 1 rfl) ?_
        refine lv_iload_n hx hb dX5_shaded_34 rfl (lv_at hl 2 rfl) ?_
        obtain ⟨k0, hk0, rfl⟩ := mir_nat bV2 c_4
        obtain ⟨k1, hk1, rfl⟩ := isW_nat (M := 23) (n := 23) (by decide) c_8
        refine cw_Vi (As := [.int (nI k0), .int (nI k1)]) (rest := []) (c_X5_shades l dC dI cI cZ cJ h F G (va_up V 0 0) n hV2 (by omega) Hh hHh bHh X hX bX Y hY bY k0 k1 (by omega) (by omega) SX SY (fun i hi => (congrFun (Eq.refl (F 5)) i).trans (hSX i hi)) (fun i hi => (congrFun (Eq.refl (F 6)) i).trans (hSY i hi))) fx (cwV 2 hts gX5_shaded_X5_shades rfl rfl rfl (by decide +kernel) ⟨Nat.le_of_ble_eq_true rfl, Nat.le_of_ble_eq_true rfl⟩) hK hP hD hS hA 0 rfl rfl rfl rfl hl.1 rfl (Nat.le_of_ble_eq_true rfl) dX5_shaded_35 ⟨Nat.le_of_ble_eq_true rfl, Nat.le_of_ble_eq_true rfl⟩ (fun r_10 u_11 H locs hw_12 hP hD hS => ?_)
        have hP : va_P (dC, dI) vwCl (wM cI cZ cJ h F G (va_up V 0 0)) H := hP
        have hD : va_D A (wM cI cZ cJ h F G (va_up V 0 0)) := hD
        obtain rfl : r_10 = nI (shA X Y n SX SY Hh k0 k1) := hw_12
        refine lv_goto (tgt := 42) hx hb dX5_shaded_38 (by decide) ?_
        exact hret (nI (shA X Y n SX SY Hh k0 k1)) (F, G, va_up V 0 0) H locs 42 ls rfl dX5_shaded_42 (by
                      have hc_ : (inN (nI k0) n && isW (nI k1) 0 23) = true := by simp [inN, c_4, c_8, c_9]
                      refine ⟨?_, ?_⟩
                      · (try simp only [hc_, cond_true, cond_false, nI_clamp (show k0 < 2 ^ 31 by omega), nI_clamp (show k1 < 2 ^ 31 by omega)])
                        first | done | exact by rw [c_9]; rfl
                      · (try simp only [hc_, cond_true, cond_false, nI_clamp (show k0 < 2 ^ 31 by omega), nI_clamp (show k1 < 2 ^ 31 by omega)])
                        exact ⟨⟨hV2, by omega⟩, ⟨hV3, by omega⟩, ⟨hV4, by omega⟩, ⟨hV6, by omega⟩, ⟨hV7, by omega⟩, ⟨hV10, by omega⟩, ⟨sh, hV11, by omega⟩, ⟨hSo, bSo⟩, ⟨hLm, bLm⟩, ⟨hHh, bHh⟩, ⟨hWd, bWd⟩, ⟨hPr, bPr⟩, ⟨hX, bX⟩, ⟨hY, bY⟩, ⟨am, hV8, by omega, by omega⟩, hGP, (fun i hi => (congrFun (Eq.refl (F 5)) i).trans (hSX i hi)), (fun i hi => (congrFun (Eq.refl (F 6)) i).trans (hSY i hi)), (fun i hi => (congrFun (Eq.refl (F 13)) i).trans (hKc i hi)), (fun i hi => (congrFun (Eq.refl (F 15)) i).trans (hKp i hi)), ((show (va_up V 0 0) 5 = V 5 from rfl)).trans hE, (fun t h1 h2 => (congrFun (Eq.refl (F 17)) t).trans (hRB t h1 h2))⟩) (hP) (hD) hS
      · have c_9 : eqI p2 0 = false := decide_eq_false c_9
        refine lv_aload_n hx hb dX5_shaded_24 rfl (lv_at hl 0 rfl) ?_
        refine lv_iload_n hx hb dX5_shaded_25 rfl (lv_at hl 1 rfl) ?_
        obtain ⟨k0, hk0, rfl⟩ := mir_nat bV2 c_4
        refine cw_Vi (As := [.int (nI k0)]) (rest := []) (c_X5_blocks l dC dI cI cZ cJ h F G (va_up V 0 0) n hV2 (by omega) X hX bX Y hY bY k0 (by omega)) fx (cwV 1 hts gX5_shaded_X5_blocks rfl rfl rfl (by decide +kernel) ⟨Nat.le_of_ble_eq_true rfl, Nat.le_of_ble_eq_true rfl⟩) hK hP hD hS hA 0 rfl rfl rfl rfl hl.1 rfl (Nat.le_of_ble_eq_true rfl) dX5_shaded_26 ⟨Nat.le_of_ble_eq_true rfl, Nat.le_of_ble_eq_true rfl⟩ (fun r_13 u_14 H locs hw_15 hP hD hS => ?_)
        have hP : va_P (dC, dI) vwCl (wM cI cZ cJ h F G (va_up V 0 0)) H := hP
        have hD : va_D A (wM cI cZ cJ h F G (va_up V 0 0)) := hD
        obtain rfl : r_13 = nI (blA X Y n k0) := hw_15
        refine lv_goto (tgt := 42) hx hb dX5_shaded_29 (by decide) ?_
        exact hret (nI (blA X Y n k0)) (F, G, va_up V 0 0) H locs 42 ls rfl dX5_shaded_42 (by
                      have hc_ : (inN (nI k0) n && isW p1 0 23) = true := by simp [inN, c_4, c_8, c_9]
                      refine ⟨?_, ?_⟩
                      · (try simp only [hc_, cond_true, cond_false, nI_clamp (show k0 < 2 ^ 31 by omega)])
                        first | done | exact by rw [c_9]; rfl
                      · (try simp only [hc_, cond_true, cond_false, nI_clamp (show k0 < 2 ^ 31 by omega)])
                        exact ⟨⟨hV2, by omega⟩, ⟨hV3, by omega⟩, ⟨hV4, by omega⟩, ⟨hV6, by omega⟩, ⟨hV7, by omega⟩, ⟨hV10, by omega⟩, ⟨sh, hV11, by omega⟩, ⟨hSo, bSo⟩, ⟨hLm, bLm⟩, ⟨hHh, bHh⟩, ⟨hWd, bWd⟩, ⟨hPr, bPr⟩, ⟨hX, bX⟩, ⟨hY, bY⟩, ⟨am, hV8, by omega, by omega⟩, hGP, (fun i hi => (congrFun (Eq.refl (F 5)) i).trans (hSX i hi)), (fun i hi => (congrFun (Eq.refl (F 6)) i).trans (hSY i hi)), (fun i hi => (congrFun (Eq.refl (F 13)) i).trans (hKc i hi)), (fun i hi => (congrFun (Eq.refl (F 15)) i).trans (hKp i hi)), ((show (va_up V 0 0) 5 = V 5 from rfl)).trans hE, (fun t h1 h2 => (congrFun (Eq.refl (F 17)) t).trans (hRB t h1 h2))⟩) (hP) (hD) hS
def rm_X5_power : Room := { frames := 2, cells := 0, slots := 0, locals := 53 }
set_option maxHeartbeats 4000000 in
set_option maxRecDepth 100000 in
theorem c_X5_power (l : Launch) (dC : Nat → ClassId) (dI : Nat → Nat → Nat) (cI cZ cJ : ClassId) (h : Nat → Nat) (F : Nat → Nat → Int32) (G : Nat → Int64) (V : Nat → Int32) (n : Nat) (hV2 : V 2 = nI n) (bV2 : n ≤ 40) (nw : Nat) (hV3 : V 3 = nI nw) (bV3 : nw ≤ 23) (un : Nat) (hV4 : V 4 = nI un) (bV4 : un ≤ 200) (d : Nat) (hV6 : V 6 = nI d) (bV6 : d ≤ 20) (wm : Nat) (hV7 : V 7 = nI wm) (bV7 : wm ≤ 1) (pf : Nat) (hV10 : V 10 = nI pf) (bV10 : pf ≤ 24) (sh : Nat) (hV11 : V 11 = nI sh) (bV11 : sh ≤ 12) (So : Nat → Nat) (hSo : ∀ i, i < 40 → F 3 i = nI (So i)) (bSo : ∀ i, i < 40 → So i ≤ 90) (Lm : Nat → Nat) (hLm : ∀ i, i < 4 → F 4 i = nI (Lm i)) (bLm : ∀ i, i < 4 → Lm i ≤ 10000) (Hh : Nat → Nat) (hHh : ∀ i, i < 24 → F 7 i = nI (Hh i)) (bHh : ∀ i, i < 24 → Hh i ≤ 9) (Wd : Nat → Nat) (hWd : ∀ i, i < 24 → F 8 i = nI (Wd i)) (bWd : ∀ i, i < 24 → Wd i ≤ 99) (Pr : Nat → Nat) (hPr : ∀ i, i < 24 → F 9 i = nI (Pr i)) (bPr : ∀ i, i < 24 → Pr i ≤ 999) (X : Nat → Nat) (hX : ∀ i, i < n → F 1 i = nI (X i)) (bX : ∀ i, i < n → X i ≤ 14) (Y : Nat → Nat) (hY : ∀ i, i < n → F 2 i = nI (Y i)) (bY : ∀ i, i < n → Y i ≤ 14) (p0 p1 : Int32)  (ks am : Nat) (hV8 : V 8 = nI am - 1) (bam : am ≤ 41) (hks : am - 1 = ks) (SX SY Kc Kp : Nat → Int32) (er : Int32) (rb : Nat → Bool) (hGP : GP n X Y) (hSX : ∀ i, i < 24 → F 5 i = SX i) (hSY : ∀ i, i < 24 → F 6 i = SY i) (hKc : ∀ i, i < ks → F 13 i = Kc i) (hKp : ∀ i, i < 4 → F 15 i = Kp i) (hE : V 5 = er) (hRB : ∀ t, pf ≤ t → t < 24 → F 17 t = bI (rb t)) : CtI l (dC, dI) vwCl (tys3 cI cZ cJ) yX5_power wsX5_power rm_X5_power [.ref (h 0), .int p0, .int p1] (wM cI cZ cJ h F G V) (S := (Nat → Nat → Int32) × (Nat → Int64) × (Nat → Int32)) (fun r u => (r = (bif (inN p0 n && isW p1 0 23) then nI (pwA X Y n SX SY Hh So Wd p1.toNatClampNeg 0 p0.toNatClampNeg) else (-1))) ∧ VM n d ks nw un wm pf So Hh Wd Lm Pr X Y SX SY Kc Kp er rb u.1 u.2.2) (fun u => wM cI cZ cJ h u.1 u.2.1 u.2.2) 0 0 := by
  refine ct_I (cc := cX5_power) (maxL := 3) (ty := .int) (own := RX5) (by decide) rfl rfl (Nat.le_of_ble_eq_true rfl) (lv := [(0, .ref (h 0)), (1, .int p0), (2, .int p1)]) rfl ?_
  intro p e s m args below meth c A Q ls fx hK hP hD hA hl hret
  obtain ⟨hx, hb, hml, hown, hts⟩ := id fx
  have hS : va_S A s.heap s.heap [] := va_S.rf
  have hw0 := hts (.fieldLink RX5 1 "MirrorTowerModel" "thrown" "I") (by decide +kernel)
  have hin_X5 : ∀ w ∈ u_ws RX5 TX5 33, w ∈ wsX5_power := by decide +kernel
  obtain ⟨H, hH⟩ : ∃ H, H = s.heap := ⟨_, rfl⟩
  rw [← hH] at hP ⊢
  have hS : va_S A s.heap H [] := by rw [hH]; exact hS
  generalize ([] : List Loc) = locs at hS ⊢
  refine lv_aload_n hx hb dX5_power_0 rfl (lv_at hl 0 rfl) ?_
  refine lv_iconst (v := 0) hx hb dX5_power_1 (by decide) ?_
  refine va_put (D := (dC, dI)) (ci := 5) (v := .int 0) (ty := .int) (C := RX5) (T := TX5) (N := 33) hx hb hts hin_X5 tyX5 tyX5_ok nmX5 hown hK hP hD hS 0 rfl rfl 0 (by decide) hw0 (fun _ h9 => h9) rfl (by decide +kernel) rfl rfl (Nat.le_of_ble_eq_true rfl) dX5_power_2 (fun H locs hP hD hS => ?_)
  have hP : va_P (dC, dI) vwCl (wM cI cZ cJ h F G (va_up V 0 0)) H := hP
  have hD : va_D A (wM cI cZ cJ h F G (va_up V 0 0)) := hD
  refine lv_aload_n hx hb dX5_power_5 rfl (lv_at hl 0 rfl) ?_
  refine lv_iload_n hx hb dX5_power_6 rfl (lv_at hl 1 rfl) ?_
  refine cw_Vi (As := [.int p0]) (rest := []) (c_X5_isMirror l dC dI cI cZ cJ h F G (va_up V 0 0) n hV2 (by omega) p0) fx (cwV 1 hts gX5_power_X5_isMirror rfl rfl rfl (by decide +kernel) ⟨Nat.le_of_ble_eq_true rfl, Nat.le_of_ble_eq_true rfl⟩) hK hP hD hS hA 0 rfl rfl rfl rfl hl.1 rfl (Nat.le_of_ble_eq_true rfl) dX5_power_7 ⟨Nat.le_of_ble_eq_true rfl, Nat.le_of_ble_eq_true rfl⟩ (fun r_1 u_2 H locs hw_3 hP hD hS => ?_)
  have hP : va_P (dC, dI) vwCl (wM cI cZ cJ h F G (va_up V 0 0)) H := hP
  have hD : va_D A (wM cI cZ cJ h F G (va_up V 0 0)) := hD
  have hw_3 : r_1 = bI ((!ltI p0 0 && ltI p0 (nI n))) := hw_3
  refine lv_if_eq (tgt := 30) hx hb dX5_power_10 (by decide) (fun c_4 => ?_) (fun c_4 => ?_)
  · have c_4 : (!ltI p0 0 && ltI p0 (nI n)) = false := bI_f hw_3 c_4
    refine lv_iconst (v := (-1)) hx hb dX5_power_30 (by decide) ?_
    exact hret (-1) (F, G, va_up V 0 0) H locs 31 ls rfl dX5_power_31 (by
                  have hc_ : (inN p0 n && isW p1 0 23) = false := by simp [inN, c_4]
                  refine ⟨?_, ?_⟩
                  · (try simp only [hc_, cond_true, cond_false])
                    first | done | exact rfl
                  · (try simp only [hc_, cond_true, cond_false])
                    exact ⟨⟨hV2, by omega⟩, ⟨hV3, by omega⟩, ⟨hV4, by omega⟩, ⟨hV6, by omega⟩, ⟨hV7, by omega⟩, ⟨hV10, by omega⟩, ⟨sh, hV11, by omega⟩, ⟨hSo, bSo⟩, ⟨hLm, bLm⟩, ⟨hHh, bHh⟩, ⟨hWd, bWd⟩, ⟨hPr, bPr⟩, ⟨hX, bX⟩, ⟨hY, bY⟩, ⟨am, hV8, by omega, by omega⟩, hGP, (fun i hi => (congrFun (Eq.refl (F 5)) i).trans (hSX i hi)), (fun i hi => (congrFun (Eq.refl (F 6)) i).trans (hSY i hi)), (fun i hi => (congrFun (Eq.refl (F 13)) i).trans (hKc i hi)), (fun i hi => (congrFun (Eq.refl (F 15)) i).trans (hKp i hi)), ((show (va_up V 0 0) 5 = V 5 from rfl)).trans hE, (fun t h1 h2 => (congrFun (Eq.refl (F 17)) t).trans (hRB t h1 h2))⟩) (hP) (hD) hS
  · have c_4 : (!ltI p0 0 && ltI p0 (nI n)) = true := bI_t hw_3 c_4
    refine lv_iload_n hx hb dX5_power_13 rfl (lv_at hl 2 rfl) ?_
    refine cw_Si (As := [.int p1]) (rest := []) (c_X5_isHour l dC dI cI cZ cJ (wM cI cZ cJ h F G (va_up V 0 0)) p1) fx (va_cwS 1 hts gX5_power_X5_isHour rfl rfl rfl (by decide +kernel) ⟨Nat.le_of_ble_eq_true rfl, Nat.le_of_ble_eq_true rfl⟩) hK hP hD hS hA rfl hl.1 rfl (Nat.le_of_ble_eq_true rfl) dX5_power_14 ⟨Nat.le_of_ble_eq_true rfl, Nat.le_of_ble_eq_true rfl⟩ (fun r_5 u_6 H locs hw_7 hP hD hS => ?_)
    have hP : va_P (dC, dI) vwCl (wM cI cZ cJ h F G (va_up V 0 0)) H := hP
    have hD : va_D A (wM cI cZ cJ h F G (va_up V 0 0)) := hD
    have hw_7 : r_5 = bI (isW p1 0 23) := hw_7
    refine lv_if_eq (tgt := 30) hx hb dX5_power_17 (by decide) (fun c_8 => ?_) (fun c_8 => ?_)
    · have c_8 : isW p1 0 23 = false := bI_f hw_7 c_8
      refine lv_iconst (v := (-1)) hx hb dX5_power_30 (by decide) ?_
      exact hret (-1) (F, G, va_up V 0 0) H locs 31 ls rfl dX5_power_31 (by
                    have hc_ : (inN p0 n && isW p1 0 23) = false := by simp [inN, c_4, c_8]
                    refine ⟨?_, ?_⟩
                    · (try simp only [hc_, cond_true, cond_false])
                      first | done | exact rfl
                    · (try simp only [hc_, cond_true, cond_false])
                      exact ⟨⟨hV2, by omega⟩, ⟨hV3, by omega⟩, ⟨hV4, by omega⟩, ⟨hV6, by omega⟩, ⟨hV7, by omega⟩, ⟨hV10, by omega⟩, ⟨sh, hV11, by omega⟩, ⟨hSo, bSo⟩, ⟨hLm, bLm⟩, ⟨hHh, bHh⟩, ⟨hWd, bWd⟩, ⟨hPr, bPr⟩, ⟨hX, bX⟩, ⟨hY, bY⟩, ⟨am, hV8, by omega, by omega⟩, hGP, (fun i hi => (congrFun (Eq.refl (F 5)) i).trans (hSX i hi)), (fun i hi => (congrFun (Eq.refl (F 6)) i).trans (hSY i hi)), (fun i hi => (congrFun (Eq.refl (F 13)) i).trans (hKc i hi)), (fun i hi => (congrFun (Eq.refl (F 15)) i).trans (hKp i hi)), ((show (va_up V 0 0) 5 = V 5 from rfl)).trans hE, (fun t h1 h2 => (congrFun (Eq.refl (F 17)) t).trans (hRB t h1 h2))⟩) (hP) (hD) hS
    · have c_8 : isW p1 0 23 = true := bI_t hw_7 c_8
      refine lv_aload_n hx hb dX5_power_20 rfl (lv_at hl 0 rfl) ?_
      refine lv_iload_n hx hb dX5_power_21 rfl (lv_at hl 1 rfl) ?_
      refine lv_iload_n hx hb dX5_power_22 rfl (lv_at hl 2 rfl) ?_
      refine lv_iconst (v := 0) hx hb dX5_power_23 (by decide) ?_
      obtain ⟨k0, hk0, rfl⟩ := mir_nat bV2 c_4
      obtain ⟨k1, hk1, rfl⟩ := isW_nat (M := 23) (n := 23) (by decide) c_8
      refine cw_Vi (As := [.int (nI k0), .int (nI k1), .int 0]) (rest := []) (c_X5_powerOf l dC dI cI cZ cJ h F G (va_up V 0 0) n hV2 (by omega) So hSo bSo Hh hHh bHh Wd hWd bWd X hX bX Y hY bY k0 k1 0 (by omega) (by omega) (by omega) SX SY (fun i hi => (congrFun (Eq.refl (F 5)) i).trans (hSX i hi)) (fun i hi => (congrFun (Eq.refl (F 6)) i).trans (hSY i hi)) hGP) fx (cwV 3 hts gX5_power_X5_powerOf rfl rfl rfl (by decide +kernel) ⟨Nat.le_of_ble_eq_true rfl, Nat.le_of_ble_eq_true rfl⟩) hK hP hD hS hA 0 rfl rfl rfl rfl hl.1 rfl (Nat.le_of_ble_eq_true rfl) dX5_power_24 ⟨Nat.le_of_ble_eq_true rfl, Nat.le_of_ble_eq_true rfl⟩ (fun r_9 u_10 H locs hw_11 hP hD hS => ?_)
      have hP : va_P (dC, dI) vwCl (wM cI cZ cJ h F G (va_up V 0 0)) H := hP
      have hD : va_D A (wM cI cZ cJ h F G (va_up V 0 0)) := hD
      obtain rfl : r_9 = nI (pwA X Y n SX SY Hh So Wd k1 0 k0) := hw_11
      have hb_12 : pwA X Y n SX SY Hh So Wd k1 0 k0 ≤ 100 := pwA_le (bHh k1 (by omega))
      refine lv_goto (tgt := 31) hx hb dX5_power_27 (by decide) ?_
      exact hret (nI (pwA X Y n SX SY Hh So Wd k1 0 k0)) (F, G, va_up V 0 0) H locs 31 ls rfl dX5_power_31 (by
                    have hc_ : (inN (nI k0) n && isW (nI k1) 0 23) = true := by simp [inN, c_4, c_8]
                    refine ⟨?_, ?_⟩
                    · (try simp only [hc_, cond_true, cond_false, nI_clamp (show k0 < 2 ^ 31 by omega), nI_clamp (show k1 < 2 ^ 31 by omega)])
                      first | done | exact rfl
                    · (try simp only [hc_, cond_true, cond_false, nI_clamp (show k0 < 2 ^ 31 by omega), nI_clamp (show k1 < 2 ^ 31 by omega)])
                      exact ⟨⟨hV2, by omega⟩, ⟨hV3, by omega⟩, ⟨hV4, by omega⟩, ⟨hV6, by omega⟩, ⟨hV7, by omega⟩, ⟨hV10, by omega⟩, ⟨sh, hV11, by omega⟩, ⟨hSo, bSo⟩, ⟨hLm, bLm⟩, ⟨hHh, bHh⟩, ⟨hWd, bWd⟩, ⟨hPr, bPr⟩, ⟨hX, bX⟩, ⟨hY, bY⟩, ⟨am, hV8, by omega, by omega⟩, hGP, (fun i hi => (congrFun (Eq.refl (F 5)) i).trans (hSX i hi)), (fun i hi => (congrFun (Eq.refl (F 6)) i).trans (hSY i hi)), (fun i hi => (congrFun (Eq.refl (F 13)) i).trans (hKc i hi)), (fun i hi => (congrFun (Eq.refl (F 15)) i).trans (hKp i hi)), ((show (va_up V 0 0) 5 = V 5 from rfl)).trans hE, (fun t h1 h2 => (congrFun (Eq.refl (F 17)) t).trans (hRB t h1 h2))⟩) (hP) (hD) hS
def rm_X5_soil : Room := { frames := 1, cells := 0, slots := 0, locals := 21 }
set_option maxHeartbeats 4000000 in
set_option maxRecDepth 100000 in
theorem c_X5_soil (l : Launch) (dC : Nat → ClassId) (dI : Nat → Nat → Nat) (cI cZ cJ : ClassId) (h : Nat → Nat) (F : Nat → Nat → Int32) (G : Nat → Int64) (V : Nat → Int32) (n : Nat) (hV2 : V 2 = nI n) (bV2 : n ≤ 40) (nw : Nat) (hV3 : V 3 = nI nw) (bV3 : nw ≤ 23) (un : Nat) (hV4 : V 4 = nI un) (bV4 : un ≤ 200) (d : Nat) (hV6 : V 6 = nI d) (bV6 : d ≤ 20) (wm : Nat) (hV7 : V 7 = nI wm) (bV7 : wm ≤ 1) (pf : Nat) (hV10 : V 10 = nI pf) (bV10 : pf ≤ 24) (sh : Nat) (hV11 : V 11 = nI sh) (bV11 : sh ≤ 12) (So : Nat → Nat) (hSo : ∀ i, i < 40 → F 3 i = nI (So i)) (bSo : ∀ i, i < 40 → So i ≤ 90) (Lm : Nat → Nat) (hLm : ∀ i, i < 4 → F 4 i = nI (Lm i)) (bLm : ∀ i, i < 4 → Lm i ≤ 10000) (Hh : Nat → Nat) (hHh : ∀ i, i < 24 → F 7 i = nI (Hh i)) (bHh : ∀ i, i < 24 → Hh i ≤ 9) (Wd : Nat → Nat) (hWd : ∀ i, i < 24 → F 8 i = nI (Wd i)) (bWd : ∀ i, i < 24 → Wd i ≤ 99) (Pr : Nat → Nat) (hPr : ∀ i, i < 24 → F 9 i = nI (Pr i)) (bPr : ∀ i, i < 24 → Pr i ≤ 999) (X : Nat → Nat) (hX : ∀ i, i < n → F 1 i = nI (X i)) (bX : ∀ i, i < n → X i ≤ 14) (Y : Nat → Nat) (hY : ∀ i, i < n → F 2 i = nI (Y i)) (bY : ∀ i, i < n → Y i ≤ 14) (p0 : Int32)  (ks am : Nat) (hV8 : V 8 = nI am - 1) (bam : am ≤ 41) (hks : am - 1 = ks) (SX SY Kc Kp : Nat → Int32) (er : Int32) (rb : Nat → Bool) (hGP : GP n X Y) (hSX : ∀ i, i < 24 → F 5 i = SX i) (hSY : ∀ i, i < 24 → F 6 i = SY i) (hKc : ∀ i, i < ks → F 13 i = Kc i) (hKp : ∀ i, i < 4 → F 15 i = Kp i) (hE : V 5 = er) (hRB : ∀ t, pf ≤ t → t < 24 → F 17 t = bI (rb t)) : CtI l (dC, dI) vwCl (tys3 cI cZ cJ) yX5_soil wsX5_soil rm_X5_soil [.ref (h 0), .int p0] (wM cI cZ cJ h F G V) (S := (Nat → Nat → Int32) × (Nat → Int64) × (Nat → Int32)) (fun r u => (r = (bif inN p0 n then nI (So p0.toNatClampNeg) else (-1))) ∧ VM n d ks nw un wm pf So Hh Wd Lm Pr X Y SX SY Kc Kp er rb u.1 u.2.2) (fun u => wM cI cZ cJ h u.1 u.2.1 u.2.2) 0 0 := by
  refine ct_I (cc := cX5_soil) (maxL := 2) (ty := .int) (own := RX5) (by decide) rfl rfl (Nat.le_of_ble_eq_true rfl) (lv := [(0, .ref (h 0)), (1, .int p0)]) rfl ?_
  intro p e s m args below meth c A Q ls fx hK hP hD hA hl hret
  obtain ⟨hx, hb, hml, hown, hts⟩ := id fx
  have hS : va_S A s.heap s.heap [] := va_S.rf
  have hw0 := hts (.fieldLink RX5 1 "MirrorTowerModel" "thrown" "I") (by decide +kernel)
  have hin_X5 : ∀ w ∈ u_ws RX5 TX5 33, w ∈ wsX5_soil := by decide +kernel
  have hw2 := hts (.fieldLink RX5 26 "MirrorTowerModel" "soil" "[I") (by decide +kernel)
  obtain ⟨H, hH⟩ : ∃ H, H = s.heap := ⟨_, rfl⟩
  rw [← hH] at hP ⊢
  have hS : va_S A s.heap H [] := by rw [hH]; exact hS
  generalize ([] : List Loc) = locs at hS ⊢
  refine lv_aload_n hx hb dX5_soil_0 rfl (lv_at hl 0 rfl) ?_
  refine lv_iconst (v := 0) hx hb dX5_soil_1 (by decide) ?_
  refine va_put (D := (dC, dI)) (ci := 5) (v := .int 0) (ty := .int) (C := RX5) (T := TX5) (N := 33) hx hb hts hin_X5 tyX5 tyX5_ok nmX5 hown hK hP hD hS 0 rfl rfl 0 (by decide) hw0 (fun _ h9 => h9) rfl (by decide +kernel) rfl rfl (Nat.le_of_ble_eq_true rfl) dX5_soil_2 (fun H locs hP hD hS => ?_)
  have hP : va_P (dC, dI) vwCl (wM cI cZ cJ h F G (va_up V 0 0)) H := hP
  have hD : va_D A (wM cI cZ cJ h F G (va_up V 0 0)) := hD
  refine lv_aload_n hx hb dX5_soil_5 rfl (lv_at hl 0 rfl) ?_
  refine lv_iload_n hx hb dX5_soil_6 rfl (lv_at hl 1 rfl) ?_
  refine cw_Vi (As := [.int p0]) (rest := []) (c_X5_isMirror l dC dI cI cZ cJ h F G (va_up V 0 0) n hV2 (by omega) p0) fx (cwV 1 hts gX5_soil_X5_isMirror rfl rfl rfl (by decide +kernel) ⟨Nat.le_of_ble_eq_true rfl, Nat.le_of_ble_eq_true rfl⟩) hK hP hD hS hA 0 rfl rfl rfl rfl hl.1 rfl (Nat.le_of_ble_eq_true rfl) dX5_soil_7 ⟨Nat.le_of_ble_eq_true rfl, Nat.le_of_ble_eq_true rfl⟩ (fun r_1 u_2 H locs hw_3 hP hD hS => ?_)
  have hP : va_P (dC, dI) vwCl (wM cI cZ cJ h F G (va_up V 0 0)) H := hP
  have hD : va_D A (wM cI cZ cJ h F G (va_up V 0 0)) := hD
  have hw_3 : r_1 = bI ((!ltI p0 0 && ltI p0 (nI n))) := hw_3
  refine lv_if_eq (tgt := 22) hx hb dX5_soil_10 (by decide) (fun c_4 => ?_) (fun c_4 => ?_)
  · have c_4 : (!ltI p0 0 && ltI p0 (nI n)) = false := bI_f hw_3 c_4
    refine lv_iconst (v := (-1)) hx hb dX5_soil_22 (by decide) ?_
    exact hret (-1) (F, G, va_up V 0 0) H locs 23 ls rfl dX5_soil_23 (by
                  have hc_ : inN p0 n = false := by simp [inN, c_4]
                  refine ⟨?_, ?_⟩
                  · (try simp only [hc_, cond_true, cond_false])
                    first | done | exact rfl
                  · (try simp only [hc_, cond_true, cond_false])
                    exact ⟨⟨hV2, by omega⟩, ⟨hV3, by omega⟩, ⟨hV4, by omega⟩, ⟨hV6, by omega⟩, ⟨hV7, by omega⟩, ⟨hV10, by omega⟩, ⟨sh, hV11, by omega⟩, ⟨hSo, bSo⟩, ⟨hLm, bLm⟩, ⟨hHh, bHh⟩, ⟨hWd, bWd⟩, ⟨hPr, bPr⟩, ⟨hX, bX⟩, ⟨hY, bY⟩, ⟨am, hV8, by omega, by omega⟩, hGP, (fun i hi => (congrFun (Eq.refl (F 5)) i).trans (hSX i hi)), (fun i hi => (congrFun (Eq.refl (F 6)) i).trans (hSY i hi)), (fun i hi => (congrFun (Eq.refl (F 13)) i).trans (hKc i hi)), (fun i hi => (congrFun (Eq.refl (F 15)) i).trans (hKp i hi)), ((show (va_up V 0 0) 5 = V 5 from rfl)).trans hE, (fun t h1 h2 => (congrFun (Eq.refl (F 17)) t).trans (hRB t h1 h2))⟩) (hP) (hD) hS
  · have c_4 : (!ltI p0 0 && ltI p0 (nI n)) = true := bI_t hw_3 c_4
    refine lv_aload_n hx hb dX5_soil_13 rfl (lv_at hl 0 rfl) ?_
    refine va_get (D := (dC, dI)) (ci := 5) (v := .ref (h 3)) (C := RX5) (T := TX5) (N := 33) hx hb hts hin_X5 hown hK hP 0 rfl rfl 10 (by decide) hw2 (fun _ h9 => h9) rfl dX5_soil_14 ?_
    refine lv_iload_n hx hb dX5_soil_17 rfl (lv_at hl 1 rfl) ?_
    obtain ⟨k0, hk0, rfl⟩ := mir_nat bV2 c_4
    refine va_iald hx hb hK hP 3 0 rfl rfl (vp_in_nI (n := k0) (N := 40) (by omega) (by decide)) dX5_soil_18 ?_
    have hb_5 := bSo k0 (by omega)
    refine lv_topi (fun x_6 ex_6 => ?_)
    obtain rfl : x_6 = nI (So k0) := ex_6.trans ((congrArg (F 3) (nI_clamp (n := k0) (by omega))).trans (hSo k0 (by omega)))
    refine lv_goto (tgt := 23) hx hb dX5_soil_19 (by decide) ?_
    exact hret (nI (So k0)) (F, G, va_up V 0 0) H locs 23 ls rfl dX5_soil_23 (by
                  have hc_ : inN (nI k0) n = true := by simp [inN, c_4]
                  refine ⟨?_, ?_⟩
                  · (try simp only [hc_, cond_true, cond_false, nI_clamp (show k0 < 2 ^ 31 by omega)])
                    first | done | exact rfl
                  · (try simp only [hc_, cond_true, cond_false, nI_clamp (show k0 < 2 ^ 31 by omega)])
                    exact ⟨⟨hV2, by omega⟩, ⟨hV3, by omega⟩, ⟨hV4, by omega⟩, ⟨hV6, by omega⟩, ⟨hV7, by omega⟩, ⟨hV10, by omega⟩, ⟨sh, hV11, by omega⟩, ⟨hSo, bSo⟩, ⟨hLm, bLm⟩, ⟨hHh, bHh⟩, ⟨hWd, bWd⟩, ⟨hPr, bPr⟩, ⟨hX, bX⟩, ⟨hY, bY⟩, ⟨am, hV8, by omega, by omega⟩, hGP, (fun i hi => (congrFun (Eq.refl (F 5)) i).trans (hSX i hi)), (fun i hi => (congrFun (Eq.refl (F 6)) i).trans (hSY i hi)), (fun i hi => (congrFun (Eq.refl (F 13)) i).trans (hKc i hi)), (fun i hi => (congrFun (Eq.refl (F 15)) i).trans (hKp i hi)), ((show (va_up V 0 0) 5 = V 5 from rfl)).trans hE, (fun t h1 h2 => (congrFun (Eq.refl (F 17)) t).trans (hRB t h1 h2))⟩) (hP) (hD) hS
def rm_X5_aimed : Room := { frames := 0, cells := 0, slots := 0, locals := 0 }
set_option maxHeartbeats 4000000 in
set_option maxRecDepth 100000 in
theorem c_X5_aimed (l : Launch) (dC : Nat → ClassId) (dI : Nat → Nat → Nat) (cI cZ cJ : ClassId) (h : Nat → Nat) (F : Nat → Nat → Int32) (G : Nat → Int64) (V : Nat → Int32) (n : Nat) (hV2 : V 2 = nI n) (bV2 : n ≤ 40) (nw : Nat) (hV3 : V 3 = nI nw) (bV3 : nw ≤ 23) (un : Nat) (hV4 : V 4 = nI un) (bV4 : un ≤ 200) (d : Nat) (hV6 : V 6 = nI d) (bV6 : d ≤ 20) (wm : Nat) (hV7 : V 7 = nI wm) (bV7 : wm ≤ 1) (pf : Nat) (hV10 : V 10 = nI pf) (bV10 : pf ≤ 24) (sh : Nat) (hV11 : V 11 = nI sh) (bV11 : sh ≤ 12) (So : Nat → Nat) (hSo : ∀ i, i < 40 → F 3 i = nI (So i)) (bSo : ∀ i, i < 40 → So i ≤ 90) (Lm : Nat → Nat) (hLm : ∀ i, i < 4 → F 4 i = nI (Lm i)) (bLm : ∀ i, i < 4 → Lm i ≤ 10000) (Hh : Nat → Nat) (hHh : ∀ i, i < 24 → F 7 i = nI (Hh i)) (bHh : ∀ i, i < 24 → Hh i ≤ 9) (Wd : Nat → Nat) (hWd : ∀ i, i < 24 → F 8 i = nI (Wd i)) (bWd : ∀ i, i < 24 → Wd i ≤ 99) (Pr : Nat → Nat) (hPr : ∀ i, i < 24 → F 9 i = nI (Pr i)) (bPr : ∀ i, i < 24 → Pr i ≤ 999) (X : Nat → Nat) (hX : ∀ i, i < n → F 1 i = nI (X i)) (bX : ∀ i, i < n → X i ≤ 14) (Y : Nat → Nat) (hY : ∀ i, i < n → F 2 i = nI (Y i)) (bY : ∀ i, i < n → Y i ≤ 14) (p0 : Int32)  (ks am : Nat) (hV8 : V 8 = nI am - 1) (bam : am ≤ 41) (hks : am - 1 = ks) (SX SY Kc Kp : Nat → Int32) (er : Int32) (rb : Nat → Bool) (hGP : GP n X Y) (hSX : ∀ i, i < 24 → F 5 i = SX i) (hSY : ∀ i, i < 24 → F 6 i = SY i) (hKc : ∀ i, i < ks → F 13 i = Kc i) (hKp : ∀ i, i < 4 → F 15 i = Kp i) (hE : V 5 = er) (hRB : ∀ t, pf ≤ t → t < 24 → F 17 t = bI (rb t)) : CtI l (dC, dI) vwCl (tys3 cI cZ cJ) yX5_aimed wsX5_aimed rm_X5_aimed [.ref (h 0), .int p0] (wM cI cZ cJ h F G V) (S := (Nat → Nat → Int32) × (Nat → Int64) × (Nat → Int32)) (fun r u => (r = (bif inN p0 ks then Kc p0.toNatClampNeg else (-1))) ∧ VM n d ks nw un wm pf So Hh Wd Lm Pr X Y SX SY Kc Kp er rb u.1 u.2.2) (fun u => wM cI cZ cJ h u.1 u.2.1 u.2.2) 0 0 := by
  refine ct_I (cc := cX5_aimed) (maxL := 2) (ty := .int) (own := RX5) (by decide) rfl rfl (Nat.le_of_ble_eq_true rfl) (lv := [(0, .ref (h 0)), (1, .int p0)]) rfl ?_
  intro p e s m args below meth c A Q ls fx hK hP hD hA hl hret
  obtain ⟨hx, hb, hml, hown, hts⟩ := id fx
  have hS : va_S A s.heap s.heap [] := va_S.rf
  have hw0 := hts (.fieldLink RX5 1 "MirrorTowerModel" "thrown" "I") (by decide +kernel)
  have hin_X5 : ∀ w ∈ u_ws RX5 TX5 33, w ∈ wsX5_aimed := by decide +kernel
  have hw2 := hts (.fieldLink RX5 65 "MirrorTowerModel" "aimedMirrors" "I") (by decide +kernel)
  have hw3 := hts (.fieldLink RX5 56 "MirrorTowerModel" "aimed" "[I") (by decide +kernel)
  obtain ⟨H, hH⟩ : ∃ H, H = s.heap := ⟨_, rfl⟩
  rw [← hH] at hP ⊢
  have hS : va_S A s.heap H [] := by rw [hH]; exact hS
  generalize ([] : List Loc) = locs at hS ⊢
  refine lv_aload_n hx hb dX5_aimed_0 rfl (lv_at hl 0 rfl) ?_
  refine lv_iconst (v := 0) hx hb dX5_aimed_1 (by decide) ?_
  refine va_put (D := (dC, dI)) (ci := 5) (v := .int 0) (ty := .int) (C := RX5) (T := TX5) (N := 33) hx hb hts hin_X5 tyX5 tyX5_ok nmX5 hown hK hP hD hS 0 rfl rfl 0 (by decide) hw0 (fun _ h9 => h9) rfl (by decide +kernel) rfl rfl (Nat.le_of_ble_eq_true rfl) dX5_aimed_2 (fun H locs hP hD hS => ?_)
  have hP : va_P (dC, dI) vwCl (wM cI cZ cJ h F G (va_up V 0 0)) H := hP
  have hD : va_D A (wM cI cZ cJ h F G (va_up V 0 0)) := hD
  refine lv_iload_n hx hb dX5_aimed_5 rfl (lv_at hl 1 rfl) ?_
  refine lv_if_lt (tgt := 26) hx hb dX5_aimed_6 (by decide) (fun c_1 => ?_) (fun c_1 => ?_)
  · have c_1 : ltI p0 0 = true := decide_eq_true c_1
    refine lv_iconst (v := (-1)) hx hb dX5_aimed_26 (by decide) ?_
    exact hret (-1) (F, G, va_up V 0 0) H locs 27 ls rfl dX5_aimed_27 (by
                  have hc_ : inN p0 ks = false := by simp [inN, c_1]
                  refine ⟨?_, ?_⟩
                  · (try simp only [hc_, cond_true, cond_false])
                    first | done | exact rfl
                  · (try simp only [hc_, cond_true, cond_false])
                    exact ⟨⟨hV2, by omega⟩, ⟨hV3, by omega⟩, ⟨hV4, by omega⟩, ⟨hV6, by omega⟩, ⟨hV7, by omega⟩, ⟨hV10, by omega⟩, ⟨sh, hV11, by omega⟩, ⟨hSo, bSo⟩, ⟨hLm, bLm⟩, ⟨hHh, bHh⟩, ⟨hWd, bWd⟩, ⟨hPr, bPr⟩, ⟨hX, bX⟩, ⟨hY, bY⟩, ⟨am, hV8, by omega, by omega⟩, hGP, (fun i hi => (congrFun (Eq.refl (F 5)) i).trans (hSX i hi)), (fun i hi => (congrFun (Eq.refl (F 6)) i).trans (hSY i hi)), (fun i hi => (congrFun (Eq.refl (F 13)) i).trans (hKc i hi)), (fun i hi => (congrFun (Eq.refl (F 15)) i).trans (hKp i hi)), ((show (va_up V 0 0) 5 = V 5 from rfl)).trans hE, (fun t h1 h2 => (congrFun (Eq.refl (F 17)) t).trans (hRB t h1 h2))⟩) (hP) (hD) hS
  · have c_1 : ltI p0 0 = false := decide_eq_false c_1
    refine lv_iload_n hx hb dX5_aimed_9 rfl (lv_at hl 1 rfl) ?_
    refine lv_aload_n hx hb dX5_aimed_10 rfl (lv_at hl 0 rfl) ?_
    refine va_get (D := (dC, dI)) (ci := 5) (v := .int (V 8)) (C := RX5) (T := TX5) (N := 33) hx hb hts hin_X5 hown hK hP 0 rfl rfl 23 (by decide) hw2 (fun _ h9 => h9) rfl dX5_aimed_11 ?_
    refine lv_icmp_ge (tgt := 26) hx hb dX5_aimed_14 (by decide) (fun c_2 => ?_) (fun c_2 => ?_)
    · have c_2 : ltI p0 (V 8) = false := decide_eq_false (Int32.not_lt.mpr c_2)
      refine lv_iconst (v := (-1)) hx hb dX5_aimed_26 (by decide) ?_
      exact hret (-1) (F, G, va_up V 0 0) H locs 27 ls rfl dX5_aimed_27 (by
                    have hi_ := am_in (p := p0) hV8 bam hks c_1
                    rw [c_2] at hi_
                    have hc_ : inN p0 ks = false := hi_.symm
                    refine ⟨?_, ?_⟩
                    · (try simp only [hc_, cond_true, cond_false])
                      first | done | exact rfl
                    · (try simp only [hc_, cond_true, cond_false])
                      exact ⟨⟨hV2, by omega⟩, ⟨hV3, by omega⟩, ⟨hV4, by omega⟩, ⟨hV6, by omega⟩, ⟨hV7, by omega⟩, ⟨hV10, by omega⟩, ⟨sh, hV11, by omega⟩, ⟨hSo, bSo⟩, ⟨hLm, bLm⟩, ⟨hHh, bHh⟩, ⟨hWd, bWd⟩, ⟨hPr, bPr⟩, ⟨hX, bX⟩, ⟨hY, bY⟩, ⟨am, hV8, by omega, by omega⟩, hGP, (fun i hi => (congrFun (Eq.refl (F 5)) i).trans (hSX i hi)), (fun i hi => (congrFun (Eq.refl (F 6)) i).trans (hSY i hi)), (fun i hi => (congrFun (Eq.refl (F 13)) i).trans (hKc i hi)), (fun i hi => (congrFun (Eq.refl (F 15)) i).trans (hKp i hi)), ((show (va_up V 0 0) 5 = V 5 from rfl)).trans hE, (fun t h1 h2 => (congrFun (Eq.refl (F 17)) t).trans (hRB t h1 h2))⟩) (hP) (hD) hS
    · have c_2 : ltI p0 (V 8) = true := decide_eq_true (Int32.not_le.mp c_2)
      refine lv_aload_n hx hb dX5_aimed_17 rfl (lv_at hl 0 rfl) ?_
      refine va_get (D := (dC, dI)) (ci := 5) (v := .ref (h 13)) (C := RX5) (T := TX5) (N := 33) hx hb hts hin_X5 hown hK hP 0 rfl rfl 20 (by decide) hw3 (fun _ h9 => h9) rfl dX5_aimed_18 ?_
      refine lv_iload_n hx hb dX5_aimed_21 rfl (lv_at hl 1 rfl) ?_
      obtain ⟨k0, hk0, rfl⟩ := aim_nat hV8 bam c_1 c_2
      refine va_iald hx hb hK hP 13 0 rfl rfl (vp_in_nI (n := k0) (N := 40) (by omega) (by decide)) dX5_aimed_22 ?_
      refine lv_topi (fun x_3 ex_3 => ?_)
      rw [nI_clamp (n := k0) (by omega)] at ex_3
      refine lv_goto (tgt := 27) hx hb dX5_aimed_23 (by decide) ?_
      exact hret x_3 (F, G, va_up V 0 0) H locs 27 ls rfl dX5_aimed_27 (by
                    have hi_ := am_in (p := nI k0) hV8 bam hks c_1
                    rw [c_2] at hi_
                    have hk_ : k0 < ks := of_decide_eq_true ((inN_nI (by omega) (by omega)).symm.trans hi_.symm)
                    have hc_ : inN (nI k0) ks = true := hi_.symm
                    refine ⟨?_, ?_⟩
                    · (try simp only [hc_, cond_true, cond_false, nI_clamp (show k0 < 2 ^ 31 by omega)])
                      first | done | exact (ex_3).trans (hKc k0 hk_)
                    · (try simp only [hc_, cond_true, cond_false, nI_clamp (show k0 < 2 ^ 31 by omega)])
                      exact ⟨⟨hV2, by omega⟩, ⟨hV3, by omega⟩, ⟨hV4, by omega⟩, ⟨hV6, by omega⟩, ⟨hV7, by omega⟩, ⟨hV10, by omega⟩, ⟨sh, hV11, by omega⟩, ⟨hSo, bSo⟩, ⟨hLm, bLm⟩, ⟨hHh, bHh⟩, ⟨hWd, bWd⟩, ⟨hPr, bPr⟩, ⟨hX, bX⟩, ⟨hY, bY⟩, ⟨am, hV8, by omega, by omega⟩, hGP, (fun i hi => (congrFun (Eq.refl (F 5)) i).trans (hSX i hi)), (fun i hi => (congrFun (Eq.refl (F 6)) i).trans (hSY i hi)), (fun i hi => (congrFun (Eq.refl (F 13)) i).trans (hKc i hi)), (fun i hi => (congrFun (Eq.refl (F 15)) i).trans (hKp i hi)), ((show (va_up V 0 0) 5 = V 5 from rfl)).trans hE, (fun t h1 h2 => (congrFun (Eq.refl (F 17)) t).trans (hRB t h1 h2))⟩) (hP) (hD) hS
def rm_X5_face : Room := { frames := 1, cells := 0, slots := 0, locals := 22 }
set_option maxHeartbeats 4000000 in
set_option maxRecDepth 100000 in
theorem c_X5_face (l : Launch) (dC : Nat → ClassId) (dI : Nat → Nat → Nat) (cI cZ cJ : ClassId) (h : Nat → Nat) (F : Nat → Nat → Int32) (G : Nat → Int64) (V : Nat → Int32) (n : Nat) (hV2 : V 2 = nI n) (bV2 : n ≤ 40) (nw : Nat) (hV3 : V 3 = nI nw) (bV3 : nw ≤ 23) (un : Nat) (hV4 : V 4 = nI un) (bV4 : un ≤ 200) (d : Nat) (hV6 : V 6 = nI d) (bV6 : d ≤ 20) (wm : Nat) (hV7 : V 7 = nI wm) (bV7 : wm ≤ 1) (pf : Nat) (hV10 : V 10 = nI pf) (bV10 : pf ≤ 24) (sh : Nat) (hV11 : V 11 = nI sh) (bV11 : sh ≤ 12) (So : Nat → Nat) (hSo : ∀ i, i < 40 → F 3 i = nI (So i)) (bSo : ∀ i, i < 40 → So i ≤ 90) (Lm : Nat → Nat) (hLm : ∀ i, i < 4 → F 4 i = nI (Lm i)) (bLm : ∀ i, i < 4 → Lm i ≤ 10000) (Hh : Nat → Nat) (hHh : ∀ i, i < 24 → F 7 i = nI (Hh i)) (bHh : ∀ i, i < 24 → Hh i ≤ 9) (Wd : Nat → Nat) (hWd : ∀ i, i < 24 → F 8 i = nI (Wd i)) (bWd : ∀ i, i < 24 → Wd i ≤ 99) (Pr : Nat → Nat) (hPr : ∀ i, i < 24 → F 9 i = nI (Pr i)) (bPr : ∀ i, i < 24 → Pr i ≤ 999) (X : Nat → Nat) (hX : ∀ i, i < n → F 1 i = nI (X i)) (bX : ∀ i, i < n → X i ≤ 14) (Y : Nat → Nat) (hY : ∀ i, i < n → F 2 i = nI (Y i)) (bY : ∀ i, i < n → Y i ≤ 14) (p0 : Int32)  (ks am : Nat) (hV8 : V 8 = nI am - 1) (bam : am ≤ 41) (hks : am - 1 = ks) (SX SY Kc Kp : Nat → Int32) (er : Int32) (rb : Nat → Bool) (hGP : GP n X Y) (hSX : ∀ i, i < 24 → F 5 i = SX i) (hSY : ∀ i, i < 24 → F 6 i = SY i) (hKc : ∀ i, i < ks → F 13 i = Kc i) (hKp : ∀ i, i < 4 → F 15 i = Kp i) (hE : V 5 = er) (hRB : ∀ t, pf ≤ t → t < 24 → F 17 t = bI (rb t)) : CtI l (dC, dI) vwCl (tys3 cI cZ cJ) yX5_face wsX5_face rm_X5_face [.ref (h 0), .int p0] (wM cI cZ cJ h F G V) (S := (Nat → Nat → Int32) × (Nat → Int64) × (Nat → Int32)) (fun r u => (r = (bif isW p0 0 3 then Kp p0.toNatClampNeg else (-1))) ∧ VM n d ks nw un wm pf So Hh Wd Lm Pr X Y SX SY Kc Kp er rb u.1 u.2.2) (fun u => wM cI cZ cJ h u.1 u.2.1 u.2.2) 0 0 := by
  refine ct_I (cc := cX5_face) (maxL := 2) (ty := .int) (own := RX5) (by decide) rfl rfl (Nat.le_of_ble_eq_true rfl) (lv := [(0, .ref (h 0)), (1, .int p0)]) rfl ?_
  intro p e s m args below meth c A Q ls fx hK hP hD hA hl hret
  obtain ⟨hx, hb, hml, hown, hts⟩ := id fx
  have hS : va_S A s.heap s.heap [] := va_S.rf
  have hw0 := hts (.fieldLink RX5 1 "MirrorTowerModel" "thrown" "I") (by decide +kernel)
  have hin_X5 : ∀ w ∈ u_ws RX5 TX5 33, w ∈ wsX5_face := by decide +kernel
  have hw2 := hts (.fieldLink RX5 62 "MirrorTowerModel" "atFace" "[I") (by decide +kernel)
  obtain ⟨H, hH⟩ : ∃ H, H = s.heap := ⟨_, rfl⟩
  rw [← hH] at hP ⊢
  have hS : va_S A s.heap H [] := by rw [hH]; exact hS
  generalize ([] : List Loc) = locs at hS ⊢
  refine lv_aload_n hx hb dX5_face_0 rfl (lv_at hl 0 rfl) ?_
  refine lv_iconst (v := 0) hx hb dX5_face_1 (by decide) ?_
  refine va_put (D := (dC, dI)) (ci := 5) (v := .int 0) (ty := .int) (C := RX5) (T := TX5) (N := 33) hx hb hts hin_X5 tyX5 tyX5_ok nmX5 hown hK hP hD hS 0 rfl rfl 0 (by decide) hw0 (fun _ h9 => h9) rfl (by decide +kernel) rfl rfl (Nat.le_of_ble_eq_true rfl) dX5_face_2 (fun H locs hP hD hS => ?_)
  have hP : va_P (dC, dI) vwCl (wM cI cZ cJ h F G (va_up V 0 0)) H := hP
  have hD : va_D A (wM cI cZ cJ h F G (va_up V 0 0)) := hD
  refine lv_iload_n hx hb dX5_face_5 rfl (lv_at hl 1 rfl) ?_
  refine lv_iconst (v := 0) hx hb dX5_face_6 (by decide) ?_
  refine lv_iconst (v := 3) hx hb dX5_face_7 (by decide) ?_
  refine cw_Si (As := [.int p0, .int 0, .int 3]) (rest := []) (c_X5_in l dC dI cI cZ cJ (wM cI cZ cJ h F G (va_up V 0 0)) p0 0 3) fx (va_cwS 3 hts gX5_face_X5_in rfl rfl rfl (by decide +kernel) ⟨Nat.le_of_ble_eq_true rfl, Nat.le_of_ble_eq_true rfl⟩) hK hP hD hS hA rfl hl.1 rfl (Nat.le_of_ble_eq_true rfl) dX5_face_8 ⟨Nat.le_of_ble_eq_true rfl, Nat.le_of_ble_eq_true rfl⟩ (fun r_1 u_2 H locs hw_3 hP hD hS => ?_)
  have hP : va_P (dC, dI) vwCl (wM cI cZ cJ h F G (va_up V 0 0)) H := hP
  have hD : va_D A (wM cI cZ cJ h F G (va_up V 0 0)) := hD
  have hw_3 : r_1 = bI (isW p0 0 3) := hw_3
  refine lv_if_eq (tgt := 23) hx hb dX5_face_11 (by decide) (fun c_4 => ?_) (fun c_4 => ?_)
  · have c_4 : isW p0 0 3 = false := bI_f hw_3 c_4
    refine lv_iconst (v := (-1)) hx hb dX5_face_23 (by decide) ?_
    exact hret (-1) (F, G, va_up V 0 0) H locs 24 ls rfl dX5_face_24 (by
                  have hc_ : isW p0 0 3 = false := by simp [c_4]
                  refine ⟨?_, ?_⟩
                  · (try simp only [hc_, cond_true, cond_false])
                    first | done | exact rfl
                  · (try simp only [hc_, cond_true, cond_false])
                    exact ⟨⟨hV2, by omega⟩, ⟨hV3, by omega⟩, ⟨hV4, by omega⟩, ⟨hV6, by omega⟩, ⟨hV7, by omega⟩, ⟨hV10, by omega⟩, ⟨sh, hV11, by omega⟩, ⟨hSo, bSo⟩, ⟨hLm, bLm⟩, ⟨hHh, bHh⟩, ⟨hWd, bWd⟩, ⟨hPr, bPr⟩, ⟨hX, bX⟩, ⟨hY, bY⟩, ⟨am, hV8, by omega, by omega⟩, hGP, (fun i hi => (congrFun (Eq.refl (F 5)) i).trans (hSX i hi)), (fun i hi => (congrFun (Eq.refl (F 6)) i).trans (hSY i hi)), (fun i hi => (congrFun (Eq.refl (F 13)) i).trans (hKc i hi)), (fun i hi => (congrFun (Eq.refl (F 15)) i).trans (hKp i hi)), ((show (va_up V 0 0) 5 = V 5 from rfl)).trans hE, (fun t h1 h2 => (congrFun (Eq.refl (F 17)) t).trans (hRB t h1 h2))⟩) (hP) (hD) hS
  · have c_4 : isW p0 0 3 = true := bI_t hw_3 c_4
    refine lv_aload_n hx hb dX5_face_14 rfl (lv_at hl 0 rfl) ?_
    refine va_get (D := (dC, dI)) (ci := 5) (v := .ref (h 15)) (C := RX5) (T := TX5) (N := 33) hx hb hts hin_X5 hown hK hP 0 rfl rfl 22 (by decide) hw2 (fun _ h9 => h9) rfl dX5_face_15 ?_
    refine lv_iload_n hx hb dX5_face_18 rfl (lv_at hl 1 rfl) ?_
    obtain ⟨k0, hk0, rfl⟩ := isW_nat (M := 3) (n := 3) (by decide) c_4
    refine va_iald hx hb hK hP 15 0 rfl rfl (vp_in_nI (n := k0) (N := 4) (by omega) (by decide)) dX5_face_19 ?_
    refine lv_topi (fun x_5 ex_5 => ?_)
    rw [nI_clamp (n := k0) (by omega)] at ex_5
    refine lv_goto (tgt := 24) hx hb dX5_face_20 (by decide) ?_
    exact hret x_5 (F, G, va_up V 0 0) H locs 24 ls rfl dX5_face_24 (by
                  have hc_ : isW (nI k0) 0 3 = true := by simp [c_4]
                  refine ⟨?_, ?_⟩
                  · (try simp only [hc_, cond_true, cond_false, nI_clamp (show k0 < 2 ^ 31 by omega)])
                    first | done | exact (ex_5).trans (hKp k0 (by omega))
                  · (try simp only [hc_, cond_true, cond_false, nI_clamp (show k0 < 2 ^ 31 by omega)])
                    exact ⟨⟨hV2, by omega⟩, ⟨hV3, by omega⟩, ⟨hV4, by omega⟩, ⟨hV6, by omega⟩, ⟨hV7, by omega⟩, ⟨hV10, by omega⟩, ⟨sh, hV11, by omega⟩, ⟨hSo, bSo⟩, ⟨hLm, bLm⟩, ⟨hHh, bHh⟩, ⟨hWd, bWd⟩, ⟨hPr, bPr⟩, ⟨hX, bX⟩, ⟨hY, bY⟩, ⟨am, hV8, by omega, by omega⟩, hGP, (fun i hi => (congrFun (Eq.refl (F 5)) i).trans (hSX i hi)), (fun i hi => (congrFun (Eq.refl (F 6)) i).trans (hSY i hi)), (fun i hi => (congrFun (Eq.refl (F 13)) i).trans (hKc i hi)), (fun i hi => (congrFun (Eq.refl (F 15)) i).trans (hKp i hi)), ((show (va_up V 0 0) 5 = V 5 from rfl)).trans hE, (fun t h1 h2 => (congrFun (Eq.refl (F 17)) t).trans (hRB t h1 h2))⟩) (hP) (hD) hS
def rm_X5_comes : Room := { frames := 4, cells := 0, slots := 0, locals := 104 }
set_option maxHeartbeats 4000000 in
set_option maxRecDepth 100000 in
theorem c_X5_comes (l : Launch) (dC : Nat → ClassId) (dI : Nat → Nat → Nat) (cI cZ cJ : ClassId) (h : Nat → Nat) (F : Nat → Nat → Int32) (G : Nat → Int64) (V : Nat → Int32) (n : Nat) (hV2 : V 2 = nI n) (bV2 : n ≤ 40) (nw : Nat) (hV3 : V 3 = nI nw) (bV3 : nw ≤ 23) (un : Nat) (hV4 : V 4 = nI un) (bV4 : un ≤ 200) (d : Nat) (hV6 : V 6 = nI d) (bV6 : d ≤ 20) (wm : Nat) (hV7 : V 7 = nI wm) (bV7 : wm ≤ 1) (pf : Nat) (hV10 : V 10 = nI pf) (bV10 : pf ≤ 24) (sh : Nat) (hV11 : V 11 = nI sh) (bV11 : sh ≤ 12) (So : Nat → Nat) (hSo : ∀ i, i < 40 → F 3 i = nI (So i)) (bSo : ∀ i, i < 40 → So i ≤ 90) (Lm : Nat → Nat) (hLm : ∀ i, i < 4 → F 4 i = nI (Lm i)) (bLm : ∀ i, i < 4 → Lm i ≤ 10000) (Hh : Nat → Nat) (hHh : ∀ i, i < 24 → F 7 i = nI (Hh i)) (bHh : ∀ i, i < 24 → Hh i ≤ 9) (Wd : Nat → Nat) (hWd : ∀ i, i < 24 → F 8 i = nI (Wd i)) (bWd : ∀ i, i < 24 → Wd i ≤ 99) (Pr : Nat → Nat) (hPr : ∀ i, i < 24 → F 9 i = nI (Pr i)) (bPr : ∀ i, i < 24 → Pr i ≤ 999) (X : Nat → Nat) (hX : ∀ i, i < n → F 1 i = nI (X i)) (bX : ∀ i, i < n → X i ≤ 14) (Y : Nat → Nat) (hY : ∀ i, i < n → F 2 i = nI (Y i)) (bY : ∀ i, i < n → Y i ≤ 14) (p0 : Int32)  (ks am : Nat) (hV8 : V 8 = nI am - 1) (bam : am ≤ 41) (hks : am - 1 = ks) (SX SY Kc Kp : Nat → Int32) (er : Int32) (rb : Nat → Bool) (hGP : GP n X Y) (hSX : ∀ i, i < 24 → F 5 i = SX i) (hSY : ∀ i, i < 24 → F 6 i = SY i) (hKc : ∀ i, i < ks → F 13 i = Kc i) (hKp : ∀ i, i < 4 → F 15 i = Kp i) (hE : V 5 = er) (hRB : ∀ t, pf ≤ t → t < 24 → F 17 t = bI (rb t)) : CtI l (dC, dI) vwCl (tys3 cI cZ cJ) yX5_comes wsX5_comes rm_X5_comes [.ref (h 0), .int p0] (wM cI cZ cJ h F G V) (S := (Nat → Nat → Int32) × (Nat → Int64) × (Nat → Int32)) (fun r u => (r = (bif isW p0 (nI nw) 23 then nI (htA (pwA X Y n SX SY Hh So Wd p0.toNatClampNeg ((p0.toNatClampNeg - nw) * d)) Lm n) else (-1))) ∧ VM n d ks nw un wm pf So Hh Wd Lm Pr X Y SX SY Kc Kp er rb u.1 u.2.2) (fun u => wM cI cZ cJ h u.1 u.2.1 u.2.2) 0 0 := by
  refine ct_I (cc := cX5_comes) (maxL := 2) (ty := .int) (own := RX5) (by decide) rfl rfl (Nat.le_of_ble_eq_true rfl) (lv := [(0, .ref (h 0)), (1, .int p0)]) rfl ?_
  intro p e s m args below meth c A Q ls fx hK hP hD hA hl hret
  obtain ⟨hx, hb, hml, hown, hts⟩ := id fx
  have hS : va_S A s.heap s.heap [] := va_S.rf
  have hw0 := hts (.fieldLink RX5 1 "MirrorTowerModel" "thrown" "I") (by decide +kernel)
  have hin_X5 : ∀ w ∈ u_ws RX5 TX5 33, w ∈ wsX5_comes := by decide +kernel
  have hw2 := hts (.fieldLink RX5 154 "MirrorTowerModel" "now" "I") (by decide +kernel)
  have hw3 := hts (.fieldLink RX5 16 "MirrorTowerModel" "dust" "I") (by decide +kernel)
  obtain ⟨H, hH⟩ : ∃ H, H = s.heap := ⟨_, rfl⟩
  rw [← hH] at hP ⊢
  have hS : va_S A s.heap H [] := by rw [hH]; exact hS
  generalize ([] : List Loc) = locs at hS ⊢
  refine lv_aload_n hx hb dX5_comes_0 rfl (lv_at hl 0 rfl) ?_
  refine lv_iconst (v := 0) hx hb dX5_comes_1 (by decide) ?_
  refine va_put (D := (dC, dI)) (ci := 5) (v := .int 0) (ty := .int) (C := RX5) (T := TX5) (N := 33) hx hb hts hin_X5 tyX5 tyX5_ok nmX5 hown hK hP hD hS 0 rfl rfl 0 (by decide) hw0 (fun _ h9 => h9) rfl (by decide +kernel) rfl rfl (Nat.le_of_ble_eq_true rfl) dX5_comes_2 (fun H locs hP hD hS => ?_)
  have hP : va_P (dC, dI) vwCl (wM cI cZ cJ h F G (va_up V 0 0)) H := hP
  have hD : va_D A (wM cI cZ cJ h F G (va_up V 0 0)) := hD
  refine lv_iload_n hx hb dX5_comes_5 rfl (lv_at hl 1 rfl) ?_
  refine lv_aload_n hx hb dX5_comes_6 rfl (lv_at hl 0 rfl) ?_
  refine va_get (D := (dC, dI)) (ci := 5) (v := .int (V 3)) (C := RX5) (T := TX5) (N := 33) hx hb hts hin_X5 hown hK hP 0 rfl rfl 3 (by decide) hw2 (fun _ h9 => h9) rfl dX5_comes_7 ?_
  refine lv_topi (fun x_1 ex_1 => ?_)
  obtain rfl : x_1 = nI nw := ex_1.trans (hV3)
  refine lv_bipush (v := 23) hx hb dX5_comes_10 (by decide) ?_
  refine cw_Si (As := [.int p0, .int (nI nw), .int 23]) (rest := []) (c_X5_in l dC dI cI cZ cJ (wM cI cZ cJ h F G (va_up V 0 0)) p0 (nI nw) 23) fx (va_cwS 3 hts gX5_comes_X5_in rfl rfl rfl (by decide +kernel) ⟨Nat.le_of_ble_eq_true rfl, Nat.le_of_ble_eq_true rfl⟩) hK hP hD hS hA rfl hl.1 rfl (Nat.le_of_ble_eq_true rfl) dX5_comes_12 ⟨Nat.le_of_ble_eq_true rfl, Nat.le_of_ble_eq_true rfl⟩ (fun r_2 u_3 H locs hw_4 hP hD hS => ?_)
  have hP : va_P (dC, dI) vwCl (wM cI cZ cJ h F G (va_up V 0 0)) H := hP
  have hD : va_D A (wM cI cZ cJ h F G (va_up V 0 0)) := hD
  have hw_4 : r_2 = bI (isW p0 (nI nw) 23) := hw_4
  refine lv_if_eq (tgt := 37) hx hb dX5_comes_15 (by decide) (fun c_5 => ?_) (fun c_5 => ?_)
  · have c_5 : isW p0 (nI nw) 23 = false := bI_f hw_4 c_5
    refine lv_iconst (v := (-1)) hx hb dX5_comes_37 (by decide) ?_
    exact hret (-1) (F, G, va_up V 0 0) H locs 38 ls rfl dX5_comes_38 (by
                  have hc_ : isW p0 (nI nw) 23 = false := by simp [c_5]
                  refine ⟨?_, ?_⟩
                  · (try simp only [hc_, cond_true, cond_false])
                    first | done | exact rfl
                  · (try simp only [hc_, cond_true, cond_false])
                    exact ⟨⟨hV2, by omega⟩, ⟨hV3, by omega⟩, ⟨hV4, by omega⟩, ⟨hV6, by omega⟩, ⟨hV7, by omega⟩, ⟨hV10, by omega⟩, ⟨sh, hV11, by omega⟩, ⟨hSo, bSo⟩, ⟨hLm, bLm⟩, ⟨hHh, bHh⟩, ⟨hWd, bWd⟩, ⟨hPr, bPr⟩, ⟨hX, bX⟩, ⟨hY, bY⟩, ⟨am, hV8, by omega, by omega⟩, hGP, (fun i hi => (congrFun (Eq.refl (F 5)) i).trans (hSX i hi)), (fun i hi => (congrFun (Eq.refl (F 6)) i).trans (hSY i hi)), (fun i hi => (congrFun (Eq.refl (F 13)) i).trans (hKc i hi)), (fun i hi => (congrFun (Eq.refl (F 15)) i).trans (hKp i hi)), ((show (va_up V 0 0) 5 = V 5 from rfl)).trans hE, (fun t h1 h2 => (congrFun (Eq.refl (F 17)) t).trans (hRB t h1 h2))⟩) (hP) (hD) hS
  · have c_5 : isW p0 (nI nw) 23 = true := bI_t hw_4 c_5
    refine lv_aload_n hx hb dX5_comes_18 rfl (lv_at hl 0 rfl) ?_
    refine lv_iload_n hx hb dX5_comes_19 rfl (lv_at hl 1 rfl) ?_
    refine lv_aload_n hx hb dX5_comes_20 rfl (lv_at hl 0 rfl) ?_
    refine va_get (D := (dC, dI)) (ci := 5) (v := .int (V 6)) (C := RX5) (T := TX5) (N := 33) hx hb hts hin_X5 hown hK hP 0 rfl rfl 6 (by decide) hw3 (fun _ h9 => h9) rfl dX5_comes_21 ?_
    refine lv_topi (fun x_6 ex_6 => ?_)
    obtain rfl : x_6 = nI d := ex_6.trans (hV6)
    refine lv_iload_n hx hb dX5_comes_24 rfl (lv_at hl 1 rfl) ?_
    refine lv_aload_n hx hb dX5_comes_25 rfl (lv_at hl 0 rfl) ?_
    refine va_get (D := (dC, dI)) (ci := 5) (v := .int (V 3)) (C := RX5) (T := TX5) (N := 33) hx hb hts hin_X5 hown hK hP 0 rfl rfl 3 (by decide) hw2 (fun _ h9 => h9) rfl dX5_comes_26 ?_
    refine lv_topi (fun x_7 ex_7 => ?_)
    obtain rfl : x_7 = nI nw := ex_7.trans (hV3)
    obtain ⟨k0, hk0, rfl⟩ := isW_now bV3 c_5
    have hkd : d * (k0 - nw) ≤ 20 * 23 := Nat.mul_le_mul bV6 (by omega)
    refine lv_isub hx hb dX5_comes_29 ?_
    refine lv_topi (fun x_8 ex_8 => ?_)
    obtain rfl : x_8 = nI (k0 - nw) := ex_8.trans (pk_sub (a := k0) (b := nw) (by omega))
    refine lv_imul hx hb dX5_comes_30 ?_
    refine lv_topi (fun x_9 ex_9 => ?_)
    obtain rfl : x_9 = nI (d * (k0 - nw)) := ex_9.trans (pk_mul d (k0 - nw))
    refine cw_Vi (As := [.int (nI k0), .int (nI (d * (k0 - nw)))]) (rest := []) (c_X5_aims l dC dI cI cZ cJ h F G (va_up V 0 0) n hV2 (by omega) So hSo bSo Hh hHh bHh Wd hWd bWd Lm hLm bLm X hX bX Y hY bY k0 (d * (k0 - nw)) (by omega) (by omega) SX SY (fun i hi => (congrFun (Eq.refl (F 5)) i).trans (hSX i hi)) (fun i hi => (congrFun (Eq.refl (F 6)) i).trans (hSY i hi)) hGP) fx (cwV 2 hts gX5_comes_X5_aims rfl rfl rfl (by decide +kernel) ⟨Nat.le_of_ble_eq_true rfl, Nat.le_of_ble_eq_true rfl⟩) hK hP hD hS hA 0 rfl rfl rfl rfl hl.1 rfl (Nat.le_of_ble_eq_true rfl) dX5_comes_31 ⟨Nat.le_of_ble_eq_true rfl, Nat.le_of_ble_eq_true rfl⟩ (fun r_10 u_11 H locs hw_12 hP hD hS => ?_)
    obtain ⟨F_13, rfl⟩ : ∃ z, z = u_11 := ⟨_, rfl⟩
    have hf_14 : ∀ j, j ∉ ([10, 11, 12, 14] : List Nat) → F_13 j = F j := hw_12.2.1
    have hP : va_P (dC, dI) vwCl (wM cI cZ cJ h F_13 G (va_up V 0 0)) H := hP
    have hD : va_D A (wM cI cZ cJ h F_13 G (va_up V 0 0)) := hD
    have hN_15 : ∀ i, i < 40 → F_13 3 i = nI (So i) := by rw [hf_14 3 (by decide)]; exact hSo
    have hN_16 : ∀ i, i < 4 → F_13 4 i = nI (Lm i) := by rw [hf_14 4 (by decide)]; exact hLm
    have hN_17 : ∀ i, i < 24 → F_13 7 i = nI (Hh i) := by rw [hf_14 7 (by decide)]; exact hHh
    have hN_18 : ∀ i, i < 24 → F_13 8 i = nI (Wd i) := by rw [hf_14 8 (by decide)]; exact hWd
    have hN_19 : ∀ i, i < 24 → F_13 9 i = nI (Pr i) := by rw [hf_14 9 (by decide)]; exact hPr
    have hN_20 : ∀ i, i < n → F_13 1 i = nI (X i) := by rw [hf_14 1 (by decide)]; exact hX
    have hN_21 : ∀ i, i < n → F_13 2 i = nI (Y i) := by rw [hf_14 2 (by decide)]; exact hY
    have hb_22 : htA (pwA X Y n SX SY Hh So Wd k0 (d * (k0 - nw))) Lm n ≤ 4000 := hA_le bV2 (fun i _ => pwA_le (bHh k0 (by omega)))
    have hN_23 : ∀ i, i < 4 → F_13 12 i = nI ((lA (pwA X Y n SX SY Hh So Wd k0 (d * (k0 - nw))) Lm n) i) := (hw_12.2.2).1
    have bN_24 : ∀ i, i < 4 → (lA (pwA X Y n SX SY Hh So Wd k0 (d * (k0 - nw))) Lm n) i ≤ 10000 := (hw_12.2.2).2.1
    have hC_25 : ∀ i, i < n → F_13 14 i = cA (pwA X Y n SX SY Hh So Wd k0 (d * (k0 - nw))) Lm n i := (hw_12.2.2).2.2
    obtain rfl : r_10 = nI (htA (pwA X Y n SX SY Hh So Wd k0 (d * (k0 - nw))) Lm n) := hw_12.1
    refine lv_goto (tgt := 38) hx hb dX5_comes_34 (by decide) ?_
    exact hret (nI (htA (pwA X Y n SX SY Hh So Wd k0 (d * (k0 - nw))) Lm n)) (F_13, G, va_up V 0 0) H locs 38 ls rfl dX5_comes_38 (by
                  have hc_ : isW (nI k0) (nI nw) 23 = true := by simp [c_5]
                  refine ⟨?_, ?_⟩
                  · (try simp only [hc_, cond_true, cond_false, nI_clamp (show k0 < 2 ^ 31 by omega)])
                    first | done | exact by rw [Nat.mul_comm d (k0 - nw)]
                  · (try simp only [hc_, cond_true, cond_false, nI_clamp (show k0 < 2 ^ 31 by omega)])
                    exact ⟨⟨hV2, by omega⟩, ⟨hV3, by omega⟩, ⟨hV4, by omega⟩, ⟨hV6, by omega⟩, ⟨hV7, by omega⟩, ⟨hV10, by omega⟩, ⟨sh, hV11, by omega⟩, ⟨hN_15, bSo⟩, ⟨hN_16, bLm⟩, ⟨hN_17, bHh⟩, ⟨hN_18, bWd⟩, ⟨hN_19, bPr⟩, ⟨hN_20, bX⟩, ⟨hN_21, bY⟩, ⟨am, hV8, by omega, by omega⟩, hGP, (fun i hi => (congrFun (hf_14 5 (by decide)) i).trans (hSX i hi)), (fun i hi => (congrFun (hf_14 6 (by decide)) i).trans (hSY i hi)), (fun i hi => (congrFun (hf_14 13 (by decide)) i).trans (hKc i hi)), (fun i hi => (congrFun (hf_14 15 (by decide)) i).trans (hKp i hi)), ((show (va_up V 0 0) 5 = V 5 from rfl)).trans hE, (fun t h1 h2 => (congrFun (hf_14 17 (by decide)) t).trans (hRB t h1 h2))⟩) (hP) (hD) hS
