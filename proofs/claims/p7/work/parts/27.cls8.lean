theorem upd_upd (f : Nat → Int32) (k : Nat) (x y : Int32) : upd (upd f k x) k y = upd f k y := by
  funext j
  unfold upd
  by_cases h : j = k
  · rw [if_pos h, if_pos h]
  · rw [if_neg h, if_neg h, if_neg h]
/-- whether it is truly better to run, and what is then still to be earned: by the row of the hour behind it -/
def wrun (L : Nat → Int32) (g hd nd : Nat) : Bool := decide (nd ≤ hd) && ltI (L (2 * hd)) (nI g + L (2 * (hd - nd) + 1))
def wval (L : Nat → Int32) (g hd nd : Nat) : Int32 := if wrun L g hd nd then nI g + L (2 * (hd - nd) + 1) else L (2 * hd)
def wcho (C : Nat → Int32) (b : Bool) (k st : Nat) : Nat → Int32 := if b then upd C st (C st ||| ((1 : Int32) <<< (nI k &&& 31))) else C
def rm_X3_weigh : Room := { frames := 2, cells := 0, slots := 0, locals := 34 }
set_option maxHeartbeats 4000000 in
set_option maxRecDepth 100000 in
theorem c_X3_weigh (l : Launch) (dC : Nat → ClassId) (dI : Nat → Nat → Nat) (cI cZ cJ : ClassId) (h : Nat → Nat) (F : Nat → Nat → Int32) (V : Nat → Int32)  (Pr : Nat → Nat) (hPr : ∀ i, i < 24 → F 23 i = nI (Pr i)) (bPr : ∀ i, i < 24 → Pr i ≤ 999) (k0 a0 b0 c0 : Nat) (hk0 : k0 < 24) (ha0 : a0 ≤ 200) (hb0 : b0 ≤ 1) (hc : F 27 k0 = nI c0) (hc0 : c0 ≤ 40)   : CtV l (dC, dI) vwCl (tys3 cI cZ cJ) yX3_weigh wsX3_weigh rm_X3_weigh [.ref (h 3), .int (nI k0), .int (nI a0), .int (nI b0)] (wC cI cZ h F V) (S := Nat → Nat → Int32) (fun u => (∀ j, j ∉ ([24, 26] : List Nat) → u j = F j) ∧ (u 24 = upd (F 24) (2 * a0 + b0) (wval (F 25) (5 * Pr k0) (min 200 (a0 + c0)) (7 - 2 * b0)) ∧ u 26 = wcho (F 26) (wrun (F 25) (5 * Pr k0) (min 200 (a0 + c0)) (7 - 2 * b0)) k0 (2 * a0 + b0))) (fun u => wC cI cZ h u V) 0 0 := by
  refine ct_V (cc := cX3_weigh) (maxL := 8) (own := RX3) (by decide) rfl rfl (Nat.le_of_ble_eq_true rfl) (lv := [(0, .ref (h 3)), (1, .int (nI k0)), (2, .int (nI a0)), (3, .int (nI b0))]) rfl ?_
  intro p e s m args below meth c A Q ls hnm fx hK hP hD hA hl hret
  obtain ⟨hx, hb, hml, hown, hts⟩ := id fx
  have hS : va_S A s.heap s.heap [] := va_S.rf
  have hw0 := hts (.fieldLink RX3 38 "MirrorTower$Store" "unitsIn" "[I") (by decide +kernel)
  have hin_X3 : ∀ w ∈ u_ws RX3 TX3 14, w ∈ wsX3_weigh := by decide +kernel
  have hw2 := hts (.fieldLink RX3 29 "MirrorTower$Store" "gains" "[I") (by decide +kernel)
  have hw3 := hts (.fieldLink RX3 32 "MirrorTower$Store" "laterGains" "[I") (by decide +kernel)
  have hw4 := hts (.fieldLink RX3 35 "MirrorTower$Store" "choices" "[I") (by decide +kernel)
  obtain ⟨H, hH⟩ : ∃ H, H = s.heap := ⟨_, rfl⟩
  rw [← hH] at hP ⊢
  have hS : va_S A s.heap H [] := by rw [hH]; exact hS
  generalize ([] : List Loc) = locs at hS ⊢
  refine lv_iload_n hx hb dX3_weigh_0 rfl (lv_at hl 2 rfl) ?_
  refine lv_iload_n hx hb dX3_weigh_1 rfl (lv_at hl 3 rfl) ?_
  refine cw_Si (As := [.int (nI a0), .int (nI b0)]) (rest := []) (c_X3_stateOf l dC dI cI cZ cJ (wC cI cZ h F V) a0 b0 (by omega)) fx (va_cwS 2 hts gX3_weigh_X3_stateOf rfl rfl rfl (by decide +kernel) ⟨Nat.le_of_ble_eq_true rfl, Nat.le_of_ble_eq_true rfl⟩) hK hP hD hS hA rfl hl.1 rfl (Nat.le_of_ble_eq_true rfl) dX3_weigh_2 ⟨Nat.le_of_ble_eq_true rfl, Nat.le_of_ble_eq_true rfl⟩ (fun r_1 u_2 H locs hw_3 hP hD hS => ?_)
  have hP : va_P (dC, dI) vwCl (wC cI cZ h F V) H := hP
  have hD : va_D A (wC cI cZ h F V) := hD
  obtain rfl : r_1 = nI (2 * a0 + b0) := hw_3
  refine lv_istore (lv' := [(4, .int (nI (2 * a0 + b0))), (0, .ref (h 3)), (1, .int (nI k0)), (2, .int (nI a0)), (3, .int (nI b0))]) hx hb dX3_weigh_5 hl (by decide) rfl (fun ls hl => ?_)
  refine lv_iload_n hx hb dX3_weigh_7 rfl (lv_at hl 3 rfl) ?_
  refine lv_aload_n hx hb dX3_weigh_8 rfl (lv_at hl 1 rfl) ?_
  refine va_get (D := (dC, dI)) (ci := 3) (v := .ref (h 27)) (C := RX3) (T := TX3) (N := 14) hx hb hts hin_X3 hown hK hP 3 rfl rfl 10 (by decide) hw0 (fun _ h9 => h9) rfl dX3_weigh_9 ?_
  refine lv_iload_n hx hb dX3_weigh_12 rfl (lv_at hl 2 rfl) ?_
  refine va_iald hx hb hK hP 27 0 rfl rfl (vp_in_nI (n := k0) (N := 24) (by omega) (by decide)) dX3_weigh_13 ?_
  refine lv_topi (fun x_4 ex_4 => ?_)
  obtain rfl : x_4 = nI c0 := ex_4.trans ((congrArg (F 27) (nI_clamp (n := k0) (by omega))).trans hc)
  refine cw_Si (As := [.int (nI a0), .int (nI c0)]) (rest := []) (c_X3_filled l dC dI cI cZ cJ (wC cI cZ h F V) a0 c0 (by omega)) fx (va_cwS 2 hts gX3_weigh_X3_filled rfl rfl rfl (by decide +kernel) ⟨Nat.le_of_ble_eq_true rfl, Nat.le_of_ble_eq_true rfl⟩) hK hP hD hS hA rfl hl.1 rfl (Nat.le_of_ble_eq_true rfl) dX3_weigh_14 ⟨Nat.le_of_ble_eq_true rfl, Nat.le_of_ble_eq_true rfl⟩ (fun r_5 u_6 H locs hw_7 hP hD hS => ?_)
  have hP : va_P (dC, dI) vwCl (wC cI cZ h F V) H := hP
  have hD : va_D A (wC cI cZ h F V) := hD
  obtain rfl : r_5 = nI (min 200 (a0 + c0)) := hw_7
  refine lv_istore (lv' := [(5, .int (nI (min 200 (a0 + c0)))), (4, .int (nI (2 * a0 + b0))), (0, .ref (h 3)), (1, .int (nI k0)), (2, .int (nI a0)), (3, .int (nI b0))]) hx hb dX3_weigh_17 hl (by decide) rfl (fun ls hl => ?_)
  refine lv_iload_n hx hb dX3_weigh_19 rfl (lv_at hl 5 rfl) ?_
  refine cw_Si (As := [.int (nI b0)]) (rest := []) (c_X3_needed l dC dI cI cZ cJ (wC cI cZ h F V) b0 (by omega)) fx (va_cwS 1 hts gX3_weigh_X3_needed rfl rfl rfl (by decide +kernel) ⟨Nat.le_of_ble_eq_true rfl, Nat.le_of_ble_eq_true rfl⟩) hK hP hD hS hA rfl hl.1 rfl (Nat.le_of_ble_eq_true rfl) dX3_weigh_20 ⟨Nat.le_of_ble_eq_true rfl, Nat.le_of_ble_eq_true rfl⟩ (fun r_8 u_9 H locs hw_10 hP hD hS => ?_)
  have hP : va_P (dC, dI) vwCl (wC cI cZ h F V) H := hP
  have hD : va_D A (wC cI cZ h F V) := hD
  obtain rfl : r_8 = nI (7 - 2 * b0) := hw_10
  refine lv_istore (lv' := [(6, .int (nI (7 - 2 * b0))), (5, .int (nI (min 200 (a0 + c0)))), (4, .int (nI (2 * a0 + b0))), (0, .ref (h 3)), (1, .int (nI k0)), (2, .int (nI a0)), (3, .int (nI b0))]) hx hb dX3_weigh_23 hl (by decide) rfl (fun ls hl => ?_)
  refine lv_aload_n hx hb dX3_weigh_25 rfl (lv_at hl 3 rfl) ?_
  refine va_get (D := (dC, dI)) (ci := 3) (v := .ref (h 24)) (C := RX3) (T := TX3) (N := 14) hx hb hts hin_X3 hown hK hP 3 rfl rfl 7 (by decide) hw2 (fun _ h9 => h9) rfl dX3_weigh_26 ?_
  refine lv_iload hx hb dX3_weigh_29 (lv_at hl 2 rfl) ?_
  refine lv_aload_n hx hb dX3_weigh_31 rfl (lv_at hl 3 rfl) ?_
  refine va_get (D := (dC, dI)) (ci := 3) (v := .ref (h 25)) (C := RX3) (T := TX3) (N := 14) hx hb hts hin_X3 hown hK hP 3 rfl rfl 8 (by decide) hw3 (fun _ h9 => h9) rfl dX3_weigh_32 ?_
  refine lv_iload hx hb dX3_weigh_35 (lv_at hl 1 rfl) ?_
  refine lv_iconst (v := 0) hx hb dX3_weigh_37 (by decide) ?_
  refine cw_Si (As := [.int (nI (min 200 (a0 + c0))), .int 0]) (rest := [.ref (h 25), .int (nI (2 * a0 + b0)), .ref (h 24)]) (c_X3_stateOf l dC dI cI cZ cJ (wC cI cZ h F V) (min 200 (a0 + c0)) 0 (by omega)) fx (va_cwS 2 hts gX3_weigh_X3_stateOf rfl rfl rfl (by decide +kernel) ⟨Nat.le_of_ble_eq_true rfl, Nat.le_of_ble_eq_true rfl⟩) hK hP hD hS hA rfl hl.1 rfl (Nat.le_of_ble_eq_true rfl) dX3_weigh_38 ⟨Nat.le_of_ble_eq_true rfl, Nat.le_of_ble_eq_true rfl⟩ (fun r_11 u_12 H locs hw_13 hP hD hS => ?_)
  have hP : va_P (dC, dI) vwCl (wC cI cZ h F V) H := hP
  have hD : va_D A (wC cI cZ h F V) := hD
  obtain rfl : r_11 = nI (2 * (min 200 (a0 + c0)) + 0) := hw_13
  refine va_iald hx hb hK hP 25 0 rfl rfl (vp_in_nI (n := 2 * (min 200 (a0 + c0)) + 0) (N := 402) (by omega) (by decide)) dX3_weigh_41 ?_
  refine lv_topi (fun x_14 ex_14 => ?_)
  rw [nI_clamp (n := 2 * (min 200 (a0 + c0)) + 0) (by omega)] at ex_14
  refine va_iast hx hb hK hP hD hS 24 0 rfl rfl (vp_in_nI (n := 2 * a0 + b0) (N := 402) (by omega) (by decide)) dX3_weigh_42 (fun H locs hP hD hS => ?_)
  obtain ⟨F_15, eF_15⟩ : ∃ z : Nat → Nat → Int32, z = va_up F 24 (upd (F 24) (nI (2 * a0 + b0)).toNatClampNeg x_14) := ⟨_, rfl⟩
  have hP : va_P (dC, dI) vwCl (wC cI cZ h F_15 V) H := by rw [eF_15]; exact hP
  have hD : va_D A (wC cI cZ h F_15 V) := by rw [eF_15]; exact hD
  have hN_16 : ∀ i, i < 24 → F_15 23 i = nI (Pr i) := by rw [eF_15]; exact hPr
  have hE_17 : F_15 27 k0 = nI c0 := by rw [eF_15]; exact hc
  refine lv_iload hx hb dX3_weigh_43 (lv_at hl 1 rfl) ?_
  refine lv_iload hx hb dX3_weigh_45 (lv_at hl 0 rfl) ?_
  refine lv_icmp_lt (tgt := 106) hx hb dX3_weigh_47 (by decide) (fun c_18 => ?_) (fun c_18 => ?_)
  · have c_18 : (min 200 (a0 + c0)) < (7 - 2 * b0) := (nI_ltI (a := min 200 (a0 + c0)) (b := 7 - 2 * b0) (by omega) (by omega)).mp c_18
    exact hret F_15 H locs 106 ls dX3_weigh_106 (by
                  have q1 : x_14 = F 25 (2 * (min 200 (a0 + c0))) := ex_14
                  have qa : F_15 24 = upd (F 24) (2 * a0 + b0) x_14 := by rw [eF_15]; show upd (F 24) (nI (2 * a0 + b0)).toNatClampNeg _ = _; rw [nI_clamp (by omega)]
                  have hr : wrun (F 25) (5 * Pr k0) (min 200 (a0 + c0)) (7 - 2 * b0) = false := by unfold wrun; rw [decide_eq_false (by omega)]; rfl
                  have hv : wval (F 25) (5 * Pr k0) (min 200 (a0 + c0)) (7 - 2 * b0) = x_14 := by unfold wval; rw [hr, q1]; rfl
                  refine ⟨fun j hj => (va_ne eF_15 (fun h => hj (by rw [h]; decide))), by rw [hv]; exact qa, ?_⟩
                  rw [hr]; show F_15 26 = F 26; rw [eF_15]; rfl) (hP) (hD) hS
  · have c_18 : ¬ (min 200 (a0 + c0)) < (7 - 2 * b0) := fun h => c_18 ((nI_ltI (a := min 200 (a0 + c0)) (b := 7 - 2 * b0) (by omega) (by omega)).mpr h)
    refine lv_aload_n hx hb dX3_weigh_50 rfl (lv_at hl 3 rfl) ?_
    refine lv_iload_n hx hb dX3_weigh_51 rfl (lv_at hl 4 rfl) ?_
    refine cw_Vi (As := [.int (nI k0)]) (rest := []) (c_X3_gainOf l dC dI cI cZ cJ h F_15 V Pr hN_16 bPr k0 (by omega)) fx (cwV 1 hts gX3_weigh_X3_gainOf rfl rfl rfl (by decide +kernel) ⟨Nat.le_of_ble_eq_true rfl, Nat.le_of_ble_eq_true rfl⟩) hK hP hD hS hA 3 rfl rfl rfl rfl hl.1 rfl (Nat.le_of_ble_eq_true rfl) dX3_weigh_52 ⟨Nat.le_of_ble_eq_true rfl, Nat.le_of_ble_eq_true rfl⟩ (fun r_19 u_20 H locs hw_21 hP hD hS => ?_)
    have hP : va_P (dC, dI) vwCl (wC cI cZ h F_15 V) H := hP
    have hD : va_D A (wC cI cZ h F_15 V) := hD
    obtain rfl : r_19 = nI (5 * Pr k0) := hw_21
    refine lv_aload_n hx hb dX3_weigh_55 rfl (lv_at hl 3 rfl) ?_
    refine va_get (D := (dC, dI)) (ci := 3) (v := .ref (h 25)) (C := RX3) (T := TX3) (N := 14) hx hb hts hin_X3 hown hK hP 3 rfl rfl 8 (by decide) hw3 (fun _ h9 => h9) rfl dX3_weigh_56 ?_
    refine lv_iload hx hb dX3_weigh_59 (lv_at hl 1 rfl) ?_
    refine lv_iload hx hb dX3_weigh_61 (lv_at hl 0 rfl) ?_
    refine lv_isub hx hb dX3_weigh_63 ?_
    refine lv_topi (fun x_22 ex_22 => ?_)
    obtain rfl : x_22 = nI ((min 200 (a0 + c0)) - (7 - 2 * b0)) := ex_22.trans (pk_sub (a := min 200 (a0 + c0)) (b := 7 - 2 * b0) (by omega))
    refine lv_iconst (v := 1) hx hb dX3_weigh_64 (by decide) ?_
    refine cw_Si (As := [.int (nI ((min 200 (a0 + c0)) - (7 - 2 * b0))), .int 1]) (rest := [.ref (h 25), .int (nI (5 * Pr k0))]) (c_X3_stateOf l dC dI cI cZ cJ (wC cI cZ h F_15 V) ((min 200 (a0 + c0)) - (7 - 2 * b0)) 1 (by omega)) fx (va_cwS 2 hts gX3_weigh_X3_stateOf rfl rfl rfl (by decide +kernel) ⟨Nat.le_of_ble_eq_true rfl, Nat.le_of_ble_eq_true rfl⟩) hK hP hD hS hA rfl hl.1 rfl (Nat.le_of_ble_eq_true rfl) dX3_weigh_65 ⟨Nat.le_of_ble_eq_true rfl, Nat.le_of_ble_eq_true rfl⟩ (fun r_23 u_24 H locs hw_25 hP hD hS => ?_)
    have hP : va_P (dC, dI) vwCl (wC cI cZ h F_15 V) H := hP
    have hD : va_D A (wC cI cZ h F_15 V) := hD
    obtain rfl : r_23 = nI (2 * ((min 200 (a0 + c0)) - (7 - 2 * b0)) + 1) := hw_25
    refine va_iald hx hb hK hP 25 0 rfl rfl (vp_in_nI (n := 2 * ((min 200 (a0 + c0)) - (7 - 2 * b0)) + 1) (N := 402) (by omega) (by decide)) dX3_weigh_68 ?_
    refine lv_topi (fun x_26 ex_26 => ?_)
    rw [nI_clamp (n := 2 * ((min 200 (a0 + c0)) - (7 - 2 * b0)) + 1) (by omega)] at ex_26
    refine lv_iadd hx hb dX3_weigh_69 ?_
    refine lv_istore (lv' := [(7, .int ((nI (5 * Pr k0)) + x_26)), (6, .int (nI (7 - 2 * b0))), (5, .int (nI (min 200 (a0 + c0)))), (4, .int (nI (2 * a0 + b0))), (0, .ref (h 3)), (1, .int (nI k0)), (2, .int (nI a0)), (3, .int (nI b0))]) hx hb dX3_weigh_70 hl (by decide) rfl (fun ls hl => ?_)
    refine lv_iload hx hb dX3_weigh_72 (lv_at hl 0 rfl) ?_
    refine lv_aload_n hx hb dX3_weigh_74 rfl (lv_at hl 4 rfl) ?_
    refine va_get (D := (dC, dI)) (ci := 3) (v := .ref (h 24)) (C := RX3) (T := TX3) (N := 14) hx hb hts hin_X3 hown hK hP 3 rfl rfl 7 (by decide) hw2 (fun _ h9 => h9) rfl dX3_weigh_75 ?_
    refine lv_iload hx hb dX3_weigh_78 (lv_at hl 3 rfl) ?_
    refine va_iald hx hb hK hP 24 0 rfl rfl (vp_in_nI (n := 2 * a0 + b0) (N := 402) (by omega) (by decide)) dX3_weigh_80 ?_
    refine lv_topi (fun x_27 ex_27 => ?_)
    rw [nI_clamp (n := 2 * a0 + b0) (by omega)] at ex_27
    refine lv_icmp_le (tgt := 106) hx hb dX3_weigh_81 (by decide) (fun c_28 => ?_) (fun c_28 => ?_)
    · have c_28 : ltI x_27 ((nI (5 * Pr k0)) + x_26) = false := decide_eq_false (Int32.not_lt.mpr c_28)
      exact hret F_15 H locs 106 ls dX3_weigh_106 (by
                    have q1 : x_14 = F 25 (2 * (min 200 (a0 + c0))) := ex_14
                    have qa : F_15 24 = upd (F 24) (2 * a0 + b0) x_14 := by rw [eF_15]; show upd (F 24) (nI (2 * a0 + b0)).toNatClampNeg _ = _; rw [nI_clamp (by omega)]
                    have q2 : x_26 = F 25 (2 * ((min 200 (a0 + c0)) - (7 - 2 * b0)) + 1) := by rw [ex_26, eF_15]; rfl
                    have q3 : x_27 = x_14 := by rw [ex_27, qa]; exact pk_us
                    have q4 := c_28
                    rw [q3, q1, q2] at q4
                    have hr : wrun (F 25) (5 * Pr k0) (min 200 (a0 + c0)) (7 - 2 * b0) = false := by unfold wrun; rw [decide_eq_true (by omega), q4]; rfl
                    have hv : wval (F 25) (5 * Pr k0) (min 200 (a0 + c0)) (7 - 2 * b0) = x_14 := by unfold wval; rw [hr, q1]; rfl
                    refine ⟨fun j hj => (va_ne eF_15 (fun h => hj (by rw [h]; decide))), by rw [hv]; exact qa, ?_⟩
                    rw [hr]; show F_15 26 = F 26; rw [eF_15]; rfl) (hP) (hD) hS
    · have c_28 : ltI x_27 ((nI (5 * Pr k0)) + x_26) = true := decide_eq_true (Int32.not_le.mp c_28)
      refine lv_aload_n hx hb dX3_weigh_84 rfl (lv_at hl 4 rfl) ?_
      refine va_get (D := (dC, dI)) (ci := 3) (v := .ref (h 24)) (C := RX3) (T := TX3) (N := 14) hx hb hts hin_X3 hown hK hP 3 rfl rfl 7 (by decide) hw2 (fun _ h9 => h9) rfl dX3_weigh_85 ?_
      refine lv_iload hx hb dX3_weigh_88 (lv_at hl 3 rfl) ?_
      refine lv_iload hx hb dX3_weigh_90 (lv_at hl 0 rfl) ?_
      refine va_iast hx hb hK hP hD hS 24 0 rfl rfl (vp_in_nI (n := 2 * a0 + b0) (N := 402) (by omega) (by decide)) dX3_weigh_92 (fun H locs hP hD hS => ?_)
      obtain ⟨F_29, eF_29⟩ : ∃ z : Nat → Nat → Int32, z = va_up F_15 24 (upd (F_15 24) (nI (2 * a0 + b0)).toNatClampNeg ((nI (5 * Pr k0)) + x_26)) := ⟨_, rfl⟩
      have hP : va_P (dC, dI) vwCl (wC cI cZ h F_29 V) H := by rw [eF_29]; exact hP
      have hD : va_D A (wC cI cZ h F_29 V) := by rw [eF_29]; exact hD
      have hN_30 : ∀ i, i < 24 → F_29 23 i = nI (Pr i) := by rw [eF_29]; exact hN_16
      have hE_31 : F_29 27 k0 = nI c0 := by rw [eF_29]; exact hE_17
      refine lv_aload_n hx hb dX3_weigh_93 rfl (lv_at hl 4 rfl) ?_
      refine va_get (D := (dC, dI)) (ci := 3) (v := .ref (h 26)) (C := RX3) (T := TX3) (N := 14) hx hb hts hin_X3 hown hK hP 3 rfl rfl 9 (by decide) hw4 (fun _ h9 => h9) rfl dX3_weigh_94 ?_
      refine lv_iload hx hb dX3_weigh_97 (lv_at hl 3 rfl) ?_
      refine lv_dup2_11 hx hb dX3_weigh_99 rfl rfl ?_
      refine va_iald hx hb hK hP 26 0 rfl rfl (vp_in_nI (n := 2 * a0 + b0) (N := 402) (by omega) (by decide)) dX3_weigh_100 ?_
      refine lv_topi (fun x_32 ex_32 => ?_)
      rw [nI_clamp (n := 2 * a0 + b0) (by omega)] at ex_32
      refine lv_iconst (v := 1) hx hb dX3_weigh_101 (by decide) ?_
      refine lv_iload_n hx hb dX3_weigh_102 rfl (lv_at hl 5 rfl) ?_
      refine lv_ishl hx hb dX3_weigh_103 ?_
      refine lv_ior hx hb dX3_weigh_104 ?_
      refine va_iast hx hb hK hP hD hS 26 0 rfl rfl (vp_in_nI (n := 2 * a0 + b0) (N := 402) (by omega) (by decide)) dX3_weigh_105 (fun H locs hP hD hS => ?_)
      obtain ⟨F_33, eF_33⟩ : ∃ z : Nat → Nat → Int32, z = va_up F_29 26 (upd (F_29 26) (nI (2 * a0 + b0)).toNatClampNeg (x_32 ||| (1 <<< ((nI k0) &&& 31)))) := ⟨_, rfl⟩
      have hP : va_P (dC, dI) vwCl (wC cI cZ h F_33 V) H := by rw [eF_33]; exact hP
      have hD : va_D A (wC cI cZ h F_33 V) := by rw [eF_33]; exact hD
      have hN_34 : ∀ i, i < 24 → F_33 23 i = nI (Pr i) := by rw [eF_33]; exact hN_30
      have hE_35 : F_33 27 k0 = nI c0 := by rw [eF_33]; exact hE_31
      exact hret F_33 H locs 106 ls dX3_weigh_106 (by
                    have q1 : x_14 = F 25 (2 * (min 200 (a0 + c0))) := ex_14
                    have qa : F_15 24 = upd (F 24) (2 * a0 + b0) x_14 := by rw [eF_15]; show upd (F 24) (nI (2 * a0 + b0)).toNatClampNeg _ = _; rw [nI_clamp (by omega)]
                    have q2 : x_26 = F 25 (2 * ((min 200 (a0 + c0)) - (7 - 2 * b0)) + 1) := by rw [ex_26, eF_15]; rfl
                    have q3 : x_27 = x_14 := by rw [ex_27, qa]; exact pk_us
                    have q4 := c_28
                    rw [q3, q1, q2] at q4
                    have hr : wrun (F 25) (5 * Pr k0) (min 200 (a0 + c0)) (7 - 2 * b0) = true := by unfold wrun; rw [decide_eq_true (by omega), q4]; rfl
                    have hv : wval (F 25) (5 * Pr k0) (min 200 (a0 + c0)) (7 - 2 * b0) = (nI (5 * Pr k0)) + x_26 := by unfold wval; rw [hr, ← q2]; rfl
                    have q5 : x_32 = F 26 (2 * a0 + b0) := by rw [ex_32, eF_29, eF_15]; rfl
                    refine ⟨fun j hj => ((va_ne eF_33 (fun h => hj (by rw [h]; decide))).trans ((va_ne eF_29 (fun h => hj (by rw [h]; decide))).trans (va_ne eF_15 (fun h => hj (by rw [h]; decide))))), ?_, ?_⟩
                    · rw [hv, eF_33]; show F_29 24 = _; rw [eF_29]; show upd (F_15 24) (nI (2 * a0 + b0)).toNatClampNeg _ = _; rw [nI_clamp (by omega), qa, upd_upd]
                    · rw [hr, eF_33]; show upd (F_29 26) (nI (2 * a0 + b0)).toNatClampNeg _ = upd (F 26) _ _; rw [nI_clamp (by omega), q5, eF_29, eF_15]; rfl) (hP) (hD) hS
