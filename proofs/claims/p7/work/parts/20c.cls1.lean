def rm_X1_isBetween : Room := { frames := 0, cells := 0, slots := 0, locals := 0 }
set_option maxHeartbeats 4000000 in
set_option maxRecDepth 100000 in
theorem c_X1_isBetween (l : Launch) (dC : Nat → ClassId) (dI : Nat → Nat → Nat) (cI cZ cJ : ClassId) (h : Nat → Nat) (F : Nat → Nat → Int32) (V : Nat → Int32)  (k0 k1 : Nat) (hk0 : k0 < 40) (hk1 : k1 < 40)   : CtI l (dC, dI) vwCl (tys3 cI cZ cJ) yX1_isBetween wsX1_isBetween rm_X1_isBetween [.ref (h 1), .int (nI k0), .int (nI k1)] (wC cI cZ h F V) (S := Unit) (fun r _ => r = bI (btw (F 6 k0) (F 7 k0) (F 6 k1) (F 7 k1))) (fun _ => wC cI cZ h F V) 0 0 := by
  refine ct_I (cc := cX1_isBetween) (maxL := 8) (ty := .boolean) (own := RX1) (by decide) rfl rfl (Nat.le_of_ble_eq_true rfl) (lv := [(0, .ref (h 1)), (1, .int (nI k0)), (2, .int (nI k1))]) rfl ?_
  intro p e s m args below meth c A Q ls fx hK hP hD hA hl hret
  obtain ⟨hx, hb, hml, hown, hts⟩ := id fx
  have hS : va_S A s.heap s.heap [] := va_S.rf
  have hw0 := hts (.fieldLink RX1 15 "MirrorTower$Field" "xs" "[I") (by decide +kernel)
  have hin_X1 : ∀ w ∈ u_ws RX1 TX1 11, w ∈ wsX1_isBetween := by decide +kernel
  have hw2 := hts (.fieldLink RX1 18 "MirrorTower$Field" "ys" "[I") (by decide +kernel)
  obtain ⟨H, hH⟩ : ∃ H, H = s.heap := ⟨_, rfl⟩
  rw [← hH] at hP ⊢
  have hS : va_S A s.heap H [] := by rw [hH]; exact hS
  generalize ([] : List Loc) = locs at hS ⊢
  refine lv_aload_n hx hb dX1_isBetween_0 rfl (lv_at hl 0 rfl) ?_
  refine va_get (D := (dC, dI)) (ci := 1) (v := .ref (h 6)) (C := RX1) (T := TX1) (N := 11) hx hb hts hin_X1 hown hK hP 1 rfl rfl 1 (by decide) hw0 (fun _ h9 => h9) rfl dX1_isBetween_1 ?_
  refine lv_iload_n hx hb dX1_isBetween_4 rfl (lv_at hl 1 rfl) ?_
  refine va_iald hx hb hK hP 6 0 rfl rfl (vp_in_nI (n := k0) (N := 40) (by omega) (by decide)) dX1_isBetween_5 ?_
  refine lv_topi (fun x_1 ex_1 => ?_)
  rw [nI_clamp (n := k0) (by omega)] at ex_1
  refine lv_bipush (v := 7) hx hb dX1_isBetween_6 (by decide) ?_
  refine lv_isub hx hb dX1_isBetween_8 ?_
  refine lv_istore_n (lv' := [(3, .int (x_1 - 7)), (0, .ref (h 1)), (1, .int (nI k0)), (2, .int (nI k1))]) hx hb dX1_isBetween_9 rfl hl (by decide) rfl (fun ls hl => ?_)
  refine lv_aload_n hx hb dX1_isBetween_10 rfl (lv_at hl 1 rfl) ?_
  refine va_get (D := (dC, dI)) (ci := 1) (v := .ref (h 7)) (C := RX1) (T := TX1) (N := 11) hx hb hts hin_X1 hown hK hP 1 rfl rfl 2 (by decide) hw2 (fun _ h9 => h9) rfl dX1_isBetween_11 ?_
  refine lv_iload_n hx hb dX1_isBetween_14 rfl (lv_at hl 2 rfl) ?_
  refine va_iald hx hb hK hP 7 0 rfl rfl (vp_in_nI (n := k0) (N := 40) (by omega) (by decide)) dX1_isBetween_15 ?_
  refine lv_topi (fun x_2 ex_2 => ?_)
  rw [nI_clamp (n := k0) (by omega)] at ex_2
  refine lv_iconst (v := 0) hx hb dX1_isBetween_16 (by decide) ?_
  refine lv_isub hx hb dX1_isBetween_17 ?_
  refine lv_istore (lv' := [(4, .int (x_2 - 0)), (3, .int (x_1 - 7)), (0, .ref (h 1)), (1, .int (nI k0)), (2, .int (nI k1))]) hx hb dX1_isBetween_18 hl (by decide) rfl (fun ls hl => ?_)
  refine lv_aload_n hx hb dX1_isBetween_20 rfl (lv_at hl 2 rfl) ?_
  refine va_get (D := (dC, dI)) (ci := 1) (v := .ref (h 6)) (C := RX1) (T := TX1) (N := 11) hx hb hts hin_X1 hown hK hP 1 rfl rfl 1 (by decide) hw0 (fun _ h9 => h9) rfl dX1_isBetween_21 ?_
  refine lv_iload_n hx hb dX1_isBetween_24 rfl (lv_at hl 4 rfl) ?_
  refine va_iald hx hb hK hP 6 0 rfl rfl (vp_in_nI (n := k1) (N := 40) (by omega) (by decide)) dX1_isBetween_25 ?_
  refine lv_topi (fun x_3 ex_3 => ?_)
  rw [nI_clamp (n := k1) (by omega)] at ex_3
  refine lv_bipush (v := 7) hx hb dX1_isBetween_26 (by decide) ?_
  refine lv_isub hx hb dX1_isBetween_28 ?_
  refine lv_istore (lv' := [(5, .int (x_3 - 7)), (4, .int (x_2 - 0)), (3, .int (x_1 - 7)), (0, .ref (h 1)), (1, .int (nI k0)), (2, .int (nI k1))]) hx hb dX1_isBetween_29 hl (by decide) rfl (fun ls hl => ?_)
  refine lv_aload_n hx hb dX1_isBetween_31 rfl (lv_at hl 3 rfl) ?_
  refine va_get (D := (dC, dI)) (ci := 1) (v := .ref (h 7)) (C := RX1) (T := TX1) (N := 11) hx hb hts hin_X1 hown hK hP 1 rfl rfl 2 (by decide) hw2 (fun _ h9 => h9) rfl dX1_isBetween_32 ?_
  refine lv_iload_n hx hb dX1_isBetween_35 rfl (lv_at hl 5 rfl) ?_
  refine va_iald hx hb hK hP 7 0 rfl rfl (vp_in_nI (n := k1) (N := 40) (by omega) (by decide)) dX1_isBetween_36 ?_
  refine lv_topi (fun x_4 ex_4 => ?_)
  rw [nI_clamp (n := k1) (by omega)] at ex_4
  refine lv_iconst (v := 0) hx hb dX1_isBetween_37 (by decide) ?_
  refine lv_isub hx hb dX1_isBetween_38 ?_
  refine lv_istore (lv' := [(6, .int (x_4 - 0)), (5, .int (x_3 - 7)), (4, .int (x_2 - 0)), (3, .int (x_1 - 7)), (0, .ref (h 1)), (1, .int (nI k0)), (2, .int (nI k1))]) hx hb dX1_isBetween_39 hl (by decide) rfl (fun ls hl => ?_)
  refine lv_iload_n hx hb dX1_isBetween_41 rfl (lv_at hl 3 rfl) ?_
  refine lv_iload hx hb dX1_isBetween_42 (lv_at hl 0 rfl) ?_
  refine lv_imul hx hb dX1_isBetween_44 ?_
  refine lv_iload hx hb dX1_isBetween_45 (lv_at hl 2 rfl) ?_
  refine lv_iload hx hb dX1_isBetween_47 (lv_at hl 1 rfl) ?_
  refine lv_imul hx hb dX1_isBetween_49 ?_
  refine lv_icmp_eq (tgt := 55) hx hb dX1_isBetween_50 (by decide) (fun c_5 => ?_) (fun c_5 => ?_)
  · have c_5 : eqI ((x_1 - 7) * (x_4 - 0)) ((x_2 - 0) * (x_3 - 7)) = true := decide_eq_true c_5
    refine lv_iload_n hx hb dX1_isBetween_55 rfl (lv_at hl 3 rfl) ?_
    refine lv_iload hx hb dX1_isBetween_56 (lv_at hl 1 rfl) ?_
    refine lv_imul hx hb dX1_isBetween_58 ?_
    refine lv_iload hx hb dX1_isBetween_59 (lv_at hl 2 rfl) ?_
    refine lv_iload hx hb dX1_isBetween_61 (lv_at hl 0 rfl) ?_
    refine lv_imul hx hb dX1_isBetween_63 ?_
    refine lv_iadd hx hb dX1_isBetween_64 ?_
    refine lv_topi (fun x_6 ex_6 => ?_)
    refine lv_istore (lv' := [(7, .int x_6), (6, .int (x_4 - 0)), (5, .int (x_3 - 7)), (4, .int (x_2 - 0)), (3, .int (x_1 - 7)), (0, .ref (h 1)), (1, .int (nI k0)), (2, .int (nI k1))]) hx hb dX1_isBetween_65 hl (by decide) rfl (fun ls hl => ?_)
    refine lv_iload hx hb dX1_isBetween_67 (lv_at hl 0 rfl) ?_
    refine lv_if_le (tgt := 92) hx hb dX1_isBetween_69 (by decide) (fun c_7 => ?_) (fun c_7 => ?_)
    · have c_7 : ltI 0 x_6 = false := decide_eq_false (Int32.not_lt.mpr c_7)
      refine lv_iconst (v := 0) hx hb dX1_isBetween_92 (by decide) ?_
      exact hret 0 () H locs 93 ls rfl dX1_isBetween_93 (by (try subst ex_6); (try subst ex_4); (try subst ex_3); (try subst ex_2); (try subst ex_1); rw [btw, c_5, c_7]; try rfl) (hP) (hD) hS
    · have c_7 : ltI 0 x_6 = true := decide_eq_true (Int32.not_le.mp c_7)
      refine lv_iload hx hb dX1_isBetween_72 (lv_at hl 0 rfl) ?_
      refine lv_iload hx hb dX1_isBetween_74 (lv_at hl 2 rfl) ?_
      refine lv_iload hx hb dX1_isBetween_76 (lv_at hl 2 rfl) ?_
      refine lv_imul hx hb dX1_isBetween_78 ?_
      refine lv_iload hx hb dX1_isBetween_79 (lv_at hl 1 rfl) ?_
      refine lv_iload hx hb dX1_isBetween_81 (lv_at hl 1 rfl) ?_
      refine lv_imul hx hb dX1_isBetween_83 ?_
      refine lv_iadd hx hb dX1_isBetween_84 ?_
      refine lv_topi (fun x_8 ex_8 => ?_)
      refine lv_icmp_ge (tgt := 92) hx hb dX1_isBetween_85 (by decide) (fun c_9 => ?_) (fun c_9 => ?_)
      · have c_9 : ltI x_6 x_8 = false := decide_eq_false (Int32.not_lt.mpr c_9)
        refine lv_iconst (v := 0) hx hb dX1_isBetween_92 (by decide) ?_
        exact hret 0 () H locs 93 ls rfl dX1_isBetween_93 (by (try subst ex_8); (try subst ex_6); (try subst ex_4); (try subst ex_3); (try subst ex_2); (try subst ex_1); rw [btw, c_5, c_7, c_9]; try rfl) (hP) (hD) hS
      · have c_9 : ltI x_6 x_8 = true := decide_eq_true (Int32.not_le.mp c_9)
        refine lv_iconst (v := 1) hx hb dX1_isBetween_88 (by decide) ?_
        refine lv_goto (tgt := 93) hx hb dX1_isBetween_89 (by decide) ?_
        exact hret 1 () H locs 93 ls rfl dX1_isBetween_93 (by (try subst ex_8); (try subst ex_6); (try subst ex_4); (try subst ex_3); (try subst ex_2); (try subst ex_1); rw [btw, c_5, c_7, c_9]; try rfl) (hP) (hD) hS
  · have c_5 : eqI ((x_1 - 7) * (x_4 - 0)) ((x_2 - 0) * (x_3 - 7)) = false := decide_eq_false c_5
    refine lv_iconst (v := 0) hx hb dX1_isBetween_53 (by decide) ?_
    exact hret 0 () H locs 54 ls rfl dX1_isBetween_54 (by (try subst ex_8); (try subst ex_6); (try subst ex_4); (try subst ex_3); (try subst ex_2); (try subst ex_1); rw [btw, c_5]; try rfl) (hP) (hD) hS
