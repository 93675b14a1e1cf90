def rm_X5_mirror : Room := { frames := 1, cells := 0, slots := 0, locals := 22 }
set_option maxHeartbeats 4000000 in
set_option maxRecDepth 100000 in
theorem c_X5_mirror (l : Launch) (dC : Nat → ClassId) (dI : Nat → Nat → Nat) (cI cZ cJ : ClassId) (h : Nat → Nat) (F : Nat → Nat → Int32) (G : Nat → Int64) (V : Nat → Int32) (p0 p1 : Int32) (hV2 : V 2 = 0) : CtI l (dC, dI) vwCl (tys3 cI cZ cJ) yX5_mirror wsX5_mirror rm_X5_mirror [.ref (h 0), .int p0, .int p1] (wM cI cZ cJ h F G V) (S := Unit) (fun r _ => r = a_mirror p0 p1) (fun _ => []) 0 0 := by
  refine ct_I (cc := cX5_mirror) (maxL := 5) (ty := .int) (own := RX5) (by decide) rfl rfl (Nat.le_of_ble_eq_true rfl) (lv := [(0, .ref (h 0)), (1, .int p0), (2, .int p1)]) rfl ?_
  intro p e s m args below meth c A Q ls fx hK hP hD hA hl hret
  obtain ⟨hx, hb, hml, hown, hts⟩ := id fx
  have hS : va_S A s.heap s.heap [] := va_S.rf
  have hw0 := hts (.fieldLink RX5 1 "MirrorTowerModel" "thrown" "I") (by decide +kernel)
  have hin_X5 : ∀ w ∈ u_ws RX5 TX5 33, w ∈ wsX5_mirror := by decide +kernel
  have hw2 := hts (.fieldLink RX5 91 "MirrorTowerModel" "mirrors" "I") (by decide +kernel)
  have hw3 := hts (.fieldLink RX5 19 "MirrorTowerModel" "x" "[I") (by decide +kernel)
  have hw4 := hts (.fieldLink RX5 23 "MirrorTowerModel" "y" "[I") (by decide +kernel)
  obtain ⟨H, hH⟩ : ∃ H, H = s.heap := ⟨_, rfl⟩
  rw [← hH] at hP ⊢
  have hS : va_S A s.heap H [] := by rw [hH]; exact hS
  generalize ([] : List Loc) = locs at hS ⊢
  refine lv_aload_n hx hb dX5_mirror_0 rfl (lv_at hl 0 rfl) ?_
  refine lv_iconst (v := 0) hx hb dX5_mirror_1 (by decide) ?_
  refine va_put (D := (dC, dI)) (ci := 5) (v := .int 0) (ty := .int) (C := RX5) (T := TX5) (N := 33) hx hb hts hin_X5 tyX5 tyX5_ok nmX5 hown hK hP hD hS 0 rfl rfl 0 (by decide) hw0 (fun _ h9 => h9) rfl (by decide +kernel) rfl rfl (Nat.le_of_ble_eq_true rfl) dX5_mirror_2 (fun H locs hP hD hS => ?_)
  have hP : va_P (dC, dI) vwCl (wM cI cZ cJ h F G (va_up V 0 0)) H := hP
  have hD : va_D A (wM cI cZ cJ h F G (va_up V 0 0)) := hD
  refine lv_iload_n hx hb dX5_mirror_5 rfl (lv_at hl 1 rfl) ?_
  refine lv_iconst (v := 0) hx hb dX5_mirror_6 (by decide) ?_
  refine lv_bipush (v := 14) hx hb dX5_mirror_7 (by decide) ?_
  refine cw_Si (As := [.int p0, .int 0, .int 14]) (rest := []) (c_X5_in l dC dI cI cZ cJ (wM cI cZ cJ h F G (va_up V 0 0)) p0 0 14) fx (va_cwS 3 hts gX5_mirror_X5_in rfl rfl rfl (by decide +kernel) ⟨Nat.le_of_ble_eq_true rfl, Nat.le_of_ble_eq_true rfl⟩) hK hP hD hS hA rfl hl.1 rfl (Nat.le_of_ble_eq_true rfl) dX5_mirror_9 ⟨Nat.le_of_ble_eq_true rfl, Nat.le_of_ble_eq_true rfl⟩ (fun r_1 u_2 H locs hw_3 hP hD hS => ?_)
  have hP : va_P (dC, dI) vwCl (wM cI cZ cJ h F G (va_up V 0 0)) H := hP
  have hD : va_D A (wM cI cZ cJ h F G (va_up V 0 0)) := hD
  have hw_3 : r_1 = bI (isW p0 0 14) := hw_3
  refine lv_if_eq (tgt := 25) hx hb dX5_mirror_12 (by decide) (fun c_4 => ?_) (fun c_4 => ?_)
  · have c_4 : isW p0 0 14 = false := bI_f hw_3 c_4
    refine lv_aload_n hx hb dX5_mirror_25 rfl (lv_at hl 0 rfl) ?_
    refine lv_iconst (v := 2) hx hb dX5_mirror_26 (by decide) ?_
    refine cw_Vi (As := [.int 2]) (rest := []) (c_X5_refused l dC dI cI cZ cJ h F G (va_up V 0 0) 2) fx (cwV 1 hts gX5_mirror_X5_refused rfl rfl rfl (by decide +kernel) ⟨Nat.le_of_ble_eq_true rfl, Nat.le_of_ble_eq_true rfl⟩) hK hP hD hS hA 0 rfl rfl rfl rfl hl.1 rfl (Nat.le_of_ble_eq_true rfl) dX5_mirror_27 ⟨Nat.le_of_ble_eq_true rfl, Nat.le_of_ble_eq_true rfl⟩ (fun r_5 u_6 H locs hw_7 hP hD hS => ?_)
    have hP : va_P (dC, dI) vwCl (wM cI cZ cJ h F G (va_up (va_up V 0 0) 1 2)) H := hP
    have hD : va_D A (wM cI cZ cJ h F G (va_up (va_up V 0 0) 1 2)) := hD
    obtain rfl : r_5 = (-1) := hw_7
    exact hret (-1) () H locs 30 ls rfl dX5_mirror_30 (by first | rfl | (simp [a_mirror, c_4]; done) | (exfalso; omega)) (hP.sub [] rfl) (hD.sub [] (by decide) rfl) hS
  · have c_4 : isW p0 0 14 = true := bI_t hw_3 c_4
    refine lv_iload_n hx hb dX5_mirror_15 rfl (lv_at hl 2 rfl) ?_
    refine lv_iconst (v := 0) hx hb dX5_mirror_16 (by decide) ?_
    refine lv_bipush (v := 14) hx hb dX5_mirror_17 (by decide) ?_
    refine cw_Si (As := [.int p1, .int 0, .int 14]) (rest := []) (c_X5_in l dC dI cI cZ cJ (wM cI cZ cJ h F G (va_up V 0 0)) p1 0 14) fx (va_cwS 3 hts gX5_mirror_X5_in rfl rfl rfl (by decide +kernel) ⟨Nat.le_of_ble_eq_true rfl, Nat.le_of_ble_eq_true rfl⟩) hK hP hD hS hA rfl hl.1 rfl (Nat.le_of_ble_eq_true rfl) dX5_mirror_19 ⟨Nat.le_of_ble_eq_true rfl, Nat.le_of_ble_eq_true rfl⟩ (fun r_8 u_9 H locs hw_10 hP hD hS => ?_)
    have hP : va_P (dC, dI) vwCl (wM cI cZ cJ h F G (va_up V 0 0)) H := hP
    have hD : va_D A (wM cI cZ cJ h F G (va_up V 0 0)) := hD
    have hw_10 : r_8 = bI (isW p1 0 14) := hw_10
    refine lv_if_ne (tgt := 31) hx hb dX5_mirror_22 (by decide) (fun c_11 => ?_) (fun c_11 => ?_)
    · have c_11 : isW p1 0 14 = true := bI_t hw_10 c_11
      refine lv_iload_n hx hb dX5_mirror_31 rfl (lv_at hl 1 rfl) ?_
      refine lv_bipush (v := 7) hx hb dX5_mirror_32 (by decide) ?_
      refine lv_icmp_ne (tgt := 45) hx hb dX5_mirror_34 (by decide) (fun c_12 => ?_) (fun c_12 => ?_)
      · have c_12 : eqI p0 7 = false := decide_eq_false c_12
        refine lv_iconst (v := 0) hx hb dX5_mirror_45 (by decide) ?_
        refine lv_istore_n (lv' := [(3, .int 0), (0, .ref (h 0)), (1, .int p0), (2, .int p1)]) hx hb dX5_mirror_46 rfl hl (by decide) rfl (fun ls hl => ?_)
        refine lv_iconst (v := 0) hx hb dX5_mirror_47 (by decide) ?_
        refine lv_istore (lv' := [(4, .int 0), (3, .int 0), (0, .ref (h 0)), (1, .int p0), (2, .int p1)]) hx hb dX5_mirror_48 hl (by decide) rfl (fun ls hl => ?_)
        refine lv_iload hx hb dX5_mirror_50 (lv_at hl 0 rfl) ?_
        refine lv_aload_n hx hb dX5_mirror_52 rfl (lv_at hl 2 rfl) ?_
        refine va_get (D := (dC, dI)) (ci := 5) (v := .int (V 2)) (C := RX5) (T := TX5) (N := 33) hx hb hts hin_X5 hown hK hP 0 rfl rfl 2 (by decide) hw2 (fun _ h9 => h9) rfl dX5_mirror_53 ?_
        refine lv_topi (fun x_13 ex_13 => ?_)
        obtain rfl : x_13 = 0 := ex_13.trans (hV2)
        refine lv_icmp_ge (tgt := 97) hx hb dX5_mirror_56 (by decide) (fun c_14 => ?_) (fun c_14 => ?_)
        · refine lv_iload_n hx hb dX5_mirror_97 rfl (lv_at hl 1 rfl) ?_
          refine lv_if_eq (tgt := 107) hx hb dX5_mirror_98 (by decide) (fun c_15 => ?_) (fun c_15 => ?_)
          · refine lv_aload_n hx hb dX5_mirror_107 rfl (lv_at hl 2 rfl) ?_
            refine va_get (D := (dC, dI)) (ci := 5) (v := .int (V 2)) (C := RX5) (T := TX5) (N := 33) hx hb hts hin_X5 hown hK hP 0 rfl rfl 2 (by decide) hw2 (fun _ h9 => h9) rfl dX5_mirror_108 ?_
            refine lv_topi (fun x_16 ex_16 => ?_)
            obtain rfl : x_16 = 0 := ex_16.trans (hV2)
            refine lv_bipush (v := 40) hx hb dX5_mirror_111 (by decide) ?_
            refine lv_icmp_ne (tgt := 122) hx hb dX5_mirror_113 (by decide) (fun c_17 => ?_) (fun c_17 => ?_)
            · refine lv_aload_n hx hb dX5_mirror_122 rfl (lv_at hl 2 rfl) ?_
              refine va_get (D := (dC, dI)) (ci := 5) (v := .ref (h 1)) (C := RX5) (T := TX5) (N := 33) hx hb hts hin_X5 hown hK hP 0 rfl rfl 8 (by decide) hw3 (fun _ h9 => h9) rfl dX5_mirror_123 ?_
              refine lv_aload_n hx hb dX5_mirror_126 rfl (lv_at hl 2 rfl) ?_
              refine va_get (D := (dC, dI)) (ci := 5) (v := .int (V 2)) (C := RX5) (T := TX5) (N := 33) hx hb hts hin_X5 hown hK hP 0 rfl rfl 2 (by decide) hw2 (fun _ h9 => h9) rfl dX5_mirror_127 ?_
              refine lv_topi (fun x_18 ex_18 => ?_)
              obtain rfl : x_18 = 0 := ex_18.trans (hV2)
              refine lv_iload_n hx hb dX5_mirror_130 rfl (lv_at hl 3 rfl) ?_
              refine va_iast hx hb hK hP hD hS 1 0 rfl rfl (vp_in_nI (n := 0) (N := 40) (by decide) (by decide)) dX5_mirror_131 (fun H locs hP hD hS => ?_)
              obtain ⟨F_19, eF_19⟩ : ∃ z : Nat → Nat → Int32, z = va_up F 1 (upd (F 1) (0 : Int32).toNatClampNeg p0) := ⟨_, rfl⟩
              have hP : va_P (dC, dI) vwCl (wM cI cZ cJ h F_19 G (va_up V 0 0)) H := by rw [eF_19]; exact hP
              have hD : va_D A (wM cI cZ cJ h F_19 G (va_up V 0 0)) := by rw [eF_19]; exact hD
              refine lv_aload_n hx hb dX5_mirror_132 rfl (lv_at hl 2 rfl) ?_
              refine va_get (D := (dC, dI)) (ci := 5) (v := .ref (h 2)) (C := RX5) (T := TX5) (N := 33) hx hb hts hin_X5 hown hK hP 0 rfl rfl 9 (by decide) hw4 (fun _ h9 => h9) rfl dX5_mirror_133 ?_
              refine lv_aload_n hx hb dX5_mirror_136 rfl (lv_at hl 2 rfl) ?_
              refine va_get (D := (dC, dI)) (ci := 5) (v := .int (V 2)) (C := RX5) (T := TX5) (N := 33) hx hb hts hin_X5 hown hK hP 0 rfl rfl 2 (by decide) hw2 (fun _ h9 => h9) rfl dX5_mirror_137 ?_
              refine lv_topi (fun x_20 ex_20 => ?_)
              obtain rfl : x_20 = 0 := ex_20.trans (hV2)
              refine lv_iload_n hx hb dX5_mirror_140 rfl (lv_at hl 4 rfl) ?_
              refine va_iast hx hb hK hP hD hS 2 0 rfl rfl (vp_in_nI (n := 0) (N := 40) (by decide) (by decide)) dX5_mirror_141 (fun H locs hP hD hS => ?_)
              obtain ⟨F_21, eF_21⟩ : ∃ z : Nat → Nat → Int32, z = va_up F_19 2 (upd (F_19 2) (0 : Int32).toNatClampNeg p1) := ⟨_, rfl⟩
              have hP : va_P (dC, dI) vwCl (wM cI cZ cJ h F_21 G (va_up V 0 0)) H := by rw [eF_21]; exact hP
              have hD : va_D A (wM cI cZ cJ h F_21 G (va_up V 0 0)) := by rw [eF_21]; exact hD
              refine lv_aload_n hx hb dX5_mirror_142 rfl (lv_at hl 2 rfl) ?_
              refine lv_dup hx hb dX5_mirror_143 rfl ?_
              refine va_get (D := (dC, dI)) (ci := 5) (v := .int (V 2)) (C := RX5) (T := TX5) (N := 33) hx hb hts hin_X5 hown hK hP 0 rfl rfl 2 (by decide) hw2 (fun _ h9 => h9) rfl dX5_mirror_144 ?_
              refine lv_topi (fun x_22 ex_22 => ?_)
              obtain rfl : x_22 = 0 := ex_22.trans (hV2)
              refine lv_iconst (v := 1) hx hb dX5_mirror_147 (by decide) ?_
              refine lv_iadd hx hb dX5_mirror_148 ?_
              refine lv_topi (fun x_23 ex_23 => ?_)
              obtain rfl : x_23 = 1 := ex_23.trans (by decide)
              refine va_put (D := (dC, dI)) (ci := 5) (v := .int 1) (ty := .int) (C := RX5) (T := TX5) (N := 33) hx hb hts hin_X5 tyX5 tyX5_ok nmX5 hown hK hP hD hS 0 rfl rfl 2 (by decide) hw2 (fun _ h9 => h9) rfl (by decide +kernel) rfl rfl (Nat.le_of_ble_eq_true rfl) dX5_mirror_149 (fun H locs hP hD hS => ?_)
              have hP : va_P (dC, dI) vwCl (wM cI cZ cJ h F_21 G (va_up (va_up V 0 0) 2 1)) H := hP
              have hD : va_D A (wM cI cZ cJ h F_21 G (va_up (va_up V 0 0) 2 1)) := hD
              refine lv_aload_n hx hb dX5_mirror_152 rfl (lv_at hl 2 rfl) ?_
              refine lv_aload_n hx hb dX5_mirror_153 rfl (lv_at hl 2 rfl) ?_
              refine va_get (D := (dC, dI)) (ci := 5) (v := .int 1) (C := RX5) (T := TX5) (N := 33) hx hb hts hin_X5 hown hK hP 0 rfl rfl 2 (by decide) hw2 (fun _ h9 => h9) rfl dX5_mirror_154 ?_
              refine lv_iconst (v := 1) hx hb dX5_mirror_157 (by decide) ?_
              refine lv_isub hx hb dX5_mirror_158 ?_
              refine lv_topi (fun x_24 ex_24 => ?_)
              obtain rfl : x_24 = 0 := ex_24.trans (by decide)
              refine cw_Vi (As := [.int 0]) (rest := []) (c_X5_done l dC dI cI cZ cJ h F_21 G (va_up (va_up V 0 0) 2 1) 0) fx (cwV 1 hts gX5_mirror_X5_done rfl rfl rfl (by decide +kernel) ⟨Nat.le_of_ble_eq_true rfl, Nat.le_of_ble_eq_true rfl⟩) hK hP hD hS hA 0 rfl rfl rfl rfl hl.1 rfl (Nat.le_of_ble_eq_true rfl) dX5_mirror_159 ⟨Nat.le_of_ble_eq_true rfl, Nat.le_of_ble_eq_true rfl⟩ (fun r_25 u_26 H locs hw_27 hP hD hS => ?_)
              have hP : va_P (dC, dI) vwCl (wM cI cZ cJ h F_21 G (va_up (va_up (va_up V 0 0) 2 1) 1 0)) H := hP
              have hD : va_D A (wM cI cZ cJ h F_21 G (va_up (va_up (va_up V 0 0) 2 1) 1 0)) := hD
              obtain rfl : r_25 = 0 := hw_27
              exact hret 0 () H locs 162 ls rfl dX5_mirror_162 (by first | rfl | (simp [a_mirror, c_4, c_11, c_12]; done) | (exfalso; omega)) (hP.sub [] rfl) (hD.sub [] (by decide) rfl) hS
            · exact absurd c_17 (by decide)
          · exact absurd c_15 (by decide)
        · exact absurd c_14 (by decide)
      · have c_12 : eqI p0 7 = true := decide_eq_true c_12
        refine lv_iload_n hx hb dX5_mirror_37 rfl (lv_at hl 2 rfl) ?_
        refine lv_if_ne (tgt := 45) hx hb dX5_mirror_38 (by decide) (fun c_28 => ?_) (fun c_28 => ?_)
        · have c_28 : eqI p1 0 = false := decide_eq_false c_28
          refine lv_iconst (v := 0) hx hb dX5_mirror_45 (by decide) ?_
          refine lv_istore_n (lv' := [(3, .int 0), (0, .ref (h 0)), (1, .int p0), (2, .int p1)]) hx hb dX5_mirror_46 rfl hl (by decide) rfl (fun ls hl => ?_)
          refine lv_iconst (v := 0) hx hb dX5_mirror_47 (by decide) ?_
          refine lv_istore (lv' := [(4, .int 0), (3, .int 0), (0, .ref (h 0)), (1, .int p0), (2, .int p1)]) hx hb dX5_mirror_48 hl (by decide) rfl (fun ls hl => ?_)
          refine lv_iload hx hb dX5_mirror_50 (lv_at hl 0 rfl) ?_
          refine lv_aload_n hx hb dX5_mirror_52 rfl (lv_at hl 2 rfl) ?_
          refine va_get (D := (dC, dI)) (ci := 5) (v := .int (V 2)) (C := RX5) (T := TX5) (N := 33) hx hb hts hin_X5 hown hK hP 0 rfl rfl 2 (by decide) hw2 (fun _ h9 => h9) rfl dX5_mirror_53 ?_
          refine lv_topi (fun x_29 ex_29 => ?_)
          obtain rfl : x_29 = 0 := ex_29.trans (hV2)
          refine lv_icmp_ge (tgt := 97) hx hb dX5_mirror_56 (by decide) (fun c_30 => ?_) (fun c_30 => ?_)
          · refine lv_iload_n hx hb dX5_mirror_97 rfl (lv_at hl 1 rfl) ?_
            refine lv_if_eq (tgt := 107) hx hb dX5_mirror_98 (by decide) (fun c_31 => ?_) (fun c_31 => ?_)
            · refine lv_aload_n hx hb dX5_mirror_107 rfl (lv_at hl 2 rfl) ?_
              refine va_get (D := (dC, dI)) (ci := 5) (v := .int (V 2)) (C := RX5) (T := TX5) (N := 33) hx hb hts hin_X5 hown hK hP 0 rfl rfl 2 (by decide) hw2 (fun _ h9 => h9) rfl dX5_mirror_108 ?_
              refine lv_topi (fun x_32 ex_32 => ?_)
              obtain rfl : x_32 = 0 := ex_32.trans (hV2)
              refine lv_bipush (v := 40) hx hb dX5_mirror_111 (by decide) ?_
              refine lv_icmp_ne (tgt := 122) hx hb dX5_mirror_113 (by decide) (fun c_33 => ?_) (fun c_33 => ?_)
              · refine lv_aload_n hx hb dX5_mirror_122 rfl (lv_at hl 2 rfl) ?_
                refine va_get (D := (dC, dI)) (ci := 5) (v := .ref (h 1)) (C := RX5) (T := TX5) (N := 33) hx hb hts hin_X5 hown hK hP 0 rfl rfl 8 (by decide) hw3 (fun _ h9 => h9) rfl dX5_mirror_123 ?_
                refine lv_aload_n hx hb dX5_mirror_126 rfl (lv_at hl 2 rfl) ?_
                refine va_get (D := (dC, dI)) (ci := 5) (v := .int (V 2)) (C := RX5) (T := TX5) (N := 33) hx hb hts hin_X5 hown hK hP 0 rfl rfl 2 (by decide) hw2 (fun _ h9 => h9) rfl dX5_mirror_127 ?_
                refine lv_topi (fun x_34 ex_34 => ?_)
                obtain rfl : x_34 = 0 := ex_34.trans (hV2)
                refine lv_iload_n hx hb dX5_mirror_130 rfl (lv_at hl 3 rfl) ?_
                refine va_iast hx hb hK hP hD hS 1 0 rfl rfl (vp_in_nI (n := 0) (N := 40) (by decide) (by decide)) dX5_mirror_131 (fun H locs hP hD hS => ?_)
                obtain ⟨F_35, eF_35⟩ : ∃ z : Nat → Nat → Int32, z = va_up F 1 (upd (F 1) (0 : Int32).toNatClampNeg p0) := ⟨_, rfl⟩
                have hP : va_P (dC, dI) vwCl (wM cI cZ cJ h F_35 G (va_up V 0 0)) H := by rw [eF_35]; exact hP
                have hD : va_D A (wM cI cZ cJ h F_35 G (va_up V 0 0)) := by rw [eF_35]; exact hD
                refine lv_aload_n hx hb dX5_mirror_132 rfl (lv_at hl 2 rfl) ?_
                refine va_get (D := (dC, dI)) (ci := 5) (v := .ref (h 2)) (C := RX5) (T := TX5) (N := 33) hx hb hts hin_X5 hown hK hP 0 rfl rfl 9 (by decide) hw4 (fun _ h9 => h9) rfl dX5_mirror_133 ?_
                refine lv_aload_n hx hb dX5_mirror_136 rfl (lv_at hl 2 rfl) ?_
                refine va_get (D := (dC, dI)) (ci := 5) (v := .int (V 2)) (C := RX5) (T := TX5) (N := 33) hx hb hts hin_X5 hown hK hP 0 rfl rfl 2 (by decide) hw2 (fun _ h9 => h9) rfl dX5_mirror_137 ?_
                refine lv_topi (fun x_36 ex_36 => ?_)
                obtain rfl : x_36 = 0 := ex_36.trans (hV2)
                refine lv_iload_n hx hb dX5_mirror_140 rfl (lv_at hl 4 rfl) ?_
                refine va_iast hx hb hK hP hD hS 2 0 rfl rfl (vp_in_nI (n := 0) (N := 40) (by decide) (by decide)) dX5_mirror_141 (fun H locs hP hD hS => ?_)
                obtain ⟨F_37, eF_37⟩ : ∃ z : Nat → Nat → Int32, z = va_up F_35 2 (upd (F_35 2) (0 : Int32).toNatClampNeg p1) := ⟨_, rfl⟩
                have hP : va_P (dC, dI) vwCl (wM cI cZ cJ h F_37 G (va_up V 0 0)) H := by rw [eF_37]; exact hP
                have hD : va_D A (wM cI cZ cJ h F_37 G (va_up V 0 0)) := by rw [eF_37]; exact hD
                refine lv_aload_n hx hb dX5_mirror_142 rfl (lv_at hl 2 rfl) ?_
                refine lv_dup hx hb dX5_mirror_143 rfl ?_
                refine va_get (D := (dC, dI)) (ci := 5) (v := .int (V 2)) (C := RX5) (T := TX5) (N := 33) hx hb hts hin_X5 hown hK hP 0 rfl rfl 2 (by decide) hw2 (fun _ h9 => h9) rfl dX5_mirror_144 ?_
                refine lv_topi (fun x_38 ex_38 => ?_)
                obtain rfl : x_38 = 0 := ex_38.trans (hV2)
                refine lv_iconst (v := 1) hx hb dX5_mirror_147 (by decide) ?_
                refine lv_iadd hx hb dX5_mirror_148 ?_
                refine lv_topi (fun x_39 ex_39 => ?_)
                obtain rfl : x_39 = 1 := ex_39.trans (by decide)
                refine va_put (D := (dC, dI)) (ci := 5) (v := .int 1) (ty := .int) (C := RX5) (T := TX5) (N := 33) hx hb hts hin_X5 tyX5 tyX5_ok nmX5 hown hK hP hD hS 0 rfl rfl 2 (by decide) hw2 (fun _ h9 => h9) rfl (by decide +kernel) rfl rfl (Nat.le_of_ble_eq_true rfl) dX5_mirror_149 (fun H locs hP hD hS => ?_)
                have hP : va_P (dC, dI) vwCl (wM cI cZ cJ h F_37 G (va_up (va_up V 0 0) 2 1)) H := hP
                have hD : va_D A (wM cI cZ cJ h F_37 G (va_up (va_up V 0 0) 2 1)) := hD
                refine lv_aload_n hx hb dX5_mirror_152 rfl (lv_at hl 2 rfl) ?_
                refine lv_aload_n hx hb dX5_mirror_153 rfl (lv_at hl 2 rfl) ?_
                refine va_get (D := (dC, dI)) (ci := 5) (v := .int 1) (C := RX5) (T := TX5) (N := 33) hx hb hts hin_X5 hown hK hP 0 rfl rfl 2 (by decide) hw2 (fun _ h9 => h9) rfl dX5_mirror_154 ?_
                refine lv_iconst (v := 1) hx hb dX5_mirror_157 (by decide) ?_
                refine lv_isub hx hb dX5_mirror_158 ?_
                refine lv_topi (fun x_40 ex_40 => ?_)
                obtain rfl : x_40 = 0 := ex_40.trans (by decide)
                refine cw_Vi (As := [.int 0]) (rest := []) (c_X5_done l dC dI cI cZ cJ h F_37 G (va_up (va_up V 0 0) 2 1) 0) fx (cwV 1 hts gX5_mirror_X5_done rfl rfl rfl (by decide +kernel) ⟨Nat.le_of_ble_eq_true rfl, Nat.le_of_ble_eq_true rfl⟩) hK hP hD hS hA 0 rfl rfl rfl rfl hl.1 rfl (Nat.le_of_ble_eq_true rfl) dX5_mirror_159 ⟨Nat.le_of_ble_eq_true rfl, Nat.le_of_ble_eq_true rfl⟩ (fun r_41 u_42 H locs hw_43 hP hD hS => ?_)
                have hP : va_P (dC, dI) vwCl (wM cI cZ cJ h F_37 G (va_up (va_up (va_up V 0 0) 2 1) 1 0)) H := hP
                have hD : va_D A (wM cI cZ cJ h F_37 G (va_up (va_up (va_up V 0 0) 2 1) 1 0)) := hD
                obtain rfl : r_41 = 0 := hw_43
                exact hret 0 () H locs 162 ls rfl dX5_mirror_162 (by first | rfl | (simp [a_mirror, c_4, c_11, c_12, c_28]; done) | (exfalso; omega)) (hP.sub [] rfl) (hD.sub [] (by decide) rfl) hS
              · exact absurd c_33 (by decide)
            · exact absurd c_31 (by decide)
          · exact absurd c_30 (by decide)
        · have c_28 : eqI p1 0 = true := decide_eq_true c_28
          refine lv_iconst (v := 1) hx hb dX5_mirror_41 (by decide) ?_
          refine lv_goto (tgt := 46) hx hb dX5_mirror_42 (by decide) ?_
          refine lv_istore_n (lv' := [(3, .int 1), (0, .ref (h 0)), (1, .int p0), (2, .int p1)]) hx hb dX5_mirror_46 rfl hl (by decide) rfl (fun ls hl => ?_)
          refine lv_iconst (v := 0) hx hb dX5_mirror_47 (by decide) ?_
          refine lv_istore (lv' := [(4, .int 0), (3, .int 1), (0, .ref (h 0)), (1, .int p0), (2, .int p1)]) hx hb dX5_mirror_48 hl (by decide) rfl (fun ls hl => ?_)
          refine lv_iload hx hb dX5_mirror_50 (lv_at hl 0 rfl) ?_
          refine lv_aload_n hx hb dX5_mirror_52 rfl (lv_at hl 2 rfl) ?_
          refine va_get (D := (dC, dI)) (ci := 5) (v := .int (V 2)) (C := RX5) (T := TX5) (N := 33) hx hb hts hin_X5 hown hK hP 0 rfl rfl 2 (by decide) hw2 (fun _ h9 => h9) rfl dX5_mirror_53 ?_
          refine lv_topi (fun x_44 ex_44 => ?_)
          obtain rfl : x_44 = 0 := ex_44.trans (hV2)
          refine lv_icmp_ge (tgt := 97) hx hb dX5_mirror_56 (by decide) (fun c_45 => ?_) (fun c_45 => ?_)
          · refine lv_iload_n hx hb dX5_mirror_97 rfl (lv_at hl 1 rfl) ?_
            refine lv_if_eq (tgt := 107) hx hb dX5_mirror_98 (by decide) (fun c_46 => ?_) (fun c_46 => ?_)
            · exact absurd c_46 (by decide)
            · refine lv_aload_n hx hb dX5_mirror_101 rfl (lv_at hl 2 rfl) ?_
              refine lv_iconst (v := 4) hx hb dX5_mirror_102 (by decide) ?_
              refine cw_Vi (As := [.int 4]) (rest := []) (c_X5_refused l dC dI cI cZ cJ h F G (va_up V 0 0) 4) fx (cwV 1 hts gX5_mirror_X5_refused rfl rfl rfl (by decide +kernel) ⟨Nat.le_of_ble_eq_true rfl, Nat.le_of_ble_eq_true rfl⟩) hK hP hD hS hA 0 rfl rfl rfl rfl hl.1 rfl (Nat.le_of_ble_eq_true rfl) dX5_mirror_103 ⟨Nat.le_of_ble_eq_true rfl, Nat.le_of_ble_eq_true rfl⟩ (fun r_47 u_48 H locs hw_49 hP hD hS => ?_)
              have hP : va_P (dC, dI) vwCl (wM cI cZ cJ h F G (va_up (va_up V 0 0) 1 4)) H := hP
              have hD : va_D A (wM cI cZ cJ h F G (va_up (va_up V 0 0) 1 4)) := hD
              obtain rfl : r_47 = (-1) := hw_49
              exact hret (-1) () H locs 106 ls rfl dX5_mirror_106 (by first | rfl | (simp [a_mirror, c_4, c_11, c_12, c_28]; done) | (exfalso; omega)) (hP.sub [] rfl) (hD.sub [] (by decide) rfl) hS
          · exact absurd c_45 (by decide)
    · have c_11 : isW p1 0 14 = false := bI_f hw_10 c_11
      refine lv_aload_n hx hb dX5_mirror_25 rfl (lv_at hl 0 rfl) ?_
      refine lv_iconst (v := 2) hx hb dX5_mirror_26 (by decide) ?_
      refine cw_Vi (As := [.int 2]) (rest := []) (c_X5_refused l dC dI cI cZ cJ h F G (va_up V 0 0) 2) fx (cwV 1 hts gX5_mirror_X5_refused rfl rfl rfl (by decide +kernel) ⟨Nat.le_of_ble_eq_true rfl, Nat.le_of_ble_eq_true rfl⟩) hK hP hD hS hA 0 rfl rfl rfl rfl hl.1 rfl (Nat.le_of_ble_eq_true rfl) dX5_mirror_27 ⟨Nat.le_of_ble_eq_true rfl, Nat.le_of_ble_eq_true rfl⟩ (fun r_50 u_51 H locs hw_52 hP hD hS => ?_)
      have hP : va_P (dC, dI) vwCl (wM cI cZ cJ h F G (va_up (va_up V 0 0) 1 2)) H := hP
      have hD : va_D A (wM cI cZ cJ h F G (va_up (va_up V 0 0) 1 2)) := hD
      obtain rfl : r_50 = (-1) := hw_52
      exact hret (-1) () H locs 30 ls rfl dX5_mirror_30 (by first | rfl | (simp [a_mirror, c_4, c_11]; done) | (exfalso; omega)) (hP.sub [] rfl) (hD.sub [] (by decide) rfl) hS
def rm_X5_sun : Room := { frames := 1, cells := 0, slots := 0, locals := 22 }
set_option maxHeartbeats 4000000 in
set_option maxRecDepth 100000 in
theorem c_X5_sun (l : Launch) (dC : Nat → ClassId) (dI : Nat → Nat → Nat) (cI cZ cJ : ClassId) (h : Nat → Nat) (F : Nat → Nat → Int32) (G : Nat → Int64) (V : Nat → Int32) (p0 p1 p2 p3 : Int32)  : CtI l (dC, dI) vwCl (tys3 cI cZ cJ) yX5_sun wsX5_sun rm_X5_sun [.ref (h 0), .int p0, .int p1, .int p2, .int p3] (wM cI cZ cJ h F G V) (S := Unit) (fun r _ => r = a_sun p0 p1 p2 p3) (fun _ => []) 0 0 := by
  refine ct_I (cc := cX5_sun) (maxL := 5) (ty := .boolean) (own := RX5) (by decide) rfl rfl (Nat.le_of_ble_eq_true rfl) (lv := [(0, .ref (h 0)), (1, .int p0), (2, .int p1), (3, .int p2), (4, .int p3)]) rfl ?_
  intro p e s m args below meth c A Q ls fx hK hP hD hA hl hret
  obtain ⟨hx, hb, hml, hown, hts⟩ := id fx
  have hS : va_S A s.heap s.heap [] := va_S.rf
  have hw0 := hts (.fieldLink RX5 1 "MirrorTowerModel" "thrown" "I") (by decide +kernel)
  have hin_X5 : ∀ w ∈ u_ws RX5 TX5 33, w ∈ wsX5_sun := by decide +kernel
  have hw2 := hts (.fieldLink RX5 32 "MirrorTowerModel" "sunX" "[I") (by decide +kernel)
  have hw3 := hts (.fieldLink RX5 35 "MirrorTowerModel" "sunY" "[I") (by decide +kernel)
  have hw4 := hts (.fieldLink RX5 38 "MirrorTowerModel" "height" "[I") (by decide +kernel)
  obtain ⟨H, hH⟩ : ∃ H, H = s.heap := ⟨_, rfl⟩
  rw [← hH] at hP ⊢
  have hS : va_S A s.heap H [] := by rw [hH]; exact hS
  generalize ([] : List Loc) = locs at hS ⊢
  refine lv_aload_n hx hb dX5_sun_0 rfl (lv_at hl 0 rfl) ?_
  refine lv_iconst (v := 0) hx hb dX5_sun_1 (by decide) ?_
  refine va_put (D := (dC, dI)) (ci := 5) (v := .int 0) (ty := .int) (C := RX5) (T := TX5) (N := 33) hx hb hts hin_X5 tyX5 tyX5_ok nmX5 hown hK hP hD hS 0 rfl rfl 0 (by decide) hw0 (fun _ h9 => h9) rfl (by decide +kernel) rfl rfl (Nat.le_of_ble_eq_true rfl) dX5_sun_2 (fun H locs hP hD hS => ?_)
  have hP : va_P (dC, dI) vwCl (wM cI cZ cJ h F G (va_up V 0 0)) H := hP
  have hD : va_D A (wM cI cZ cJ h F G (va_up V 0 0)) := hD
  refine lv_iload_n hx hb dX5_sun_5 rfl (lv_at hl 1 rfl) ?_
  refine cw_Si (As := [.int p0]) (rest := []) (c_X5_isHour l dC dI cI cZ cJ (wM cI cZ cJ h F G (va_up V 0 0)) p0) fx (va_cwS 1 hts gX5_sun_X5_isHour rfl rfl rfl (by decide +kernel) ⟨Nat.le_of_ble_eq_true rfl, Nat.le_of_ble_eq_true rfl⟩) hK hP hD hS hA rfl hl.1 rfl (Nat.le_of_ble_eq_true rfl) dX5_sun_6 ⟨Nat.le_of_ble_eq_true rfl, Nat.le_of_ble_eq_true rfl⟩ (fun r_1 u_2 H locs hw_3 hP hD hS => ?_)
  have hP : va_P (dC, dI) vwCl (wM cI cZ cJ h F G (va_up V 0 0)) H := hP
  have hD : va_D A (wM cI cZ cJ h F G (va_up V 0 0)) := hD
  have hw_3 : r_1 = bI (isW p0 0 23) := hw_3
  refine lv_if_eq (tgt := 51) hx hb dX5_sun_9 (by decide) (fun c_4 => ?_) (fun c_4 => ?_)
  · have c_4 : isW p0 0 23 = false := bI_f hw_3 c_4
    refine lv_aload_n hx hb dX5_sun_51 rfl (lv_at hl 0 rfl) ?_
    refine lv_iconst (v := 2) hx hb dX5_sun_52 (by decide) ?_
    refine cw_Vi (As := [.int 2]) (rest := []) (c_X5_denied l dC dI cI cZ cJ h F G (va_up V 0 0) 2) fx (cwV 1 hts gX5_sun_X5_denied rfl rfl rfl (by decide +kernel) ⟨Nat.le_of_ble_eq_true rfl, Nat.le_of_ble_eq_true rfl⟩) hK hP hD hS hA 0 rfl rfl rfl rfl hl.1 rfl (Nat.le_of_ble_eq_true rfl) dX5_sun_53 ⟨Nat.le_of_ble_eq_true rfl, Nat.le_of_ble_eq_true rfl⟩ (fun r_5 u_6 H locs hw_7 hP hD hS => ?_)
    have hP : va_P (dC, dI) vwCl (wM cI cZ cJ h F G (va_up (va_up V 0 0) 1 2)) H := hP
    have hD : va_D A (wM cI cZ cJ h F G (va_up (va_up V 0 0) 1 2)) := hD
    obtain rfl : r_5 = 0 := hw_7
    exact hret 0 () H locs 56 ls rfl dX5_sun_56 (by first | rfl | (simp [a_sun, c_4]; done) | (exfalso; omega)) (hP.sub [] rfl) (hD.sub [] (by decide) rfl) hS
  · have c_4 : isW p0 0 23 = true := bI_t hw_3 c_4
    refine lv_iload_n hx hb dX5_sun_12 rfl (lv_at hl 2 rfl) ?_
    refine lv_bipush (v := (-2)) hx hb dX5_sun_13 (by decide) ?_
    refine lv_iconst (v := 2) hx hb dX5_sun_15 (by decide) ?_
    refine cw_Si (As := [.int p1, .int (-2), .int 2]) (rest := []) (c_X5_in l dC dI cI cZ cJ (wM cI cZ cJ h F G (va_up V 0 0)) p1 (-2) 2) fx (va_cwS 3 hts gX5_sun_X5_in rfl rfl rfl (by decide +kernel) ⟨Nat.le_of_ble_eq_true rfl, Nat.le_of_ble_eq_true rfl⟩) hK hP hD hS hA rfl hl.1 rfl (Nat.le_of_ble_eq_true rfl) dX5_sun_16 ⟨Nat.le_of_ble_eq_true rfl, Nat.le_of_ble_eq_true rfl⟩ (fun r_8 u_9 H locs hw_10 hP hD hS => ?_)
    have hP : va_P (dC, dI) vwCl (wM cI cZ cJ h F G (va_up V 0 0)) H := hP
    have hD : va_D A (wM cI cZ cJ h F G (va_up V 0 0)) := hD
    have hw_10 : r_8 = bI (isW p1 (-2) 2) := hw_10
    refine lv_if_eq (tgt := 51) hx hb dX5_sun_19 (by decide) (fun c_11 => ?_) (fun c_11 => ?_)
    · have c_11 : isW p1 (-2) 2 = false := bI_f hw_10 c_11
      refine lv_aload_n hx hb dX5_sun_51 rfl (lv_at hl 0 rfl) ?_
      refine lv_iconst (v := 2) hx hb dX5_sun_52 (by decide) ?_
      refine cw_Vi (As := [.int 2]) (rest := []) (c_X5_denied l dC dI cI cZ cJ h F G (va_up V 0 0) 2) fx (cwV 1 hts gX5_sun_X5_denied rfl rfl rfl (by decide +kernel) ⟨Nat.le_of_ble_eq_true rfl, Nat.le_of_ble_eq_true rfl⟩) hK hP hD hS hA 0 rfl rfl rfl rfl hl.1 rfl (Nat.le_of_ble_eq_true rfl) dX5_sun_53 ⟨Nat.le_of_ble_eq_true rfl, Nat.le_of_ble_eq_true rfl⟩ (fun r_12 u_13 H locs hw_14 hP hD hS => ?_)
      have hP : va_P (dC, dI) vwCl (wM cI cZ cJ h F G (va_up (va_up V 0 0) 1 2)) H := hP
      have hD : va_D A (wM cI cZ cJ h F G (va_up (va_up V 0 0) 1 2)) := hD
      obtain rfl : r_12 = 0 := hw_14
      exact hret 0 () H locs 56 ls rfl dX5_sun_56 (by first | rfl | (simp [a_sun, c_4, c_11]; done) | (exfalso; omega)) (hP.sub [] rfl) (hD.sub [] (by decide) rfl) hS
    · have c_11 : isW p1 (-2) 2 = true := bI_t hw_10 c_11
      refine lv_iload_n hx hb dX5_sun_22 rfl (lv_at hl 3 rfl) ?_
      refine lv_bipush (v := (-2)) hx hb dX5_sun_23 (by decide) ?_
      refine lv_iconst (v := 2) hx hb dX5_sun_25 (by decide) ?_
      refine cw_Si (As := [.int p2, .int (-2), .int 2]) (rest := []) (c_X5_in l dC dI cI cZ cJ (wM cI cZ cJ h F G (va_up V 0 0)) p2 (-2) 2) fx (va_cwS 3 hts gX5_sun_X5_in rfl rfl rfl (by decide +kernel) ⟨Nat.le_of_ble_eq_true rfl, Nat.le_of_ble_eq_true rfl⟩) hK hP hD hS hA rfl hl.1 rfl (Nat.le_of_ble_eq_true rfl) dX5_sun_26 ⟨Nat.le_of_ble_eq_true rfl, Nat.le_of_ble_eq_true rfl⟩ (fun r_15 u_16 H locs hw_17 hP hD hS => ?_)
      have hP : va_P (dC, dI) vwCl (wM cI cZ cJ h F G (va_up V 0 0)) H := hP
      have hD : va_D A (wM cI cZ cJ h F G (va_up V 0 0)) := hD
      have hw_17 : r_15 = bI (isW p2 (-2) 2) := hw_17
      refine lv_if_eq (tgt := 51) hx hb dX5_sun_29 (by decide) (fun c_18 => ?_) (fun c_18 => ?_)
      · have c_18 : isW p2 (-2) 2 = false := bI_f hw_17 c_18
        refine lv_aload_n hx hb dX5_sun_51 rfl (lv_at hl 0 rfl) ?_
        refine lv_iconst (v := 2) hx hb dX5_sun_52 (by decide) ?_
        refine cw_Vi (As := [.int 2]) (rest := []) (c_X5_denied l dC dI cI cZ cJ h F G (va_up V 0 0) 2) fx (cwV 1 hts gX5_sun_X5_denied rfl rfl rfl (by decide +kernel) ⟨Nat.le_of_ble_eq_true rfl, Nat.le_of_ble_eq_true rfl⟩) hK hP hD hS hA 0 rfl rfl rfl rfl hl.1 rfl (Nat.le_of_ble_eq_true rfl) dX5_sun_53 ⟨Nat.le_of_ble_eq_true rfl, Nat.le_of_ble_eq_true rfl⟩ (fun r_19 u_20 H locs hw_21 hP hD hS => ?_)
        have hP : va_P (dC, dI) vwCl (wM cI cZ cJ h F G (va_up (va_up V 0 0) 1 2)) H := hP
        have hD : va_D A (wM cI cZ cJ h F G (va_up (va_up V 0 0) 1 2)) := hD
        obtain rfl : r_19 = 0 := hw_21
        exact hret 0 () H locs 56 ls rfl dX5_sun_56 (by first | rfl | (simp [a_sun, c_4, c_11, c_18]; done) | (exfalso; omega)) (hP.sub [] rfl) (hD.sub [] (by decide) rfl) hS
      · have c_18 : isW p2 (-2) 2 = true := bI_t hw_17 c_18
        refine lv_iload_n hx hb dX5_sun_32 rfl (lv_at hl 2 rfl) ?_
        refine lv_if_ne (tgt := 40) hx hb dX5_sun_33 (by decide) (fun c_22 => ?_) (fun c_22 => ?_)
        · have c_22 : eqI p1 0 = false := decide_eq_false c_22
          refine lv_iload hx hb dX5_sun_40 (lv_at hl 4 rfl) ?_
          refine lv_iconst (v := 0) hx hb dX5_sun_42 (by decide) ?_
          refine lv_bipush (v := 9) hx hb dX5_sun_43 (by decide) ?_
          refine cw_Si (As := [.int p3, .int 0, .int 9]) (rest := []) (c_X5_in l dC dI cI cZ cJ (wM cI cZ cJ h F G (va_up V 0 0)) p3 0 9) fx (va_cwS 3 hts gX5_sun_X5_in rfl rfl rfl (by decide +kernel) ⟨Nat.le_of_ble_eq_true rfl, Nat.le_of_ble_eq_true rfl⟩) hK hP hD hS hA rfl hl.1 rfl (Nat.le_of_ble_eq_true rfl) dX5_sun_45 ⟨Nat.le_of_ble_eq_true rfl, Nat.le_of_ble_eq_true rfl⟩ (fun r_23 u_24 H locs hw_25 hP hD hS => ?_)
          have hP : va_P (dC, dI) vwCl (wM cI cZ cJ h F G (va_up V 0 0)) H := hP
          have hD : va_D A (wM cI cZ cJ h F G (va_up V 0 0)) := hD
          have hw_25 : r_23 = bI (isW p3 0 9) := hw_25
          refine lv_if_ne (tgt := 57) hx hb dX5_sun_48 (by decide) (fun c_26 => ?_) (fun c_26 => ?_)
          · have c_26 : isW p3 0 9 = true := bI_t hw_25 c_26
            refine lv_aload_n hx hb dX5_sun_57 rfl (lv_at hl 0 rfl) ?_
            refine va_get (D := (dC, dI)) (ci := 5) (v := .ref (h 5)) (C := RX5) (T := TX5) (N := 33) hx hb hts hin_X5 hown hK hP 0 rfl rfl 12 (by decide) hw2 (fun _ h9 => h9) rfl dX5_sun_58 ?_
            refine lv_iload_n hx hb dX5_sun_61 rfl (lv_at hl 1 rfl) ?_
            refine lv_iload_n hx hb dX5_sun_62 rfl (lv_at hl 2 rfl) ?_
            obtain ⟨k0, hk0, rfl⟩ := isW_nat (M := 23) (n := 23) (by decide) c_4
            refine va_iast hx hb hK hP hD hS 5 0 rfl rfl (vp_in_nI (n := k0) (N := 24) (by omega) (by decide)) dX5_sun_63 (fun H locs hP hD hS => ?_)
            obtain ⟨F_27, eF_27⟩ : ∃ z : Nat → Nat → Int32, z = va_up F 5 (upd (F 5) (nI k0).toNatClampNeg p1) := ⟨_, rfl⟩
            have hP : va_P (dC, dI) vwCl (wM cI cZ cJ h F_27 G (va_up V 0 0)) H := by rw [eF_27]; exact hP
            have hD : va_D A (wM cI cZ cJ h F_27 G (va_up V 0 0)) := by rw [eF_27]; exact hD
            refine lv_aload_n hx hb dX5_sun_64 rfl (lv_at hl 0 rfl) ?_
            refine va_get (D := (dC, dI)) (ci := 5) (v := .ref (h 6)) (C := RX5) (T := TX5) (N := 33) hx hb hts hin_X5 hown hK hP 0 rfl rfl 13 (by decide) hw3 (fun _ h9 => h9) rfl dX5_sun_65 ?_
            refine lv_iload_n hx hb dX5_sun_68 rfl (lv_at hl 1 rfl) ?_
            refine lv_iload_n hx hb dX5_sun_69 rfl (lv_at hl 3 rfl) ?_
            refine va_iast hx hb hK hP hD hS 6 0 rfl rfl (vp_in_nI (n := k0) (N := 24) (by omega) (by decide)) dX5_sun_70 (fun H locs hP hD hS => ?_)
            obtain ⟨F_28, eF_28⟩ : ∃ z : Nat → Nat → Int32, z = va_up F_27 6 (upd (F_27 6) (nI k0).toNatClampNeg p2) := ⟨_, rfl⟩
            have hP : va_P (dC, dI) vwCl (wM cI cZ cJ h F_28 G (va_up V 0 0)) H := by rw [eF_28]; exact hP
            have hD : va_D A (wM cI cZ cJ h F_28 G (va_up V 0 0)) := by rw [eF_28]; exact hD
            refine lv_aload_n hx hb dX5_sun_71 rfl (lv_at hl 0 rfl) ?_
            refine va_get (D := (dC, dI)) (ci := 5) (v := .ref (h 7)) (C := RX5) (T := TX5) (N := 33) hx hb hts hin_X5 hown hK hP 0 rfl rfl 14 (by decide) hw4 (fun _ h9 => h9) rfl dX5_sun_72 ?_
            refine lv_iload_n hx hb dX5_sun_75 rfl (lv_at hl 1 rfl) ?_
            refine lv_iload hx hb dX5_sun_76 (lv_at hl 4 rfl) ?_
            refine va_iast hx hb hK hP hD hS 7 0 rfl rfl (vp_in_nI (n := k0) (N := 24) (by omega) (by decide)) dX5_sun_78 (fun H locs hP hD hS => ?_)
            obtain ⟨F_29, eF_29⟩ : ∃ z : Nat → Nat → Int32, z = va_up F_28 7 (upd (F_28 7) (nI k0).toNatClampNeg p3) := ⟨_, rfl⟩
            have hP : va_P (dC, dI) vwCl (wM cI cZ cJ h F_29 G (va_up V 0 0)) H := by rw [eF_29]; exact hP
            have hD : va_D A (wM cI cZ cJ h F_29 G (va_up V 0 0)) := by rw [eF_29]; exact hD
            refine lv_aload_n hx hb dX5_sun_79 rfl (lv_at hl 0 rfl) ?_
            refine cw_Vi (As := []) (rest := []) (c_X5_granted l dC dI cI cZ cJ h F_29 G (va_up V 0 0)) fx (cwV 0 hts gX5_sun_X5_granted rfl rfl rfl (by decide +kernel) ⟨Nat.le_of_ble_eq_true rfl, Nat.le_of_ble_eq_true rfl⟩) hK hP hD hS hA 0 rfl rfl rfl rfl hl.1 rfl (Nat.le_of_ble_eq_true rfl) dX5_sun_80 ⟨Nat.le_of_ble_eq_true rfl, Nat.le_of_ble_eq_true rfl⟩ (fun r_30 u_31 H locs hw_32 hP hD hS => ?_)
            have hP : va_P (dC, dI) vwCl (wM cI cZ cJ h F_29 G (va_up (va_up V 0 0) 1 0)) H := hP
            have hD : va_D A (wM cI cZ cJ h F_29 G (va_up (va_up V 0 0) 1 0)) := hD
            obtain rfl : r_30 = 1 := hw_32
            exact hret 1 () H locs 83 ls rfl dX5_sun_83 (by first | rfl | (simp [a_sun, c_4, c_11, c_18, c_22, c_26]; done) | (exfalso; omega)) (hP.sub [] rfl) (hD.sub [] (by decide) rfl) hS
          · have c_26 : isW p3 0 9 = false := bI_f hw_25 c_26
            refine lv_aload_n hx hb dX5_sun_51 rfl (lv_at hl 0 rfl) ?_
            refine lv_iconst (v := 2) hx hb dX5_sun_52 (by decide) ?_
            refine cw_Vi (As := [.int 2]) (rest := []) (c_X5_denied l dC dI cI cZ cJ h F G (va_up V 0 0) 2) fx (cwV 1 hts gX5_sun_X5_denied rfl rfl rfl (by decide +kernel) ⟨Nat.le_of_ble_eq_true rfl, Nat.le_of_ble_eq_true rfl⟩) hK hP hD hS hA 0 rfl rfl rfl rfl hl.1 rfl (Nat.le_of_ble_eq_true rfl) dX5_sun_53 ⟨Nat.le_of_ble_eq_true rfl, Nat.le_of_ble_eq_true rfl⟩ (fun r_33 u_34 H locs hw_35 hP hD hS => ?_)
            have hP : va_P (dC, dI) vwCl (wM cI cZ cJ h F G (va_up (va_up V 0 0) 1 2)) H := hP
            have hD : va_D A (wM cI cZ cJ h F G (va_up (va_up V 0 0) 1 2)) := hD
            obtain rfl : r_33 = 0 := hw_35
            exact hret 0 () H locs 56 ls rfl dX5_sun_56 (by first | rfl | (simp [a_sun, c_4, c_11, c_18, c_22, c_26]; done) | (exfalso; omega)) (hP.sub [] rfl) (hD.sub [] (by decide) rfl) hS
        · have c_22 : eqI p1 0 = true := decide_eq_true c_22
          refine lv_iload_n hx hb dX5_sun_36 rfl (lv_at hl 3 rfl) ?_
          refine lv_if_eq (tgt := 51) hx hb dX5_sun_37 (by decide) (fun c_36 => ?_) (fun c_36 => ?_)
          · have c_36 : eqI p2 0 = true := decide_eq_true c_36
            refine lv_aload_n hx hb dX5_sun_51 rfl (lv_at hl 0 rfl) ?_
            refine lv_iconst (v := 2) hx hb dX5_sun_52 (by decide) ?_
            refine cw_Vi (As := [.int 2]) (rest := []) (c_X5_denied l dC dI cI cZ cJ h F G (va_up V 0 0) 2) fx (cwV 1 hts gX5_sun_X5_denied rfl rfl rfl (by decide +kernel) ⟨Nat.le_of_ble_eq_true rfl, Nat.le_of_ble_eq_true rfl⟩) hK hP hD hS hA 0 rfl rfl rfl rfl hl.1 rfl (Nat.le_of_ble_eq_true rfl) dX5_sun_53 ⟨Nat.le_of_ble_eq_true rfl, Nat.le_of_ble_eq_true rfl⟩ (fun r_37 u_38 H locs hw_39 hP hD hS => ?_)
            have hP : va_P (dC, dI) vwCl (wM cI cZ cJ h F G (va_up (va_up V 0 0) 1 2)) H := hP
            have hD : va_D A (wM cI cZ cJ h F G (va_up (va_up V 0 0) 1 2)) := hD
            obtain rfl : r_37 = 0 := hw_39
            exact hret 0 () H locs 56 ls rfl dX5_sun_56 (by first | rfl | (simp [a_sun, c_4, c_11, c_18, c_22, c_36]; done) | (exfalso; omega)) (hP.sub [] rfl) (hD.sub [] (by decide) rfl) hS
          · have c_36 : eqI p2 0 = false := decide_eq_false c_36
            refine lv_iload hx hb dX5_sun_40 (lv_at hl 4 rfl) ?_
            refine lv_iconst (v := 0) hx hb dX5_sun_42 (by decide) ?_
            refine lv_bipush (v := 9) hx hb dX5_sun_43 (by decide) ?_
            refine cw_Si (As := [.int p3, .int 0, .int 9]) (rest := []) (c_X5_in l dC dI cI cZ cJ (wM cI cZ cJ h F G (va_up V 0 0)) p3 0 9) fx (va_cwS 3 hts gX5_sun_X5_in rfl rfl rfl (by decide +kernel) ⟨Nat.le_of_ble_eq_true rfl, Nat.le_of_ble_eq_true rfl⟩) hK hP hD hS hA rfl hl.1 rfl (Nat.le_of_ble_eq_true rfl) dX5_sun_45 ⟨Nat.le_of_ble_eq_true rfl, Nat.le_of_ble_eq_true rfl⟩ (fun r_40 u_41 H locs hw_42 hP hD hS => ?_)
            have hP : va_P (dC, dI) vwCl (wM cI cZ cJ h F G (va_up V 0 0)) H := hP
            have hD : va_D A (wM cI cZ cJ h F G (va_up V 0 0)) := hD
            have hw_42 : r_40 = bI (isW p3 0 9) := hw_42
            refine lv_if_ne (tgt := 57) hx hb dX5_sun_48 (by decide) (fun c_43 => ?_) (fun c_43 => ?_)
            · have c_43 : isW p3 0 9 = true := bI_t hw_42 c_43
              refine lv_aload_n hx hb dX5_sun_57 rfl (lv_at hl 0 rfl) ?_
              refine va_get (D := (dC, dI)) (ci := 5) (v := .ref (h 5)) (C := RX5) (T := TX5) (N := 33) hx hb hts hin_X5 hown hK hP 0 rfl rfl 12 (by decide) hw2 (fun _ h9 => h9) rfl dX5_sun_58 ?_
              refine lv_iload_n hx hb dX5_sun_61 rfl (lv_at hl 1 rfl) ?_
              refine lv_iload_n hx hb dX5_sun_62 rfl (lv_at hl 2 rfl) ?_
              obtain ⟨k0, hk0, rfl⟩ := isW_nat (M := 23) (n := 23) (by decide) c_4
              refine va_iast hx hb hK hP hD hS 5 0 rfl rfl (vp_in_nI (n := k0) (N := 24) (by omega) (by decide)) dX5_sun_63 (fun H locs hP hD hS => ?_)
              obtain ⟨F_44, eF_44⟩ : ∃ z : Nat → Nat → Int32, z = va_up F 5 (upd (F 5) (nI k0).toNatClampNeg p1) := ⟨_, rfl⟩
              have hP : va_P (dC, dI) vwCl (wM cI cZ cJ h F_44 G (va_up V 0 0)) H := by rw [eF_44]; exact hP
              have hD : va_D A (wM cI cZ cJ h F_44 G (va_up V 0 0)) := by rw [eF_44]; exact hD
              refine lv_aload_n hx hb dX5_sun_64 rfl (lv_at hl 0 rfl) ?_
              refine va_get (D := (dC, dI)) (ci := 5) (v := .ref (h 6)) (C := RX5) (T := TX5) (N := 33) hx hb hts hin_X5 hown hK hP 0 rfl rfl 13 (by decide) hw3 (fun _ h9 => h9) rfl dX5_sun_65 ?_
              refine lv_iload_n hx hb dX5_sun_68 rfl (lv_at hl 1 rfl) ?_
              refine lv_iload_n hx hb dX5_sun_69 rfl (lv_at hl 3 rfl) ?_
              refine va_iast hx hb hK hP hD hS 6 0 rfl rfl (vp_in_nI (n := k0) (N := 24) (by omega) (by decide)) dX5_sun_70 (fun H locs hP hD hS => ?_)
              obtain ⟨F_45, eF_45⟩ : ∃ z : Nat → Nat → Int32, z = va_up F_44 6 (upd (F_44 6) (nI k0).toNatClampNeg p2) := ⟨_, rfl⟩
              have hP : va_P (dC, dI) vwCl (wM cI cZ cJ h F_45 G (va_up V 0 0)) H := by rw [eF_45]; exact hP
              have hD : va_D A (wM cI cZ cJ h F_45 G (va_up V 0 0)) := by rw [eF_45]; exact hD
              refine lv_aload_n hx hb dX5_sun_71 rfl (lv_at hl 0 rfl) ?_
              refine va_get (D := (dC, dI)) (ci := 5) (v := .ref (h 7)) (C := RX5) (T := TX5) (N := 33) hx hb hts hin_X5 hown hK hP 0 rfl rfl 14 (by decide) hw4 (fun _ h9 => h9) rfl dX5_sun_72 ?_
              refine lv_iload_n hx hb dX5_sun_75 rfl (lv_at hl 1 rfl) ?_
              refine lv_iload hx hb dX5_sun_76 (lv_at hl 4 rfl) ?_
              refine va_iast hx hb hK hP hD hS 7 0 rfl rfl (vp_in_nI (n := k0) (N := 24) (by omega) (by decide)) dX5_sun_78 (fun H locs hP hD hS => ?_)
              obtain ⟨F_46, eF_46⟩ : ∃ z : Nat → Nat → Int32, z = va_up F_45 7 (upd (F_45 7) (nI k0).toNatClampNeg p3) := ⟨_, rfl⟩
              have hP : va_P (dC, dI) vwCl (wM cI cZ cJ h F_46 G (va_up V 0 0)) H := by rw [eF_46]; exact hP
              have hD : va_D A (wM cI cZ cJ h F_46 G (va_up V 0 0)) := by rw [eF_46]; exact hD
              refine lv_aload_n hx hb dX5_sun_79 rfl (lv_at hl 0 rfl) ?_
              refine cw_Vi (As := []) (rest := []) (c_X5_granted l dC dI cI cZ cJ h F_46 G (va_up V 0 0)) fx (cwV 0 hts gX5_sun_X5_granted rfl rfl rfl (by decide +kernel) ⟨Nat.le_of_ble_eq_true rfl, Nat.le_of_ble_eq_true rfl⟩) hK hP hD hS hA 0 rfl rfl rfl rfl hl.1 rfl (Nat.le_of_ble_eq_true rfl) dX5_sun_80 ⟨Nat.le_of_ble_eq_true rfl, Nat.le_of_ble_eq_true rfl⟩ (fun r_47 u_48 H locs hw_49 hP hD hS => ?_)
              have hP : va_P (dC, dI) vwCl (wM cI cZ cJ h F_46 G (va_up (va_up V 0 0) 1 0)) H := hP
              have hD : va_D A (wM cI cZ cJ h F_46 G (va_up (va_up V 0 0) 1 0)) := hD
              obtain rfl : r_47 = 1 := hw_49
              exact hret 1 () H locs 83 ls rfl dX5_sun_83 (by first | rfl | (simp [a_sun, c_4, c_11, c_18, c_22, c_36, c_43]; done) | (exfalso; omega)) (hP.sub [] rfl) (hD.sub [] (by decide) rfl) hS
            · have c_43 : isW p3 0 9 = false := bI_f hw_42 c_43
              refine lv_aload_n hx hb dX5_sun_51 rfl (lv_at hl 0 rfl) ?_
              refine lv_iconst (v := 2) hx hb dX5_sun_52 (by decide) ?_
              refine cw_Vi (As := [.int 2]) (rest := []) (c_X5_denied l dC dI cI cZ cJ h F G (va_up V 0 0) 2) fx (cwV 1 hts gX5_sun_X5_denied rfl rfl rfl (by decide +kernel) ⟨Nat.le_of_ble_eq_true rfl, Nat.le_of_ble_eq_true rfl⟩) hK hP hD hS hA 0 rfl rfl rfl rfl hl.1 rfl (Nat.le_of_ble_eq_true rfl) dX5_sun_53 ⟨Nat.le_of_ble_eq_true rfl, Nat.le_of_ble_eq_true rfl⟩ (fun r_50 u_51 H locs hw_52 hP hD hS => ?_)
              have hP : va_P (dC, dI) vwCl (wM cI cZ cJ h F G (va_up (va_up V 0 0) 1 2)) H := hP
              have hD : va_D A (wM cI cZ cJ h F G (va_up (va_up V 0 0) 1 2)) := hD
              obtain rfl : r_50 = 0 := hw_52
              exact hret 0 () H locs 56 ls rfl dX5_sun_56 (by first | rfl | (simp [a_sun, c_4, c_11, c_18, c_22, c_36, c_43]; done) | (exfalso; omega)) (hP.sub [] rfl) (hD.sub [] (by decide) rfl) hS
def rm_X5_limit : Room := { frames := 1, cells := 0, slots := 0, locals := 22 }
set_option maxHeartbeats 4000000 in
set_option maxRecDepth 100000 in
theorem c_X5_limit (l : Launch) (dC : Nat → ClassId) (dI : Nat → Nat → Nat) (cI cZ cJ : ClassId) (h : Nat → Nat) (F : Nat → Nat → Int32) (G : Nat → Int64) (V : Nat → Int32) (p0 p1 : Int32)  : CtI l (dC, dI) vwCl (tys3 cI cZ cJ) yX5_limit wsX5_limit rm_X5_limit [.ref (h 0), .int p0, .int p1] (wM cI cZ cJ h F G V) (S := Unit) (fun r _ => r = a_in2 p0 3 p1 10000) (fun _ => []) 0 0 := by
  refine ct_I (cc := cX5_limit) (maxL := 3) (ty := .boolean) (own := RX5) (by decide) rfl rfl (Nat.le_of_ble_eq_true rfl) (lv := [(0, .ref (h 0)), (1, .int p0), (2, .int p1)]) rfl ?_
  intro p e s m args below meth c A Q ls fx hK hP hD hA hl hret
  obtain ⟨hx, hb, hml, hown, hts⟩ := id fx
  have hS : va_S A s.heap s.heap [] := va_S.rf
  have hw0 := hts (.fieldLink RX5 1 "MirrorTowerModel" "thrown" "I") (by decide +kernel)
  have hin_X5 : ∀ w ∈ u_ws RX5 TX5 33, w ∈ wsX5_limit := by decide +kernel
  have hw2 := hts (.fieldLink RX5 29 "MirrorTowerModel" "limit" "[I") (by decide +kernel)
  obtain ⟨H, hH⟩ : ∃ H, H = s.heap := ⟨_, rfl⟩
  rw [← hH] at hP ⊢
  have hS : va_S A s.heap H [] := by rw [hH]; exact hS
  generalize ([] : List Loc) = locs at hS ⊢
  refine lv_aload_n hx hb dX5_limit_0 rfl (lv_at hl 0 rfl) ?_
  refine lv_iconst (v := 0) hx hb dX5_limit_1 (by decide) ?_
  refine va_put (D := (dC, dI)) (ci := 5) (v := .int 0) (ty := .int) (C := RX5) (T := TX5) (N := 33) hx hb hts hin_X5 tyX5 tyX5_ok nmX5 hown hK hP hD hS 0 rfl rfl 0 (by decide) hw0 (fun _ h9 => h9) rfl (by decide +kernel) rfl rfl (Nat.le_of_ble_eq_true rfl) dX5_limit_2 (fun H locs hP hD hS => ?_)
  have hP : va_P (dC, dI) vwCl (wM cI cZ cJ h F G (va_up V 0 0)) H := hP
  have hD : va_D A (wM cI cZ cJ h F G (va_up V 0 0)) := hD
  refine lv_iload_n hx hb dX5_limit_5 rfl (lv_at hl 1 rfl) ?_
  refine lv_iconst (v := 0) hx hb dX5_limit_6 (by decide) ?_
  refine lv_iconst (v := 3) hx hb dX5_limit_7 (by decide) ?_
  refine cw_Si (As := [.int p0, .int 0, .int 3]) (rest := []) (c_X5_in l dC dI cI cZ cJ (wM cI cZ cJ h F G (va_up V 0 0)) p0 0 3) fx (va_cwS 3 hts gX5_limit_X5_in rfl rfl rfl (by decide +kernel) ⟨Nat.le_of_ble_eq_true rfl, Nat.le_of_ble_eq_true rfl⟩) hK hP hD hS hA rfl hl.1 rfl (Nat.le_of_ble_eq_true rfl) dX5_limit_8 ⟨Nat.le_of_ble_eq_true rfl, Nat.le_of_ble_eq_true rfl⟩ (fun r_1 u_2 H locs hw_3 hP hD hS => ?_)
  have hP : va_P (dC, dI) vwCl (wM cI cZ cJ h F G (va_up V 0 0)) H := hP
  have hD : va_D A (wM cI cZ cJ h F G (va_up V 0 0)) := hD
  have hw_3 : r_1 = bI (isW p0 0 3) := hw_3
  refine lv_if_ne (tgt := 20) hx hb dX5_limit_11 (by decide) (fun c_4 => ?_) (fun c_4 => ?_)
  · have c_4 : isW p0 0 3 = true := bI_t hw_3 c_4
    refine lv_iload_n hx hb dX5_limit_20 rfl (lv_at hl 2 rfl) ?_
    refine lv_iconst (v := 0) hx hb dX5_limit_21 (by decide) ?_
    refine lv_sipush (v := 10000) hx hb dX5_limit_22 (by decide) ?_
    refine cw_Si (As := [.int p1, .int 0, .int 10000]) (rest := []) (c_X5_in l dC dI cI cZ cJ (wM cI cZ cJ h F G (va_up V 0 0)) p1 0 10000) fx (va_cwS 3 hts gX5_limit_X5_in rfl rfl rfl (by decide +kernel) ⟨Nat.le_of_ble_eq_true rfl, Nat.le_of_ble_eq_true rfl⟩) hK hP hD hS hA rfl hl.1 rfl (Nat.le_of_ble_eq_true rfl) dX5_limit_25 ⟨Nat.le_of_ble_eq_true rfl, Nat.le_of_ble_eq_true rfl⟩ (fun r_5 u_6 H locs hw_7 hP hD hS => ?_)
    have hP : va_P (dC, dI) vwCl (wM cI cZ cJ h F G (va_up V 0 0)) H := hP
    have hD : va_D A (wM cI cZ cJ h F G (va_up V 0 0)) := hD
    have hw_7 : r_5 = bI (isW p1 0 10000) := hw_7
    refine lv_if_ne (tgt := 37) hx hb dX5_limit_28 (by decide) (fun c_8 => ?_) (fun c_8 => ?_)
    · have c_8 : isW p1 0 10000 = true := bI_t hw_7 c_8
      refine lv_aload_n hx hb dX5_limit_37 rfl (lv_at hl 0 rfl) ?_
      refine va_get (D := (dC, dI)) (ci := 5) (v := .ref (h 4)) (C := RX5) (T := TX5) (N := 33) hx hb hts hin_X5 hown hK hP 0 rfl rfl 11 (by decide) hw2 (fun _ h9 => h9) rfl dX5_limit_38 ?_
      refine lv_iload_n hx hb dX5_limit_41 rfl (lv_at hl 1 rfl) ?_
      refine lv_iload_n hx hb dX5_limit_42 rfl (lv_at hl 2 rfl) ?_
      obtain ⟨k0, hk0, rfl⟩ := isW_nat (M := 3) (n := 3) (by decide) c_4
      refine va_iast hx hb hK hP hD hS 4 0 rfl rfl (vp_in_nI (n := k0) (N := 4) (by omega) (by decide)) dX5_limit_43 (fun H locs hP hD hS => ?_)
      obtain ⟨F_9, eF_9⟩ : ∃ z : Nat → Nat → Int32, z = va_up F 4 (upd (F 4) (nI k0).toNatClampNeg p1) := ⟨_, rfl⟩
      have hP : va_P (dC, dI) vwCl (wM cI cZ cJ h F_9 G (va_up V 0 0)) H := by rw [eF_9]; exact hP
      have hD : va_D A (wM cI cZ cJ h F_9 G (va_up V 0 0)) := by rw [eF_9]; exact hD
      refine lv_aload_n hx hb dX5_limit_44 rfl (lv_at hl 0 rfl) ?_
      refine cw_Vi (As := []) (rest := []) (c_X5_granted l dC dI cI cZ cJ h F_9 G (va_up V 0 0)) fx (cwV 0 hts gX5_limit_X5_granted rfl rfl rfl (by decide +kernel) ⟨Nat.le_of_ble_eq_true rfl, Nat.le_of_ble_eq_true rfl⟩) hK hP hD hS hA 0 rfl rfl rfl rfl hl.1 rfl (Nat.le_of_ble_eq_true rfl) dX5_limit_45 ⟨Nat.le_of_ble_eq_true rfl, Nat.le_of_ble_eq_true rfl⟩ (fun r_10 u_11 H locs hw_12 hP hD hS => ?_)
      have hP : va_P (dC, dI) vwCl (wM cI cZ cJ h F_9 G (va_up (va_up V 0 0) 1 0)) H := hP
      have hD : va_D A (wM cI cZ cJ h F_9 G (va_up (va_up V 0 0) 1 0)) := hD
      obtain rfl : r_10 = 1 := hw_12
      exact hret 1 () H locs 48 ls rfl dX5_limit_48 (by first | rfl | (simp [a_in2, c_4, c_8]; done) | (exfalso; omega)) (hP.sub [] rfl) (hD.sub [] (by decide) rfl) hS
    · have c_8 : isW p1 0 10000 = false := bI_f hw_7 c_8
      refine lv_aload_n hx hb dX5_limit_31 rfl (lv_at hl 0 rfl) ?_
      refine lv_iconst (v := 2) hx hb dX5_limit_32 (by decide) ?_
      refine cw_Vi (As := [.int 2]) (rest := []) (c_X5_denied l dC dI cI cZ cJ h F G (va_up V 0 0) 2) fx (cwV 1 hts gX5_limit_X5_denied rfl rfl rfl (by decide +kernel) ⟨Nat.le_of_ble_eq_true rfl, Nat.le_of_ble_eq_true rfl⟩) hK hP hD hS hA 0 rfl rfl rfl rfl hl.1 rfl (Nat.le_of_ble_eq_true rfl) dX5_limit_33 ⟨Nat.le_of_ble_eq_true rfl, Nat.le_of_ble_eq_true rfl⟩ (fun r_13 u_14 H locs hw_15 hP hD hS => ?_)
      have hP : va_P (dC, dI) vwCl (wM cI cZ cJ h F G (va_up (va_up V 0 0) 1 2)) H := hP
      have hD : va_D A (wM cI cZ cJ h F G (va_up (va_up V 0 0) 1 2)) := hD
      obtain rfl : r_13 = 0 := hw_15
      exact hret 0 () H locs 36 ls rfl dX5_limit_36 (by first | rfl | (simp [a_in2, c_4, c_8]; done) | (exfalso; omega)) (hP.sub [] rfl) (hD.sub [] (by decide) rfl) hS
  · have c_4 : isW p0 0 3 = false := bI_f hw_3 c_4
    refine lv_aload_n hx hb dX5_limit_14 rfl (lv_at hl 0 rfl) ?_
    refine lv_iconst (v := 1) hx hb dX5_limit_15 (by decide) ?_
    refine cw_Vi (As := [.int 1]) (rest := []) (c_X5_denied l dC dI cI cZ cJ h F G (va_up V 0 0) 1) fx (cwV 1 hts gX5_limit_X5_denied rfl rfl rfl (by decide +kernel) ⟨Nat.le_of_ble_eq_true rfl, Nat.le_of_ble_eq_true rfl⟩) hK hP hD hS hA 0 rfl rfl rfl rfl hl.1 rfl (Nat.le_of_ble_eq_true rfl) dX5_limit_16 ⟨Nat.le_of_ble_eq_true rfl, Nat.le_of_ble_eq_true rfl⟩ (fun r_16 u_17 H locs hw_18 hP hD hS => ?_)
    have hP : va_P (dC, dI) vwCl (wM cI cZ cJ h F G (va_up (va_up V 0 0) 1 1)) H := hP
    have hD : va_D A (wM cI cZ cJ h F G (va_up (va_up V 0 0) 1 1)) := hD
    obtain rfl : r_16 = 0 := hw_18
    exact hret 0 () H locs 19 ls rfl dX5_limit_19 (by first | rfl | (simp [a_in2, c_4]; done) | (exfalso; omega)) (hP.sub [] rfl) (hD.sub [] (by decide) rfl) hS
def rm_X5_wind : Room := { frames := 1, cells := 0, slots := 0, locals := 22 }
set_option maxHeartbeats 4000000 in
set_option maxRecDepth 100000 in
theorem c_X5_wind (l : Launch) (dC : Nat → ClassId) (dI : Nat → Nat → Nat) (cI cZ cJ : ClassId) (h : Nat → Nat) (F : Nat → Nat → Int32) (G : Nat → Int64) (V : Nat → Int32) (p0 p1 : Int32)  : CtI l (dC, dI) vwCl (tys3 cI cZ cJ) yX5_wind wsX5_wind rm_X5_wind [.ref (h 0), .int p0, .int p1] (wM cI cZ cJ h F G V) (S := Unit) (fun r _ => r = a_in2 p0 23 p1 99) (fun _ => []) 0 0 := by
  refine ct_I (cc := cX5_wind) (maxL := 3) (ty := .boolean) (own := RX5) (by decide) rfl rfl (Nat.le_of_ble_eq_true rfl) (lv := [(0, .ref (h 0)), (1, .int p0), (2, .int p1)]) rfl ?_
  intro p e s m args below meth c A Q ls fx hK hP hD hA hl hret
  obtain ⟨hx, hb, hml, hown, hts⟩ := id fx
  have hS : va_S A s.heap s.heap [] := va_S.rf
  have hw0 := hts (.fieldLink RX5 1 "MirrorTowerModel" "thrown" "I") (by decide +kernel)
  have hin_X5 : ∀ w ∈ u_ws RX5 TX5 33, w ∈ wsX5_wind := by decide +kernel
  have hw2 := hts (.fieldLink RX5 41 "MirrorTowerModel" "wind" "[I") (by decide +kernel)
  obtain ⟨H, hH⟩ : ∃ H, H = s.heap := ⟨_, rfl⟩
  rw [← hH] at hP ⊢
  have hS : va_S A s.heap H [] := by rw [hH]; exact hS
  generalize ([] : List Loc) = locs at hS ⊢
  refine lv_aload_n hx hb dX5_wind_0 rfl (lv_at hl 0 rfl) ?_
  refine lv_iconst (v := 0) hx hb dX5_wind_1 (by decide) ?_
  refine va_put (D := (dC, dI)) (ci := 5) (v := .int 0) (ty := .int) (C := RX5) (T := TX5) (N := 33) hx hb hts hin_X5 tyX5 tyX5_ok nmX5 hown hK hP hD hS 0 rfl rfl 0 (by decide) hw0 (fun _ h9 => h9) rfl (by decide +kernel) rfl rfl (Nat.le_of_ble_eq_true rfl) dX5_wind_2 (fun H locs hP hD hS => ?_)
  have hP : va_P (dC, dI) vwCl (wM cI cZ cJ h F G (va_up V 0 0)) H := hP
  have hD : va_D A (wM cI cZ cJ h F G (va_up V 0 0)) := hD
  refine lv_iload_n hx hb dX5_wind_5 rfl (lv_at hl 1 rfl) ?_
  refine cw_Si (As := [.int p0]) (rest := []) (c_X5_isHour l dC dI cI cZ cJ (wM cI cZ cJ h F G (va_up V 0 0)) p0) fx (va_cwS 1 hts gX5_wind_X5_isHour rfl rfl rfl (by decide +kernel) ⟨Nat.le_of_ble_eq_true rfl, Nat.le_of_ble_eq_true rfl⟩) hK hP hD hS hA rfl hl.1 rfl (Nat.le_of_ble_eq_true rfl) dX5_wind_6 ⟨Nat.le_of_ble_eq_true rfl, Nat.le_of_ble_eq_true rfl⟩ (fun r_1 u_2 H locs hw_3 hP hD hS => ?_)
  have hP : va_P (dC, dI) vwCl (wM cI cZ cJ h F G (va_up V 0 0)) H := hP
  have hD : va_D A (wM cI cZ cJ h F G (va_up V 0 0)) := hD
  have hw_3 : r_1 = bI (isW p0 0 23) := hw_3
  refine lv_if_eq (tgt := 22) hx hb dX5_wind_9 (by decide) (fun c_4 => ?_) (fun c_4 => ?_)
  · have c_4 : isW p0 0 23 = false := bI_f hw_3 c_4
    refine lv_aload_n hx hb dX5_wind_22 rfl (lv_at hl 0 rfl) ?_
    refine lv_iconst (v := 2) hx hb dX5_wind_23 (by decide) ?_
    refine cw_Vi (As := [.int 2]) (rest := []) (c_X5_denied l dC dI cI cZ cJ h F G (va_up V 0 0) 2) fx (cwV 1 hts gX5_wind_X5_denied rfl rfl rfl (by decide +kernel) ⟨Nat.le_of_ble_eq_true rfl, Nat.le_of_ble_eq_true rfl⟩) hK hP hD hS hA 0 rfl rfl rfl rfl hl.1 rfl (Nat.le_of_ble_eq_true rfl) dX5_wind_24 ⟨Nat.le_of_ble_eq_true rfl, Nat.le_of_ble_eq_true rfl⟩ (fun r_5 u_6 H locs hw_7 hP hD hS => ?_)
    have hP : va_P (dC, dI) vwCl (wM cI cZ cJ h F G (va_up (va_up V 0 0) 1 2)) H := hP
    have hD : va_D A (wM cI cZ cJ h F G (va_up (va_up V 0 0) 1 2)) := hD
    obtain rfl : r_5 = 0 := hw_7
    exact hret 0 () H locs 27 ls rfl dX5_wind_27 (by first | rfl | (simp [a_in2, c_4]; done) | (exfalso; omega)) (hP.sub [] rfl) (hD.sub [] (by decide) rfl) hS
  · have c_4 : isW p0 0 23 = true := bI_t hw_3 c_4
    refine lv_iload_n hx hb dX5_wind_12 rfl (lv_at hl 2 rfl) ?_
    refine lv_iconst (v := 0) hx hb dX5_wind_13 (by decide) ?_
    refine lv_bipush (v := 99) hx hb dX5_wind_14 (by decide) ?_
    refine cw_Si (As := [.int p1, .int 0, .int 99]) (rest := []) (c_X5_in l dC dI cI cZ cJ (wM cI cZ cJ h F G (va_up V 0 0)) p1 0 99) fx (va_cwS 3 hts gX5_wind_X5_in rfl rfl rfl (by decide +kernel) ⟨Nat.le_of_ble_eq_true rfl, Nat.le_of_ble_eq_true rfl⟩) hK hP hD hS hA rfl hl.1 rfl (Nat.le_of_ble_eq_true rfl) dX5_wind_16 ⟨Nat.le_of_ble_eq_true rfl, Nat.le_of_ble_eq_true rfl⟩ (fun r_8 u_9 H locs hw_10 hP hD hS => ?_)
    have hP : va_P (dC, dI) vwCl (wM cI cZ cJ h F G (va_up V 0 0)) H := hP
    have hD : va_D A (wM cI cZ cJ h F G (va_up V 0 0)) := hD
    have hw_10 : r_8 = bI (isW p1 0 99) := hw_10
    refine lv_if_ne (tgt := 28) hx hb dX5_wind_19 (by decide) (fun c_11 => ?_) (fun c_11 => ?_)
    · have c_11 : isW p1 0 99 = true := bI_t hw_10 c_11
      refine lv_aload_n hx hb dX5_wind_28 rfl (lv_at hl 0 rfl) ?_
      refine va_get (D := (dC, dI)) (ci := 5) (v := .ref (h 8)) (C := RX5) (T := TX5) (N := 33) hx hb hts hin_X5 hown hK hP 0 rfl rfl 15 (by decide) hw2 (fun _ h9 => h9) rfl dX5_wind_29 ?_
      refine lv_iload_n hx hb dX5_wind_32 rfl (lv_at hl 1 rfl) ?_
      refine lv_iload_n hx hb dX5_wind_33 rfl (lv_at hl 2 rfl) ?_
      obtain ⟨k0, hk0, rfl⟩ := isW_nat (M := 23) (n := 23) (by decide) c_4
      refine va_iast hx hb hK hP hD hS 8 0 rfl rfl (vp_in_nI (n := k0) (N := 24) (by omega) (by decide)) dX5_wind_34 (fun H locs hP hD hS => ?_)
      obtain ⟨F_12, eF_12⟩ : ∃ z : Nat → Nat → Int32, z = va_up F 8 (upd (F 8) (nI k0).toNatClampNeg p1) := ⟨_, rfl⟩
      have hP : va_P (dC, dI) vwCl (wM cI cZ cJ h F_12 G (va_up V 0 0)) H := by rw [eF_12]; exact hP
      have hD : va_D A (wM cI cZ cJ h F_12 G (va_up V 0 0)) := by rw [eF_12]; exact hD
      refine lv_aload_n hx hb dX5_wind_35 rfl (lv_at hl 0 rfl) ?_
      refine cw_Vi (As := []) (rest := []) (c_X5_granted l dC dI cI cZ cJ h F_12 G (va_up V 0 0)) fx (cwV 0 hts gX5_wind_X5_granted rfl rfl rfl (by decide +kernel) ⟨Nat.le_of_ble_eq_true rfl, Nat.le_of_ble_eq_true rfl⟩) hK hP hD hS hA 0 rfl rfl rfl rfl hl.1 rfl (Nat.le_of_ble_eq_true rfl) dX5_wind_36 ⟨Nat.le_of_ble_eq_true rfl, Nat.le_of_ble_eq_true rfl⟩ (fun r_13 u_14 H locs hw_15 hP hD hS => ?_)
      have hP : va_P (dC, dI) vwCl (wM cI cZ cJ h F_12 G (va_up (va_up V 0 0) 1 0)) H := hP
      have hD : va_D A (wM cI cZ cJ h F_12 G (va_up (va_up V 0 0) 1 0)) := hD
      obtain rfl : r_13 = 1 := hw_15
      exact hret 1 () H locs 39 ls rfl dX5_wind_39 (by first | rfl | (simp [a_in2, c_4, c_11]; done) | (exfalso; omega)) (hP.sub [] rfl) (hD.sub [] (by decide) rfl) hS
    · have c_11 : isW p1 0 99 = false := bI_f hw_10 c_11
      refine lv_aload_n hx hb dX5_wind_22 rfl (lv_at hl 0 rfl) ?_
      refine lv_iconst (v := 2) hx hb dX5_wind_23 (by decide) ?_
      refine cw_Vi (As := [.int 2]) (rest := []) (c_X5_denied l dC dI cI cZ cJ h F G (va_up V 0 0) 2) fx (cwV 1 hts gX5_wind_X5_denied rfl rfl rfl (by decide +kernel) ⟨Nat.le_of_ble_eq_true rfl, Nat.le_of_ble_eq_true rfl⟩) hK hP hD hS hA 0 rfl rfl rfl rfl hl.1 rfl (Nat.le_of_ble_eq_true rfl) dX5_wind_24 ⟨Nat.le_of_ble_eq_true rfl, Nat.le_of_ble_eq_true rfl⟩ (fun r_16 u_17 H locs hw_18 hP hD hS => ?_)
      have hP : va_P (dC, dI) vwCl (wM cI cZ cJ h F G (va_up (va_up V 0 0) 1 2)) H := hP
      have hD : va_D A (wM cI cZ cJ h F G (va_up (va_up V 0 0) 1 2)) := hD
      obtain rfl : r_16 = 0 := hw_18
      exact hret 0 () H locs 27 ls rfl dX5_wind_27 (by first | rfl | (simp [a_in2, c_4, c_11]; done) | (exfalso; omega)) (hP.sub [] rfl) (hD.sub [] (by decide) rfl) hS
def rm_X5_price : Room := { frames := 1, cells := 0, slots := 0, locals := 22 }
set_option maxHeartbeats 4000000 in
set_option maxRecDepth 100000 in
theorem c_X5_price (l : Launch) (dC : Nat → ClassId) (dI : Nat → Nat → Nat) (cI cZ cJ : ClassId) (h : Nat → Nat) (F : Nat → Nat → Int32) (G : Nat → Int64) (V : Nat → Int32) (p0 p1 : Int32)  : CtI l (dC, dI) vwCl (tys3 cI cZ cJ) yX5_price wsX5_price rm_X5_price [.ref (h 0), .int p0, .int p1] (wM cI cZ cJ h F G V) (S := Unit) (fun r _ => r = a_in2 p0 23 p1 999) (fun _ => []) 0 0 := by
  refine ct_I (cc := cX5_price) (maxL := 3) (ty := .boolean) (own := RX5) (by decide) rfl rfl (Nat.le_of_ble_eq_true rfl) (lv := [(0, .ref (h 0)), (1, .int p0), (2, .int p1)]) rfl ?_
  intro p e s m args below meth c A Q ls fx hK hP hD hA hl hret
  obtain ⟨hx, hb, hml, hown, hts⟩ := id fx
  have hS : va_S A s.heap s.heap [] := va_S.rf
  have hw0 := hts (.fieldLink RX5 1 "MirrorTowerModel" "thrown" "I") (by decide +kernel)
  have hin_X5 : ∀ w ∈ u_ws RX5 TX5 33, w ∈ wsX5_price := by decide +kernel
  have hw2 := hts (.fieldLink RX5 44 "MirrorTowerModel" "price" "[I") (by decide +kernel)
  obtain ⟨H, hH⟩ : ∃ H, H = s.heap := ⟨_, rfl⟩
  rw [← hH] at hP ⊢
  have hS : va_S A s.heap H [] := by rw [hH]; exact hS
  generalize ([] : List Loc) = locs at hS ⊢
  refine lv_aload_n hx hb dX5_price_0 rfl (lv_at hl 0 rfl) ?_
  refine lv_iconst (v := 0) hx hb dX5_price_1 (by decide) ?_
  refine va_put (D := (dC, dI)) (ci := 5) (v := .int 0) (ty := .int) (C := RX5) (T := TX5) (N := 33) hx hb hts hin_X5 tyX5 tyX5_ok nmX5 hown hK hP hD hS 0 rfl rfl 0 (by decide) hw0 (fun _ h9 => h9) rfl (by decide +kernel) rfl rfl (Nat.le_of_ble_eq_true rfl) dX5_price_2 (fun H locs hP hD hS => ?_)
  have hP : va_P (dC, dI) vwCl (wM cI cZ cJ h F G (va_up V 0 0)) H := hP
  have hD : va_D A (wM cI cZ cJ h F G (va_up V 0 0)) := hD
  refine lv_iload_n hx hb dX5_price_5 rfl (lv_at hl 1 rfl) ?_
  refine cw_Si (As := [.int p0]) (rest := []) (c_X5_isHour l dC dI cI cZ cJ (wM cI cZ cJ h F G (va_up V 0 0)) p0) fx (va_cwS 1 hts gX5_price_X5_isHour rfl rfl rfl (by decide +kernel) ⟨Nat.le_of_ble_eq_true rfl, Nat.le_of_ble_eq_true rfl⟩) hK hP hD hS hA rfl hl.1 rfl (Nat.le_of_ble_eq_true rfl) dX5_price_6 ⟨Nat.le_of_ble_eq_true rfl, Nat.le_of_ble_eq_true rfl⟩ (fun r_1 u_2 H locs hw_3 hP hD hS => ?_)
  have hP : va_P (dC, dI) vwCl (wM cI cZ cJ h F G (va_up V 0 0)) H := hP
  have hD : va_D A (wM cI cZ cJ h F G (va_up V 0 0)) := hD
  have hw_3 : r_1 = bI (isW p0 0 23) := hw_3
  refine lv_if_eq (tgt := 23) hx hb dX5_price_9 (by decide) (fun c_4 => ?_) (fun c_4 => ?_)
  · have c_4 : isW p0 0 23 = false := bI_f hw_3 c_4
    refine lv_aload_n hx hb dX5_price_23 rfl (lv_at hl 0 rfl) ?_
    refine lv_iconst (v := 2) hx hb dX5_price_24 (by decide) ?_
    refine cw_Vi (As := [.int 2]) (rest := []) (c_X5_denied l dC dI cI cZ cJ h F G (va_up V 0 0) 2) fx (cwV 1 hts gX5_price_X5_denied rfl rfl rfl (by decide +kernel) ⟨Nat.le_of_ble_eq_true rfl, Nat.le_of_ble_eq_true rfl⟩) hK hP hD hS hA 0 rfl rfl rfl rfl hl.1 rfl (Nat.le_of_ble_eq_true rfl) dX5_price_25 ⟨Nat.le_of_ble_eq_true rfl, Nat.le_of_ble_eq_true rfl⟩ (fun r_5 u_6 H locs hw_7 hP hD hS => ?_)
    have hP : va_P (dC, dI) vwCl (wM cI cZ cJ h F G (va_up (va_up V 0 0) 1 2)) H := hP
    have hD : va_D A (wM cI cZ cJ h F G (va_up (va_up V 0 0) 1 2)) := hD
    obtain rfl : r_5 = 0 := hw_7
    exact hret 0 () H locs 28 ls rfl dX5_price_28 (by first | rfl | (simp [a_in2, c_4]; done) | (exfalso; omega)) (hP.sub [] rfl) (hD.sub [] (by decide) rfl) hS
  · have c_4 : isW p0 0 23 = true := bI_t hw_3 c_4
    refine lv_iload_n hx hb dX5_price_12 rfl (lv_at hl 2 rfl) ?_
    refine lv_iconst (v := 0) hx hb dX5_price_13 (by decide) ?_
    refine lv_sipush (v := 999) hx hb dX5_price_14 (by decide) ?_
    refine cw_Si (As := [.int p1, .int 0, .int 999]) (rest := []) (c_X5_in l dC dI cI cZ cJ (wM cI cZ cJ h F G (va_up V 0 0)) p1 0 999) fx (va_cwS 3 hts gX5_price_X5_in rfl rfl rfl (by decide +kernel) ⟨Nat.le_of_ble_eq_true rfl, Nat.le_of_ble_eq_true rfl⟩) hK hP hD hS hA rfl hl.1 rfl (Nat.le_of_ble_eq_true rfl) dX5_price_17 ⟨Nat.le_of_ble_eq_true rfl, Nat.le_of_ble_eq_true rfl⟩ (fun r_8 u_9 H locs hw_10 hP hD hS => ?_)
    have hP : va_P (dC, dI) vwCl (wM cI cZ cJ h F G (va_up V 0 0)) H := hP
    have hD : va_D A (wM cI cZ cJ h F G (va_up V 0 0)) := hD
    have hw_10 : r_8 = bI (isW p1 0 999) := hw_10
    refine lv_if_ne (tgt := 29) hx hb dX5_price_20 (by decide) (fun c_11 => ?_) (fun c_11 => ?_)
    · have c_11 : isW p1 0 999 = true := bI_t hw_10 c_11
      refine lv_aload_n hx hb dX5_price_29 rfl (lv_at hl 0 rfl) ?_
      refine va_get (D := (dC, dI)) (ci := 5) (v := .ref (h 9)) (C := RX5) (T := TX5) (N := 33) hx hb hts hin_X5 hown hK hP 0 rfl rfl 16 (by decide) hw2 (fun _ h9 => h9) rfl dX5_price_30 ?_
      refine lv_iload_n hx hb dX5_price_33 rfl (lv_at hl 1 rfl) ?_
      refine lv_iload_n hx hb dX5_price_34 rfl (lv_at hl 2 rfl) ?_
      obtain ⟨k0, hk0, rfl⟩ := isW_nat (M := 23) (n := 23) (by decide) c_4
      refine va_iast hx hb hK hP hD hS 9 0 rfl rfl (vp_in_nI (n := k0) (N := 24) (by omega) (by decide)) dX5_price_35 (fun H locs hP hD hS => ?_)
      obtain ⟨F_12, eF_12⟩ : ∃ z : Nat → Nat → Int32, z = va_up F 9 (upd (F 9) (nI k0).toNatClampNeg p1) := ⟨_, rfl⟩
      have hP : va_P (dC, dI) vwCl (wM cI cZ cJ h F_12 G (va_up V 0 0)) H := by rw [eF_12]; exact hP
      have hD : va_D A (wM cI cZ cJ h F_12 G (va_up V 0 0)) := by rw [eF_12]; exact hD
      refine lv_aload_n hx hb dX5_price_36 rfl (lv_at hl 0 rfl) ?_
      refine cw_Vi (As := []) (rest := []) (c_X5_granted l dC dI cI cZ cJ h F_12 G (va_up V 0 0)) fx (cwV 0 hts gX5_price_X5_granted rfl rfl rfl (by decide +kernel) ⟨Nat.le_of_ble_eq_true rfl, Nat.le_of_ble_eq_true rfl⟩) hK hP hD hS hA 0 rfl rfl rfl rfl hl.1 rfl (Nat.le_of_ble_eq_true rfl) dX5_price_37 ⟨Nat.le_of_ble_eq_true rfl, Nat.le_of_ble_eq_true rfl⟩ (fun r_13 u_14 H locs hw_15 hP hD hS => ?_)
      have hP : va_P (dC, dI) vwCl (wM cI cZ cJ h F_12 G (va_up (va_up V 0 0) 1 0)) H := hP
      have hD : va_D A (wM cI cZ cJ h F_12 G (va_up (va_up V 0 0) 1 0)) := hD
      obtain rfl : r_13 = 1 := hw_15
      exact hret 1 () H locs 40 ls rfl dX5_price_40 (by first | rfl | (simp [a_in2, c_4, c_11]; done) | (exfalso; omega)) (hP.sub [] rfl) (hD.sub [] (by decide) rfl) hS
    · have c_11 : isW p1 0 999 = false := bI_f hw_10 c_11
      refine lv_aload_n hx hb dX5_price_23 rfl (lv_at hl 0 rfl) ?_
      refine lv_iconst (v := 2) hx hb dX5_price_24 (by decide) ?_
      refine cw_Vi (As := [.int 2]) (rest := []) (c_X5_denied l dC dI cI cZ cJ h F G (va_up V 0 0) 2) fx (cwV 1 hts gX5_price_X5_denied rfl rfl rfl (by decide +kernel) ⟨Nat.le_of_ble_eq_true rfl, Nat.le_of_ble_eq_true rfl⟩) hK hP hD hS hA 0 rfl rfl rfl rfl hl.1 rfl (Nat.le_of_ble_eq_true rfl) dX5_price_25 ⟨Nat.le_of_ble_eq_true rfl, Nat.le_of_ble_eq_true rfl⟩ (fun r_16 u_17 H locs hw_18 hP hD hS => ?_)
      have hP : va_P (dC, dI) vwCl (wM cI cZ cJ h F G (va_up (va_up V 0 0) 1 2)) H := hP
      have hD : va_D A (wM cI cZ cJ h F G (va_up (va_up V 0 0) 1 2)) := hD
      obtain rfl : r_16 = 0 := hw_18
      exact hret 0 () H locs 28 ls rfl dX5_price_28 (by first | rfl | (simp [a_in2, c_4, c_11]; done) | (exfalso; omega)) (hP.sub [] rfl) (hD.sub [] (by decide) rfl) hS
def rm_X5_dust : Room := { frames := 1, cells := 0, slots := 0, locals := 22 }
set_option maxHeartbeats 4000000 in
set_option maxRecDepth 100000 in
theorem c_X5_dust (l : Launch) (dC : Nat → ClassId) (dI : Nat → Nat → Nat) (cI cZ cJ : ClassId) (h : Nat → Nat) (F : Nat → Nat → Int32) (G : Nat → Int64) (V : Nat → Int32) (p0 : Int32)  : CtI l (dC, dI) vwCl (tys3 cI cZ cJ) yX5_dust wsX5_dust rm_X5_dust [.ref (h 0), .int p0] (wM cI cZ cJ h F G V) (S := Unit) (fun r _ => r = if isW p0 0 20 then 1 else 0) (fun _ => []) 0 0 := by
  refine ct_I (cc := cX5_dust) (maxL := 2) (ty := .boolean) (own := RX5) (by decide) rfl rfl (Nat.le_of_ble_eq_true rfl) (lv := [(0, .ref (h 0)), (1, .int p0)]) rfl ?_
  intro p e s m args below meth c A Q ls fx hK hP hD hA hl hret
  obtain ⟨hx, hb, hml, hown, hts⟩ := id fx
  have hS : va_S A s.heap s.heap [] := va_S.rf
  have hw0 := hts (.fieldLink RX5 1 "MirrorTowerModel" "thrown" "I") (by decide +kernel)
  have hin_X5 : ∀ w ∈ u_ws RX5 TX5 33, w ∈ wsX5_dust := by decide +kernel
  have hw2 := hts (.fieldLink RX5 16 "MirrorTowerModel" "dust" "I") (by decide +kernel)
  obtain ⟨H, hH⟩ : ∃ H, H = s.heap := ⟨_, rfl⟩
  rw [← hH] at hP ⊢
  have hS : va_S A s.heap H [] := by rw [hH]; exact hS
  generalize ([] : List Loc) = locs at hS ⊢
  refine lv_aload_n hx hb dX5_dust_0 rfl (lv_at hl 0 rfl) ?_
  refine lv_iconst (v := 0) hx hb dX5_dust_1 (by decide) ?_
  refine va_put (D := (dC, dI)) (ci := 5) (v := .int 0) (ty := .int) (C := RX5) (T := TX5) (N := 33) hx hb hts hin_X5 tyX5 tyX5_ok nmX5 hown hK hP hD hS 0 rfl rfl 0 (by decide) hw0 (fun _ h9 => h9) rfl (by decide +kernel) rfl rfl (Nat.le_of_ble_eq_true rfl) dX5_dust_2 (fun H locs hP hD hS => ?_)
  have hP : va_P (dC, dI) vwCl (wM cI cZ cJ h F G (va_up V 0 0)) H := hP
  have hD : va_D A (wM cI cZ cJ h F G (va_up V 0 0)) := hD
  refine lv_iload_n hx hb dX5_dust_5 rfl (lv_at hl 1 rfl) ?_
  refine lv_iconst (v := 0) hx hb dX5_dust_6 (by decide) ?_
  refine lv_bipush (v := 20) hx hb dX5_dust_7 (by decide) ?_
  refine cw_Si (As := [.int p0, .int 0, .int 20]) (rest := []) (c_X5_in l dC dI cI cZ cJ (wM cI cZ cJ h F G (va_up V 0 0)) p0 0 20) fx (va_cwS 3 hts gX5_dust_X5_in rfl rfl rfl (by decide +kernel) ⟨Nat.le_of_ble_eq_true rfl, Nat.le_of_ble_eq_true rfl⟩) hK hP hD hS hA rfl hl.1 rfl (Nat.le_of_ble_eq_true rfl) dX5_dust_9 ⟨Nat.le_of_ble_eq_true rfl, Nat.le_of_ble_eq_true rfl⟩ (fun r_1 u_2 H locs hw_3 hP hD hS => ?_)
  have hP : va_P (dC, dI) vwCl (wM cI cZ cJ h F G (va_up V 0 0)) H := hP
  have hD : va_D A (wM cI cZ cJ h F G (va_up V 0 0)) := hD
  have hw_3 : r_1 = bI (isW p0 0 20) := hw_3
  refine lv_if_ne (tgt := 21) hx hb dX5_dust_12 (by decide) (fun c_4 => ?_) (fun c_4 => ?_)
  · have c_4 : isW p0 0 20 = true := bI_t hw_3 c_4
    refine lv_aload_n hx hb dX5_dust_21 rfl (lv_at hl 0 rfl) ?_
    refine lv_iload_n hx hb dX5_dust_22 rfl (lv_at hl 1 rfl) ?_
    refine va_put (D := (dC, dI)) (ci := 5) (v := .int p0) (ty := .int) (C := RX5) (T := TX5) (N := 33) hx hb hts hin_X5 tyX5 tyX5_ok nmX5 hown hK hP hD hS 0 rfl rfl 6 (by decide) hw2 (fun _ h9 => h9) rfl (by decide +kernel) rfl rfl (Nat.le_of_ble_eq_true rfl) dX5_dust_23 (fun H locs hP hD hS => ?_)
    have hP : va_P (dC, dI) vwCl (wM cI cZ cJ h F G (va_up (va_up V 0 0) 6 p0)) H := hP
    have hD : va_D A (wM cI cZ cJ h F G (va_up (va_up V 0 0) 6 p0)) := hD
    refine lv_aload_n hx hb dX5_dust_26 rfl (lv_at hl 0 rfl) ?_
    refine cw_Vi (As := []) (rest := []) (c_X5_granted l dC dI cI cZ cJ h F G (va_up (va_up V 0 0) 6 p0)) fx (cwV 0 hts gX5_dust_X5_granted rfl rfl rfl (by decide +kernel) ⟨Nat.le_of_ble_eq_true rfl, Nat.le_of_ble_eq_true rfl⟩) hK hP hD hS hA 0 rfl rfl rfl rfl hl.1 rfl (Nat.le_of_ble_eq_true rfl) dX5_dust_27 ⟨Nat.le_of_ble_eq_true rfl, Nat.le_of_ble_eq_true rfl⟩ (fun r_5 u_6 H locs hw_7 hP hD hS => ?_)
    have hP : va_P (dC, dI) vwCl (wM cI cZ cJ h F G (va_up (va_up (va_up V 0 0) 6 p0) 1 0)) H := hP
    have hD : va_D A (wM cI cZ cJ h F G (va_up (va_up (va_up V 0 0) 6 p0) 1 0)) := hD
    obtain rfl : r_5 = 1 := hw_7
    exact hret 1 () H locs 30 ls rfl dX5_dust_30 (by first | rfl | (simp [c_4]; done) | (exfalso; omega)) (hP.sub [] rfl) (hD.sub [] (by decide) rfl) hS
  · have c_4 : isW p0 0 20 = false := bI_f hw_3 c_4
    refine lv_aload_n hx hb dX5_dust_15 rfl (lv_at hl 0 rfl) ?_
    refine lv_iconst (v := 2) hx hb dX5_dust_16 (by decide) ?_
    refine cw_Vi (As := [.int 2]) (rest := []) (c_X5_denied l dC dI cI cZ cJ h F G (va_up V 0 0) 2) fx (cwV 1 hts gX5_dust_X5_denied rfl rfl rfl (by decide +kernel) ⟨Nat.le_of_ble_eq_true rfl, Nat.le_of_ble_eq_true rfl⟩) hK hP hD hS hA 0 rfl rfl rfl rfl hl.1 rfl (Nat.le_of_ble_eq_true rfl) dX5_dust_17 ⟨Nat.le_of_ble_eq_true rfl, Nat.le_of_ble_eq_true rfl⟩ (fun r_8 u_9 H locs hw_10 hP hD hS => ?_)
    have hP : va_P (dC, dI) vwCl (wM cI cZ cJ h F G (va_up (va_up V 0 0) 1 2)) H := hP
    have hD : va_D A (wM cI cZ cJ h F G (va_up (va_up V 0 0) 1 2)) := hD
    obtain rfl : r_8 = 0 := hw_10
    exact hret 0 () H locs 20 ls rfl dX5_dust_20 (by first | rfl | (simp [c_4]; done) | (exfalso; omega)) (hP.sub [] rfl) (hD.sub [] (by decide) rfl) hS
def rm_X5_shaded : Room := { frames := 1, cells := 0, slots := 0, locals := 21 }
set_option maxHeartbeats 4000000 in
set_option maxRecDepth 100000 in
theorem c_X5_shaded (l : Launch) (dC : Nat → ClassId) (dI : Nat → Nat → Nat) (cI cZ cJ : ClassId) (h : Nat → Nat) (F : Nat → Nat → Int32) (G : Nat → Int64) (V : Nat → Int32) (p0 p1 p2 : Int32) (hV2 : V 2 = 0) : CtI l (dC, dI) vwCl (tys3 cI cZ cJ) yX5_shaded wsX5_shaded rm_X5_shaded [.ref (h 0), .int p0, .int p1, .int p2] (wM cI cZ cJ h F G V) (S := Unit) (fun r _ => r = (-1)) (fun _ => []) 0 0 := by
  refine ct_I (cc := cX5_shaded) (maxL := 4) (ty := .int) (own := RX5) (by decide) rfl rfl (Nat.le_of_ble_eq_true rfl) (lv := [(0, .ref (h 0)), (1, .int p0), (2, .int p1), (3, .int p2)]) rfl ?_
  intro p e s m args below meth c A Q ls fx hK hP hD hA hl hret
  obtain ⟨hx, hb, hml, hown, hts⟩ := id fx
  have hS : va_S A s.heap s.heap [] := va_S.rf
  have hw0 := hts (.fieldLink RX5 1 "MirrorTowerModel" "thrown" "I") (by decide +kernel)
  have hin_X5 : ∀ w ∈ u_ws RX5 TX5 33, w ∈ wsX5_shaded := by decide +kernel
  obtain ⟨H, hH⟩ : ∃ H, H = s.heap := ⟨_, rfl⟩
  rw [← hH] at hP ⊢
  have hS : va_S A s.heap H [] := by rw [hH]; exact hS
  generalize ([] : List Loc) = locs at hS ⊢
  refine lv_aload_n hx hb dX5_shaded_0 rfl (lv_at hl 0 rfl) ?_
  refine lv_iconst (v := 0) hx hb dX5_shaded_1 (by decide) ?_
  refine va_put (D := (dC, dI)) (ci := 5) (v := .int 0) (ty := .int) (C := RX5) (T := TX5) (N := 33) hx hb hts hin_X5 tyX5 tyX5_ok nmX5 hown hK hP hD hS 0 rfl rfl 0 (by decide) hw0 (fun _ h9 => h9) rfl (by decide +kernel) rfl rfl (Nat.le_of_ble_eq_true rfl) dX5_shaded_2 (fun H locs hP hD hS => ?_)
  have hP : va_P (dC, dI) vwCl (wM cI cZ cJ h F G (va_up V 0 0)) H := hP
  have hD : va_D A (wM cI cZ cJ h F G (va_up V 0 0)) := hD
  refine lv_aload_n hx hb dX5_shaded_5 rfl (lv_at hl 0 rfl) ?_
  refine lv_iload_n hx hb dX5_shaded_6 rfl (lv_at hl 1 rfl) ?_
  refine cw_Vi (As := [.int p0]) (rest := []) (c_X5_isMirror l dC dI cI cZ cJ h F G (va_up V 0 0) p0 hV2) fx (cwV 1 hts gX5_shaded_X5_isMirror rfl rfl rfl (by decide +kernel) ⟨Nat.le_of_ble_eq_true rfl, Nat.le_of_ble_eq_true rfl⟩) hK hP hD hS hA 0 rfl rfl rfl rfl hl.1 rfl (Nat.le_of_ble_eq_true rfl) dX5_shaded_7 ⟨Nat.le_of_ble_eq_true rfl, Nat.le_of_ble_eq_true rfl⟩ (fun r_1 u_2 H locs hw_3 hP hD hS => ?_)
  have hP : va_P (dC, dI) vwCl (wM cI cZ cJ h F G (va_up V 0 0)) H := hP
  have hD : va_D A (wM cI cZ cJ h F G (va_up V 0 0)) := hD
  obtain rfl : r_1 = 0 := hw_3
  refine lv_if_eq (tgt := 41) hx hb dX5_shaded_10 (by decide) (fun c_4 => ?_) (fun c_4 => ?_)
  · refine lv_iconst (v := (-1)) hx hb dX5_shaded_41 (by decide) ?_
    exact hret (-1) () H locs 42 ls rfl dX5_shaded_42 (by first | rfl | (simp []; done) | (exfalso; omega)) (hP.sub [] rfl) (hD.sub [] (by decide) rfl) hS
  · exact absurd c_4 (by decide)
def rm_X5_power : Room := { frames := 1, cells := 0, slots := 0, locals := 21 }
set_option maxHeartbeats 4000000 in
set_option maxRecDepth 100000 in
theorem c_X5_power (l : Launch) (dC : Nat → ClassId) (dI : Nat → Nat → Nat) (cI cZ cJ : ClassId) (h : Nat → Nat) (F : Nat → Nat → Int32) (G : Nat → Int64) (V : Nat → Int32) (p0 p1 : Int32) (hV2 : V 2 = 0) : CtI l (dC, dI) vwCl (tys3 cI cZ cJ) yX5_power wsX5_power rm_X5_power [.ref (h 0), .int p0, .int p1] (wM cI cZ cJ h F G V) (S := Unit) (fun r _ => r = (-1)) (fun _ => []) 0 0 := by
  refine ct_I (cc := cX5_power) (maxL := 3) (ty := .int) (own := RX5) (by decide) rfl rfl (Nat.le_of_ble_eq_true rfl) (lv := [(0, .ref (h 0)), (1, .int p0), (2, .int p1)]) rfl ?_
  intro p e s m args below meth c A Q ls fx hK hP hD hA hl hret
  obtain ⟨hx, hb, hml, hown, hts⟩ := id fx
  have hS : va_S A s.heap s.heap [] := va_S.rf
  have hw0 := hts (.fieldLink RX5 1 "MirrorTowerModel" "thrown" "I") (by decide +kernel)
  have hin_X5 : ∀ w ∈ u_ws RX5 TX5 33, w ∈ wsX5_power := by decide +kernel
  obtain ⟨H, hH⟩ : ∃ H, H = s.heap := ⟨_, rfl⟩
  rw [← hH] at hP ⊢
  have hS : va_S A s.heap H [] := by rw [hH]; exact hS
  generalize ([] : List Loc) = locs at hS ⊢
  refine lv_aload_n hx hb dX5_power_0 rfl (lv_at hl 0 rfl) ?_
  refine lv_iconst (v := 0) hx hb dX5_power_1 (by decide) ?_
  refine va_put (D := (dC, dI)) (ci := 5) (v := .int 0) (ty := .int) (C := RX5) (T := TX5) (N := 33) hx hb hts hin_X5 tyX5 tyX5_ok nmX5 hown hK hP hD hS 0 rfl rfl 0 (by decide) hw0 (fun _ h9 => h9) rfl (by decide +kernel) rfl rfl (Nat.le_of_ble_eq_true rfl) dX5_power_2 (fun H locs hP hD hS => ?_)
  have hP : va_P (dC, dI) vwCl (wM cI cZ cJ h F G (va_up V 0 0)) H := hP
  have hD : va_D A (wM cI cZ cJ h F G (va_up V 0 0)) := hD
  refine lv_aload_n hx hb dX5_power_5 rfl (lv_at hl 0 rfl) ?_
  refine lv_iload_n hx hb dX5_power_6 rfl (lv_at hl 1 rfl) ?_
  refine cw_Vi (As := [.int p0]) (rest := []) (c_X5_isMirror l dC dI cI cZ cJ h F G (va_up V 0 0) p0 hV2) fx (cwV 1 hts gX5_power_X5_isMirror rfl rfl rfl (by decide +kernel) ⟨Nat.le_of_ble_eq_true rfl, Nat.le_of_ble_eq_true rfl⟩) hK hP hD hS hA 0 rfl rfl rfl rfl hl.1 rfl (Nat.le_of_ble_eq_true rfl) dX5_power_7 ⟨Nat.le_of_ble_eq_true rfl, Nat.le_of_ble_eq_true rfl⟩ (fun r_1 u_2 H locs hw_3 hP hD hS => ?_)
  have hP : va_P (dC, dI) vwCl (wM cI cZ cJ h F G (va_up V 0 0)) H := hP
  have hD : va_D A (wM cI cZ cJ h F G (va_up V 0 0)) := hD
  obtain rfl : r_1 = 0 := hw_3
  refine lv_if_eq (tgt := 30) hx hb dX5_power_10 (by decide) (fun c_4 => ?_) (fun c_4 => ?_)
  · refine lv_iconst (v := (-1)) hx hb dX5_power_30 (by decide) ?_
    exact hret (-1) () H locs 31 ls rfl dX5_power_31 (by first | rfl | (simp []; done) | (exfalso; omega)) (hP.sub [] rfl) (hD.sub [] (by decide) rfl) hS
  · exact absurd c_4 (by decide)
def rm_X5_stowed : Room := { frames := 1, cells := 0, slots := 0, locals := 21 }
set_option maxHeartbeats 4000000 in
set_option maxRecDepth 100000 in
theorem c_X5_stowed (l : Launch) (dC : Nat → ClassId) (dI : Nat → Nat → Nat) (cI cZ cJ : ClassId) (h : Nat → Nat) (F : Nat → Nat → Int32) (G : Nat → Int64) (V : Nat → Int32) (p0 : Int32)  (hF8 : ∀ i, i < 24 → F 8 i = 0) : CtI l (dC, dI) vwCl (tys3 cI cZ cJ) yX5_stowed wsX5_stowed rm_X5_stowed [.ref (h 0), .int p0] (wM cI cZ cJ h F G V) (S := Unit) (fun r _ => r = a_0 p0 0 23) (fun _ => []) 0 0 := by
  refine ct_I (cc := cX5_stowed) (maxL := 2) (ty := .int) (own := RX5) (by decide) rfl rfl (Nat.le_of_ble_eq_true rfl) (lv := [(0, .ref (h 0)), (1, .int p0)]) rfl ?_
  intro p e s m args below meth c A Q ls fx hK hP hD hA hl hret
  obtain ⟨hx, hb, hml, hown, hts⟩ := id fx
  have hS : va_S A s.heap s.heap [] := va_S.rf
  have hw0 := hts (.fieldLink RX5 1 "MirrorTowerModel" "thrown" "I") (by decide +kernel)
  have hin_X5 : ∀ w ∈ u_ws RX5 TX5 33, w ∈ wsX5_stowed := by decide +kernel
  obtain ⟨H, hH⟩ : ∃ H, H = s.heap := ⟨_, rfl⟩
  rw [← hH] at hP ⊢
  have hS : va_S A s.heap H [] := by rw [hH]; exact hS
  generalize ([] : List Loc) = locs at hS ⊢
  refine lv_aload_n hx hb dX5_stowed_0 rfl (lv_at hl 0 rfl) ?_
  refine lv_iconst (v := 0) hx hb dX5_stowed_1 (by decide) ?_
  refine va_put (D := (dC, dI)) (ci := 5) (v := .int 0) (ty := .int) (C := RX5) (T := TX5) (N := 33) hx hb hts hin_X5 tyX5 tyX5_ok nmX5 hown hK hP hD hS 0 rfl rfl 0 (by decide) hw0 (fun _ h9 => h9) rfl (by decide +kernel) rfl rfl (Nat.le_of_ble_eq_true rfl) dX5_stowed_2 (fun H locs hP hD hS => ?_)
  have hP : va_P (dC, dI) vwCl (wM cI cZ cJ h F G (va_up V 0 0)) H := hP
  have hD : va_D A (wM cI cZ cJ h F G (va_up V 0 0)) := hD
  refine lv_iload_n hx hb dX5_stowed_5 rfl (lv_at hl 1 rfl) ?_
  refine cw_Si (As := [.int p0]) (rest := []) (c_X5_isHour l dC dI cI cZ cJ (wM cI cZ cJ h F G (va_up V 0 0)) p0) fx (va_cwS 1 hts gX5_stowed_X5_isHour rfl rfl rfl (by decide +kernel) ⟨Nat.le_of_ble_eq_true rfl, Nat.le_of_ble_eq_true rfl⟩) hK hP hD hS hA rfl hl.1 rfl (Nat.le_of_ble_eq_true rfl) dX5_stowed_6 ⟨Nat.le_of_ble_eq_true rfl, Nat.le_of_ble_eq_true rfl⟩ (fun r_1 u_2 H locs hw_3 hP hD hS => ?_)
  have hP : va_P (dC, dI) vwCl (wM cI cZ cJ h F G (va_up V 0 0)) H := hP
  have hD : va_D A (wM cI cZ cJ h F G (va_up V 0 0)) := hD
  have hw_3 : r_1 = bI (isW p0 0 23) := hw_3
  refine lv_if_eq (tgt := 28) hx hb dX5_stowed_9 (by decide) (fun c_4 => ?_) (fun c_4 => ?_)
  · have c_4 : isW p0 0 23 = false := bI_f hw_3 c_4
    refine lv_iconst (v := (-1)) hx hb dX5_stowed_28 (by decide) ?_
    exact hret (-1) () H locs 29 ls rfl dX5_stowed_29 (by first | rfl | (simp [a_0, c_4]; done) | (exfalso; omega)) (hP.sub [] rfl) (hD.sub [] (by decide) rfl) hS
  · have c_4 : isW p0 0 23 = true := bI_t hw_3 c_4
    refine lv_aload_n hx hb dX5_stowed_12 rfl (lv_at hl 0 rfl) ?_
    refine lv_iload_n hx hb dX5_stowed_13 rfl (lv_at hl 1 rfl) ?_
    obtain ⟨k0, hk0, rfl⟩ := isW_nat (M := 23) (n := 23) (by decide) c_4
    refine cw_Vi (As := [.int (nI k0)]) (rest := []) (c_X5_isStowed l dC dI cI cZ cJ h F G (va_up V 0 0) k0 (by omega) hF8) fx (cwV 1 hts gX5_stowed_X5_isStowed rfl rfl rfl (by decide +kernel) ⟨Nat.le_of_ble_eq_true rfl, Nat.le_of_ble_eq_true rfl⟩) hK hP hD hS hA 0 rfl rfl rfl rfl hl.1 rfl (Nat.le_of_ble_eq_true rfl) dX5_stowed_14 ⟨Nat.le_of_ble_eq_true rfl, Nat.le_of_ble_eq_true rfl⟩ (fun r_5 u_6 H locs hw_7 hP hD hS => ?_)
    have hP : va_P (dC, dI) vwCl (wM cI cZ cJ h F G (va_up V 0 0)) H := hP
    have hD : va_D A (wM cI cZ cJ h F G (va_up V 0 0)) := hD
    obtain rfl : r_5 = 0 := hw_7
    refine lv_if_eq (tgt := 24) hx hb dX5_stowed_17 (by decide) (fun c_8 => ?_) (fun c_8 => ?_)
    · refine lv_iconst (v := 0) hx hb dX5_stowed_24 (by decide) ?_
      refine lv_goto (tgt := 29) hx hb dX5_stowed_25 (by decide) ?_
      exact hret 0 () H locs 29 ls rfl dX5_stowed_29 (by first | rfl | (simp [a_0, c_4]; done) | (exfalso; omega)) (hP.sub [] rfl) (hD.sub [] (by decide) rfl) hS
    · exact absurd c_8 (by decide)
def rm_X5_soil : Room := { frames := 1, cells := 0, slots := 0, locals := 21 }
set_option maxHeartbeats 4000000 in
set_option maxRecDepth 100000 in
theorem c_X5_soil (l : Launch) (dC : Nat → ClassId) (dI : Nat → Nat → Nat) (cI cZ cJ : ClassId) (h : Nat → Nat) (F : Nat → Nat → Int32) (G : Nat → Int64) (V : Nat → Int32) (p0 : Int32) (hV2 : V 2 = 0) : CtI l (dC, dI) vwCl (tys3 cI cZ cJ) yX5_soil wsX5_soil rm_X5_soil [.ref (h 0), .int p0] (wM cI cZ cJ h F G V) (S := Unit) (fun r _ => r = (-1)) (fun _ => []) 0 0 := by
  refine ct_I (cc := cX5_soil) (maxL := 2) (ty := .int) (own := RX5) (by decide) rfl rfl (Nat.le_of_ble_eq_true rfl) (lv := [(0, .ref (h 0)), (1, .int p0)]) rfl ?_
  intro p e s m args below meth c A Q ls fx hK hP hD hA hl hret
  obtain ⟨hx, hb, hml, hown, hts⟩ := id fx
  have hS : va_S A s.heap s.heap [] := va_S.rf
  have hw0 := hts (.fieldLink RX5 1 "MirrorTowerModel" "thrown" "I") (by decide +kernel)
  have hin_X5 : ∀ w ∈ u_ws RX5 TX5 33, w ∈ wsX5_soil := by decide +kernel
  obtain ⟨H, hH⟩ : ∃ H, H = s.heap := ⟨_, rfl⟩
  rw [← hH] at hP ⊢
  have hS : va_S A s.heap H [] := by rw [hH]; exact hS
  generalize ([] : List Loc) = locs at hS ⊢
  refine lv_aload_n hx hb dX5_soil_0 rfl (lv_at hl 0 rfl) ?_
  refine lv_iconst (v := 0) hx hb dX5_soil_1 (by decide) ?_
  refine va_put (D := (dC, dI)) (ci := 5) (v := .int 0) (ty := .int) (C := RX5) (T := TX5) (N := 33) hx hb hts hin_X5 tyX5 tyX5_ok nmX5 hown hK hP hD hS 0 rfl rfl 0 (by decide) hw0 (fun _ h9 => h9) rfl (by decide +kernel) rfl rfl (Nat.le_of_ble_eq_true rfl) dX5_soil_2 (fun H locs hP hD hS => ?_)
  have hP : va_P (dC, dI) vwCl (wM cI cZ cJ h F G (va_up V 0 0)) H := hP
  have hD : va_D A (wM cI cZ cJ h F G (va_up V 0 0)) := hD
  refine lv_aload_n hx hb dX5_soil_5 rfl (lv_at hl 0 rfl) ?_
  refine lv_iload_n hx hb dX5_soil_6 rfl (lv_at hl 1 rfl) ?_
  refine cw_Vi (As := [.int p0]) (rest := []) (c_X5_isMirror l dC dI cI cZ cJ h F G (va_up V 0 0) p0 hV2) fx (cwV 1 hts gX5_soil_X5_isMirror rfl rfl rfl (by decide +kernel) ⟨Nat.le_of_ble_eq_true rfl, Nat.le_of_ble_eq_true rfl⟩) hK hP hD hS hA 0 rfl rfl rfl rfl hl.1 rfl (Nat.le_of_ble_eq_true rfl) dX5_soil_7 ⟨Nat.le_of_ble_eq_true rfl, Nat.le_of_ble_eq_true rfl⟩ (fun r_1 u_2 H locs hw_3 hP hD hS => ?_)
  have hP : va_P (dC, dI) vwCl (wM cI cZ cJ h F G (va_up V 0 0)) H := hP
  have hD : va_D A (wM cI cZ cJ h F G (va_up V 0 0)) := hD
  obtain rfl : r_1 = 0 := hw_3
  refine lv_if_eq (tgt := 22) hx hb dX5_soil_10 (by decide) (fun c_4 => ?_) (fun c_4 => ?_)
  · refine lv_iconst (v := (-1)) hx hb dX5_soil_22 (by decide) ?_
    exact hret (-1) () H locs 23 ls rfl dX5_soil_23 (by first | rfl | (simp []; done) | (exfalso; omega)) (hP.sub [] rfl) (hD.sub [] (by decide) rfl) hS
  · exact absurd c_4 (by decide)
def rm_X5_wash : Room := { frames := 1, cells := 0, slots := 0, locals := 22 }
set_option maxHeartbeats 4000000 in
set_option maxRecDepth 100000 in
theorem c_X5_wash (l : Launch) (dC : Nat → ClassId) (dI : Nat → Nat → Nat) (cI cZ cJ : ClassId) (h : Nat → Nat) (F : Nat → Nat → Int32) (G : Nat → Int64) (V : Nat → Int32) (p0 : Int32) (hV2 : V 2 = 0) : CtI l (dC, dI) vwCl (tys3 cI cZ cJ) yX5_wash wsX5_wash rm_X5_wash [.ref (h 0), .int p0] (wM cI cZ cJ h F G V) (S := Unit) (fun r _ => r = a_0 p0 1 40) (fun _ => []) 0 0 := by
  refine ct_I (cc := cX5_wash) (maxL := 6) (ty := .int) (own := RX5) (by decide) rfl rfl (Nat.le_of_ble_eq_true rfl) (lv := [(0, .ref (h 0)), (1, .int p0)]) rfl ?_
  intro p e s m args below meth c A Q ls fx hK hP hD hA hl hret
  obtain ⟨hx, hb, hml, hown, hts⟩ := id fx
  have hS : va_S A s.heap s.heap [] := va_S.rf
  have hw0 := hts (.fieldLink RX5 1 "MirrorTowerModel" "thrown" "I") (by decide +kernel)
  have hin_X5 : ∀ w ∈ u_ws RX5 TX5 33, w ∈ wsX5_wash := by decide +kernel
  have hw2 := hts (.fieldLink RX5 91 "MirrorTowerModel" "mirrors" "I") (by decide +kernel)
  obtain ⟨H, hH⟩ : ∃ H, H = s.heap := ⟨_, rfl⟩
  rw [← hH] at hP ⊢
  have hS : va_S A s.heap H [] := by rw [hH]; exact hS
  generalize ([] : List Loc) = locs at hS ⊢
  refine lv_aload_n hx hb dX5_wash_0 rfl (lv_at hl 0 rfl) ?_
  refine lv_iconst (v := 0) hx hb dX5_wash_1 (by decide) ?_
  refine va_put (D := (dC, dI)) (ci := 5) (v := .int 0) (ty := .int) (C := RX5) (T := TX5) (N := 33) hx hb hts hin_X5 tyX5 tyX5_ok nmX5 hown hK hP hD hS 0 rfl rfl 0 (by decide) hw0 (fun _ h9 => h9) rfl (by decide +kernel) rfl rfl (Nat.le_of_ble_eq_true rfl) dX5_wash_2 (fun H locs hP hD hS => ?_)
  have hP : va_P (dC, dI) vwCl (wM cI cZ cJ h F G (va_up V 0 0)) H := hP
  have hD : va_D A (wM cI cZ cJ h F G (va_up V 0 0)) := hD
  refine lv_iload_n hx hb dX5_wash_5 rfl (lv_at hl 1 rfl) ?_
  refine lv_iconst (v := 1) hx hb dX5_wash_6 (by decide) ?_
  refine lv_bipush (v := 40) hx hb dX5_wash_7 (by decide) ?_
  refine cw_Si (As := [.int p0, .int 1, .int 40]) (rest := []) (c_X5_in l dC dI cI cZ cJ (wM cI cZ cJ h F G (va_up V 0 0)) p0 1 40) fx (va_cwS 3 hts gX5_wash_X5_in rfl rfl rfl (by decide +kernel) ⟨Nat.le_of_ble_eq_true rfl, Nat.le_of_ble_eq_true rfl⟩) hK hP hD hS hA rfl hl.1 rfl (Nat.le_of_ble_eq_true rfl) dX5_wash_9 ⟨Nat.le_of_ble_eq_true rfl, Nat.le_of_ble_eq_true rfl⟩ (fun r_1 u_2 H locs hw_3 hP hD hS => ?_)
  have hP : va_P (dC, dI) vwCl (wM cI cZ cJ h F G (va_up V 0 0)) H := hP
  have hD : va_D A (wM cI cZ cJ h F G (va_up V 0 0)) := hD
  have hw_3 : r_1 = bI (isW p0 1 40) := hw_3
  refine lv_if_ne (tgt := 21) hx hb dX5_wash_12 (by decide) (fun c_4 => ?_) (fun c_4 => ?_)
  · have c_4 : isW p0 1 40 = true := bI_t hw_3 c_4
    refine lv_iconst (v := 0) hx hb dX5_wash_21 (by decide) ?_
    refine lv_istore_n (lv' := [(2, .int 0), (0, .ref (h 0)), (1, .int p0)]) hx hb dX5_wash_22 rfl hl (by decide) rfl (fun ls hl => ?_)
    refine lv_iconst (v := 0) hx hb dX5_wash_23 (by decide) ?_
    refine lv_istore_n (lv' := [(3, .int 0), (2, .int 0), (0, .ref (h 0)), (1, .int p0)]) hx hb dX5_wash_24 rfl hl (by decide) rfl (fun ls hl => ?_)
    refine lv_iload_n hx hb dX5_wash_25 rfl (lv_at hl 0 rfl) ?_
    refine lv_iload_n hx hb dX5_wash_26 rfl (lv_at hl 3 rfl) ?_
    refine lv_icmp_ge (tgt := 124) hx hb dX5_wash_27 (by decide) (fun c_5 => ?_) (fun c_5 => ?_)
    · have c_5 : ltI 0 p0 = false := decide_eq_false (Int32.not_lt.mpr c_5)
      refine lv_aload_n hx hb dX5_wash_124 rfl (lv_at hl 2 rfl) ?_
      refine lv_iload_n hx hb dX5_wash_125 rfl (lv_at hl 1 rfl) ?_
      refine cw_Vi (As := [.int 0]) (rest := []) (c_X5_done l dC dI cI cZ cJ h F G (va_up V 0 0) 0) fx (cwV 1 hts gX5_wash_X5_done rfl rfl rfl (by decide +kernel) ⟨Nat.le_of_ble_eq_true rfl, Nat.le_of_ble_eq_true rfl⟩) hK hP hD hS hA 0 rfl rfl rfl rfl hl.1 rfl (Nat.le_of_ble_eq_true rfl) dX5_wash_126 ⟨Nat.le_of_ble_eq_true rfl, Nat.le_of_ble_eq_true rfl⟩ (fun r_6 u_7 H locs hw_8 hP hD hS => ?_)
      have hP : va_P (dC, dI) vwCl (wM cI cZ cJ h F G (va_up (va_up V 0 0) 1 0)) H := hP
      have hD : va_D A (wM cI cZ cJ h F G (va_up (va_up V 0 0) 1 0)) := hD
      obtain rfl : r_6 = 0 := hw_8
      exact hret 0 () H locs 129 ls rfl dX5_wash_129 (by first | rfl | (simp [a_0, c_4, c_5]; done) | (exfalso; omega)) (hP.sub [] rfl) (hD.sub [] (by decide) rfl) hS
    · have c_5 : ltI 0 p0 = true := decide_eq_true (Int32.not_le.mp c_5)
      refine lv_iconst (v := (-1)) hx hb dX5_wash_30 (by decide) ?_
      refine lv_istore (lv' := [(4, .int (-1)), (3, .int 0), (2, .int 0), (0, .ref (h 0)), (1, .int p0)]) hx hb dX5_wash_31 hl (by decide) rfl (fun ls hl => ?_)
      refine lv_iconst (v := 0) hx hb dX5_wash_33 (by decide) ?_
      refine lv_istore (lv' := [(5, .int 0), (4, .int (-1)), (3, .int 0), (2, .int 0), (0, .ref (h 0)), (1, .int p0)]) hx hb dX5_wash_34 hl (by decide) rfl (fun ls hl => ?_)
      refine lv_iload hx hb dX5_wash_36 (lv_at hl 0 rfl) ?_
      refine lv_aload_n hx hb dX5_wash_38 rfl (lv_at hl 4 rfl) ?_
      refine va_get (D := (dC, dI)) (ci := 5) (v := .int (V 2)) (C := RX5) (T := TX5) (N := 33) hx hb hts hin_X5 hown hK hP 0 rfl rfl 2 (by decide) hw2 (fun _ h9 => h9) rfl dX5_wash_39 ?_
      refine lv_topi (fun x_9 ex_9 => ?_)
      obtain rfl : x_9 = 0 := ex_9.trans (hV2)
      refine lv_icmp_ge (tgt := 88) hx hb dX5_wash_42 (by decide) (fun c_10 => ?_) (fun c_10 => ?_)
      · refine lv_iload hx hb dX5_wash_88 (lv_at hl 1 rfl) ?_
        refine lv_iconst (v := (-1)) hx hb dX5_wash_90 (by decide) ?_
        refine lv_icmp_ne (tgt := 100) hx hb dX5_wash_91 (by decide) (fun c_11 => ?_) (fun c_11 => ?_)
        · exact absurd c_11 (by decide)
        · refine lv_aload_n hx hb dX5_wash_94 rfl (lv_at hl 4 rfl) ?_
          refine lv_iload_n hx hb dX5_wash_95 rfl (lv_at hl 3 rfl) ?_
          refine cw_Vi (As := [.int 0]) (rest := []) (c_X5_done l dC dI cI cZ cJ h F G (va_up V 0 0) 0) fx (cwV 1 hts gX5_wash_X5_done rfl rfl rfl (by decide +kernel) ⟨Nat.le_of_ble_eq_true rfl, Nat.le_of_ble_eq_true rfl⟩) hK hP hD hS hA 0 rfl rfl rfl rfl hl.1 rfl (Nat.le_of_ble_eq_true rfl) dX5_wash_96 ⟨Nat.le_of_ble_eq_true rfl, Nat.le_of_ble_eq_true rfl⟩ (fun r_12 u_13 H locs hw_14 hP hD hS => ?_)
          have hP : va_P (dC, dI) vwCl (wM cI cZ cJ h F G (va_up (va_up V 0 0) 1 0)) H := hP
          have hD : va_D A (wM cI cZ cJ h F G (va_up (va_up V 0 0) 1 0)) := hD
          obtain rfl : r_12 = 0 := hw_14
          exact hret 0 () H locs 99 ls rfl dX5_wash_99 (by first | rfl | (simp [a_0, c_4, c_5]; done) | (exfalso; omega)) (hP.sub [] rfl) (hD.sub [] (by decide) rfl) hS
      · exact absurd c_10 (by decide)
  · have c_4 : isW p0 1 40 = false := bI_f hw_3 c_4
    refine lv_aload_n hx hb dX5_wash_15 rfl (lv_at hl 0 rfl) ?_
    refine lv_iconst (v := 2) hx hb dX5_wash_16 (by decide) ?_
    refine cw_Vi (As := [.int 2]) (rest := []) (c_X5_refused l dC dI cI cZ cJ h F G (va_up V 0 0) 2) fx (cwV 1 hts gX5_wash_X5_refused rfl rfl rfl (by decide +kernel) ⟨Nat.le_of_ble_eq_true rfl, Nat.le_of_ble_eq_true rfl⟩) hK hP hD hS hA 0 rfl rfl rfl rfl hl.1 rfl (Nat.le_of_ble_eq_true rfl) dX5_wash_17 ⟨Nat.le_of_ble_eq_true rfl, Nat.le_of_ble_eq_true rfl⟩ (fun r_15 u_16 H locs hw_17 hP hD hS => ?_)
    have hP : va_P (dC, dI) vwCl (wM cI cZ cJ h F G (va_up (va_up V 0 0) 1 2)) H := hP
    have hD : va_D A (wM cI cZ cJ h F G (va_up (va_up V 0 0) 1 2)) := hD
    obtain rfl : r_15 = (-1) := hw_17
    exact hret (-1) () H locs 20 ls rfl dX5_wash_20 (by first | rfl | (simp [a_0, c_4]; done) | (exfalso; omega)) (hP.sub [] rfl) (hD.sub [] (by decide) rfl) hS
def rm_X5_aim : Room := { frames := 2, cells := 0, slots := 0, locals := 51 }
set_option maxHeartbeats 4000000 in
set_option maxRecDepth 100000 in
theorem c_X5_aim (l : Launch) (dC : Nat → ClassId) (dI : Nat → Nat → Nat) (cI cZ cJ : ClassId) (h : Nat → Nat) (F : Nat → Nat → Int32) (G : Nat → Int64) (V : Nat → Int32) (p0 : Int32) (hV2 : V 2 = 0) : CtI l (dC, dI) vwCl (tys3 cI cZ cJ) yX5_aim wsX5_aim rm_X5_aim [.ref (h 0), .int p0] (wM cI cZ cJ h F G V) (S := Unit) (fun r _ => r = a_0 p0 0 23) (fun _ => []) 0 0 := by
  refine ct_I (cc := cX5_aim) (maxL := 4) (ty := .int) (own := RX5) (by decide) rfl rfl (Nat.le_of_ble_eq_true rfl) (lv := [(0, .ref (h 0)), (1, .int p0)]) rfl ?_
  intro p e s m args below meth c A Q ls fx hK hP hD hA hl hret
  obtain ⟨hx, hb, hml, hown, hts⟩ := id fx
  have hS : va_S A s.heap s.heap [] := va_S.rf
  have hw0 := hts (.fieldLink RX5 1 "MirrorTowerModel" "thrown" "I") (by decide +kernel)
  have hin_X5 : ∀ w ∈ u_ws RX5 TX5 33, w ∈ wsX5_aim := by decide +kernel
  have hw2 := hts (.fieldLink RX5 91 "MirrorTowerModel" "mirrors" "I") (by decide +kernel)
  have hw3 := hts (.fieldLink RX5 65 "MirrorTowerModel" "aimedMirrors" "I") (by decide +kernel)
  have hw4 := hts (.fieldLink RX5 62 "MirrorTowerModel" "atFace" "[I") (by decide +kernel)
  have hw5 := hts (.fieldLink RX5 29 "MirrorTowerModel" "limit" "[I") (by decide +kernel)
  have hw6 := hts (.fieldLink RX5 53 "MirrorTowerModel" "left" "[I") (by decide +kernel)
  obtain ⟨H, hH⟩ : ∃ H, H = s.heap := ⟨_, rfl⟩
  rw [← hH] at hP ⊢
  have hS : va_S A s.heap H [] := by rw [hH]; exact hS
  generalize ([] : List Loc) = locs at hS ⊢
  refine lv_aload_n hx hb dX5_aim_0 rfl (lv_at hl 0 rfl) ?_
  refine lv_iconst (v := 0) hx hb dX5_aim_1 (by decide) ?_
  refine va_put (D := (dC, dI)) (ci := 5) (v := .int 0) (ty := .int) (C := RX5) (T := TX5) (N := 33) hx hb hts hin_X5 tyX5 tyX5_ok nmX5 hown hK hP hD hS 0 rfl rfl 0 (by decide) hw0 (fun _ h9 => h9) rfl (by decide +kernel) rfl rfl (Nat.le_of_ble_eq_true rfl) dX5_aim_2 (fun H locs hP hD hS => ?_)
  have hP : va_P (dC, dI) vwCl (wM cI cZ cJ h F G (va_up V 0 0)) H := hP
  have hD : va_D A (wM cI cZ cJ h F G (va_up V 0 0)) := hD
  refine lv_iload_n hx hb dX5_aim_5 rfl (lv_at hl 1 rfl) ?_
  refine cw_Si (As := [.int p0]) (rest := []) (c_X5_isHour l dC dI cI cZ cJ (wM cI cZ cJ h F G (va_up V 0 0)) p0) fx (va_cwS 1 hts gX5_aim_X5_isHour rfl rfl rfl (by decide +kernel) ⟨Nat.le_of_ble_eq_true rfl, Nat.le_of_ble_eq_true rfl⟩) hK hP hD hS hA rfl hl.1 rfl (Nat.le_of_ble_eq_true rfl) dX5_aim_6 ⟨Nat.le_of_ble_eq_true rfl, Nat.le_of_ble_eq_true rfl⟩ (fun r_1 u_2 H locs hw_3 hP hD hS => ?_)
  have hP : va_P (dC, dI) vwCl (wM cI cZ cJ h F G (va_up V 0 0)) H := hP
  have hD : va_D A (wM cI cZ cJ h F G (va_up V 0 0)) := hD
  have hw_3 : r_1 = bI (isW p0 0 23) := hw_3
  refine lv_if_ne (tgt := 18) hx hb dX5_aim_9 (by decide) (fun c_4 => ?_) (fun c_4 => ?_)
  · have c_4 : isW p0 0 23 = true := bI_t hw_3 c_4
    refine lv_aload_n hx hb dX5_aim_18 rfl (lv_at hl 0 rfl) ?_
    refine lv_iload_n hx hb dX5_aim_19 rfl (lv_at hl 1 rfl) ?_
    refine lv_iconst (v := 0) hx hb dX5_aim_20 (by decide) ?_
    refine cw_Vi (As := [.int p0, .int 0]) (rest := []) (c_X5_aims l dC dI cI cZ cJ h F G (va_up V 0 0) p0 0 hV2) fx (cwV 2 hts gX5_aim_X5_aims rfl rfl rfl (by decide +kernel) ⟨Nat.le_of_ble_eq_true rfl, Nat.le_of_ble_eq_true rfl⟩) hK hP hD hS hA 0 rfl rfl rfl rfl hl.1 rfl (Nat.le_of_ble_eq_true rfl) dX5_aim_21 ⟨Nat.le_of_ble_eq_true rfl, Nat.le_of_ble_eq_true rfl⟩ (fun r_5 u_6 H locs hw_7 hP hD hS => ?_)
    obtain ⟨F_8, rfl⟩ : ∃ z, z = u_6 := ⟨_, rfl⟩
    have hP : va_P (dC, dI) vwCl (wM cI cZ cJ h F_8 G (va_up V 0 0)) H := hP
    have hD : va_D A (wM cI cZ cJ h F_8 G (va_up V 0 0)) := hD
    obtain rfl : r_5 = 0 := hw_7.1
    refine lv_istore_n (lv' := [(2, .int 0), (0, .ref (h 0)), (1, .int p0)]) hx hb dX5_aim_24 rfl hl (by decide) rfl (fun ls hl => ?_)
    refine lv_aload_n hx hb dX5_aim_25 rfl (lv_at hl 1 rfl) ?_
    refine lv_aload_n hx hb dX5_aim_26 rfl (lv_at hl 1 rfl) ?_
    refine va_get (D := (dC, dI)) (ci := 5) (v := .int (V 2)) (C := RX5) (T := TX5) (N := 33) hx hb hts hin_X5 hown hK hP 0 rfl rfl 2 (by decide) hw2 (fun _ h9 => h9) rfl dX5_aim_27 ?_
    refine lv_topi (fun x_9 ex_9 => ?_)
    obtain rfl : x_9 = 0 := ex_9.trans (hV2)
    refine va_put (D := (dC, dI)) (ci := 5) (v := .int 0) (ty := .int) (C := RX5) (T := TX5) (N := 33) hx hb hts hin_X5 tyX5 tyX5_ok nmX5 hown hK hP hD hS 0 rfl rfl 23 (by decide) hw3 (fun _ h9 => h9) rfl (by decide +kernel) rfl rfl (Nat.le_of_ble_eq_true rfl) dX5_aim_30 (fun H locs hP hD hS => ?_)
    have hP : va_P (dC, dI) vwCl (wM cI cZ cJ h F_8 G (va_up (va_up V 0 0) 8 0)) H := hP
    have hD : va_D A (wM cI cZ cJ h F_8 G (va_up (va_up V 0 0) 8 0)) := hD
    refine lv_iconst (v := 0) hx hb dX5_aim_33 (by decide) ?_
    refine lv_istore_n (lv' := [(3, .int 0), (2, .int 0), (0, .ref (h 0)), (1, .int p0)]) hx hb dX5_aim_34 rfl hl (by decide) rfl (fun ls hl => ?_)
    refine lv_iload_n hx hb dX5_aim_35 rfl (lv_at hl 0 rfl) ?_
    refine lv_aload_n hx hb dX5_aim_36 rfl (lv_at hl 2 rfl) ?_
    refine va_get (D := (dC, dI)) (ci := 5) (v := .int (V 2)) (C := RX5) (T := TX5) (N := 33) hx hb hts hin_X5 hown hK hP 0 rfl rfl 2 (by decide) hw2 (fun _ h9 => h9) rfl dX5_aim_37 ?_
    refine lv_topi (fun x_10 ex_10 => ?_)
    obtain rfl : x_10 = 0 := ex_10.trans (hV2)
    refine lv_icmp_ge (tgt := 61) hx hb dX5_aim_40 (by decide) (fun c_11 => ?_) (fun c_11 => ?_)
    · refine lv_iconst (v := 0) hx hb dX5_aim_61 (by decide) ?_
      refine lv_istore_n (lv' := [(3, .int 0), (2, .int 0), (0, .ref (h 0)), (1, .int p0)]) hx hb dX5_aim_62 rfl hl (by decide) rfl (fun ls hl => ?_)
      refine lv_iload_n hx hb dX5_aim_63 rfl (lv_at hl 0 rfl) ?_
      refine lv_iconst (v := 4) hx hb dX5_aim_64 (by decide) ?_
      refine lv_icmp_ge (tgt := 93) hx hb dX5_aim_65 (by decide) (fun c_12 => ?_) (fun c_12 => ?_)
      · exact absurd c_12 (by decide)
      · refine lv_aload_n hx hb dX5_aim_68 rfl (lv_at hl 2 rfl) ?_
        refine va_get (D := (dC, dI)) (ci := 5) (v := .ref (h 15)) (C := RX5) (T := TX5) (N := 33) hx hb hts hin_X5 hown hK hP 0 rfl rfl 22 (by decide) hw4 (fun _ h9 => h9) rfl dX5_aim_69 ?_
        refine lv_iload_n hx hb dX5_aim_72 rfl (lv_at hl 0 rfl) ?_
        refine lv_aload_n hx hb dX5_aim_73 rfl (lv_at hl 2 rfl) ?_
        refine va_get (D := (dC, dI)) (ci := 5) (v := .ref (h 4)) (C := RX5) (T := TX5) (N := 33) hx hb hts hin_X5 hown hK hP 0 rfl rfl 11 (by decide) hw5 (fun _ h9 => h9) rfl dX5_aim_74 ?_
        refine lv_iload_n hx hb dX5_aim_77 rfl (lv_at hl 0 rfl) ?_
        refine va_iald hx hb hK hP 4 0 rfl rfl (vp_in_nI (n := 0) (N := 4) (by decide) (by decide)) dX5_aim_78 ?_
        refine lv_topi (fun x_13 ex_13 => ?_)
        refine lv_aload_n hx hb dX5_aim_79 rfl (lv_at hl 2 rfl) ?_
        refine va_get (D := (dC, dI)) (ci := 5) (v := .ref (h 12)) (C := RX5) (T := TX5) (N := 33) hx hb hts hin_X5 hown hK hP 0 rfl rfl 19 (by decide) hw6 (fun _ h9 => h9) rfl dX5_aim_80 ?_
        refine lv_iload_n hx hb dX5_aim_83 rfl (lv_at hl 0 rfl) ?_
        refine va_iald hx hb hK hP 12 0 rfl rfl (vp_in_nI (n := 0) (N := 4) (by decide) (by decide)) dX5_aim_84 ?_
        refine lv_topi (fun x_14 ex_14 => ?_)
        refine lv_isub hx hb dX5_aim_85 ?_
        refine va_iast hx hb hK hP hD hS 15 0 rfl rfl (vp_in_nI (n := 0) (N := 4) (by decide) (by decide)) dX5_aim_86 (fun H locs hP hD hS => ?_)
        obtain ⟨F_15, eF_15⟩ : ∃ z : Nat → Nat → Int32, z = va_up F_8 15 (upd (F_8 15) (0 : Int32).toNatClampNeg (x_13 - x_14)) := ⟨_, rfl⟩
        have hP : va_P (dC, dI) vwCl (wM cI cZ cJ h F_15 G (va_up (va_up V 0 0) 8 0)) H := by rw [eF_15]; exact hP
        have hD : va_D A (wM cI cZ cJ h F_15 G (va_up (va_up V 0 0) 8 0)) := by rw [eF_15]; exact hD
        refine lv_iinc (v := 1) (lv' := [(3, .int 1), (2, .int 0), (0, .ref (h 0)), (1, .int p0)]) hx hb dX5_aim_87 hl (k := 0) rfl (by decide) (by decide) rfl (fun ls hl => ?_)
        refine lv_goto (tgt := 63) hx hb dX5_aim_90 (by decide) ?_
        refine lv_iload_n hx hb dX5_aim_63 rfl (lv_at hl 0 rfl) ?_
        refine lv_iconst (v := 4) hx hb dX5_aim_64 (by decide) ?_
        refine lv_icmp_ge (tgt := 93) hx hb dX5_aim_65 (by decide) (fun c_16 => ?_) (fun c_16 => ?_)
        · exact absurd c_16 (by decide)
        · refine lv_aload_n hx hb dX5_aim_68 rfl (lv_at hl 2 rfl) ?_
          refine va_get (D := (dC, dI)) (ci := 5) (v := .ref (h 15)) (C := RX5) (T := TX5) (N := 33) hx hb hts hin_X5 hown hK hP 0 rfl rfl 22 (by decide) hw4 (fun _ h9 => h9) rfl dX5_aim_69 ?_
          refine lv_iload_n hx hb dX5_aim_72 rfl (lv_at hl 0 rfl) ?_
          refine lv_aload_n hx hb dX5_aim_73 rfl (lv_at hl 2 rfl) ?_
          refine va_get (D := (dC, dI)) (ci := 5) (v := .ref (h 4)) (C := RX5) (T := TX5) (N := 33) hx hb hts hin_X5 hown hK hP 0 rfl rfl 11 (by decide) hw5 (fun _ h9 => h9) rfl dX5_aim_74 ?_
          refine lv_iload_n hx hb dX5_aim_77 rfl (lv_at hl 0 rfl) ?_
          refine va_iald hx hb hK hP 4 0 rfl rfl (vp_in_nI (n := 1) (N := 4) (by decide) (by decide)) dX5_aim_78 ?_
          refine lv_topi (fun x_17 ex_17 => ?_)
          refine lv_aload_n hx hb dX5_aim_79 rfl (lv_at hl 2 rfl) ?_
          refine va_get (D := (dC, dI)) (ci := 5) (v := .ref (h 12)) (C := RX5) (T := TX5) (N := 33) hx hb hts hin_X5 hown hK hP 0 rfl rfl 19 (by decide) hw6 (fun _ h9 => h9) rfl dX5_aim_80 ?_
          refine lv_iload_n hx hb dX5_aim_83 rfl (lv_at hl 0 rfl) ?_
          refine va_iald hx hb hK hP 12 0 rfl rfl (vp_in_nI (n := 1) (N := 4) (by decide) (by decide)) dX5_aim_84 ?_
          refine lv_topi (fun x_18 ex_18 => ?_)
          refine lv_isub hx hb dX5_aim_85 ?_
          refine va_iast hx hb hK hP hD hS 15 0 rfl rfl (vp_in_nI (n := 1) (N := 4) (by decide) (by decide)) dX5_aim_86 (fun H locs hP hD hS => ?_)
          obtain ⟨F_19, eF_19⟩ : ∃ z : Nat → Nat → Int32, z = va_up F_15 15 (upd (F_15 15) (1 : Int32).toNatClampNeg (x_17 - x_18)) := ⟨_, rfl⟩
          have hP : va_P (dC, dI) vwCl (wM cI cZ cJ h F_19 G (va_up (va_up V 0 0) 8 0)) H := by rw [eF_19]; exact hP
          have hD : va_D A (wM cI cZ cJ h F_19 G (va_up (va_up V 0 0) 8 0)) := by rw [eF_19]; exact hD
          refine lv_iinc (v := 2) (lv' := [(3, .int 2), (2, .int 0), (0, .ref (h 0)), (1, .int p0)]) hx hb dX5_aim_87 hl (k := 0) rfl (by decide) (by decide) rfl (fun ls hl => ?_)
          refine lv_goto (tgt := 63) hx hb dX5_aim_90 (by decide) ?_
          refine lv_iload_n hx hb dX5_aim_63 rfl (lv_at hl 0 rfl) ?_
          refine lv_iconst (v := 4) hx hb dX5_aim_64 (by decide) ?_
          refine lv_icmp_ge (tgt := 93) hx hb dX5_aim_65 (by decide) (fun c_20 => ?_) (fun c_20 => ?_)
          · exact absurd c_20 (by decide)
          · refine lv_aload_n hx hb dX5_aim_68 rfl (lv_at hl 2 rfl) ?_
            refine va_get (D := (dC, dI)) (ci := 5) (v := .ref (h 15)) (C := RX5) (T := TX5) (N := 33) hx hb hts hin_X5 hown hK hP 0 rfl rfl 22 (by decide) hw4 (fun _ h9 => h9) rfl dX5_aim_69 ?_
            refine lv_iload_n hx hb dX5_aim_72 rfl (lv_at hl 0 rfl) ?_
            refine lv_aload_n hx hb dX5_aim_73 rfl (lv_at hl 2 rfl) ?_
            refine va_get (D := (dC, dI)) (ci := 5) (v := .ref (h 4)) (C := RX5) (T := TX5) (N := 33) hx hb hts hin_X5 hown hK hP 0 rfl rfl 11 (by decide) hw5 (fun _ h9 => h9) rfl dX5_aim_74 ?_
            refine lv_iload_n hx hb dX5_aim_77 rfl (lv_at hl 0 rfl) ?_
            refine va_iald hx hb hK hP 4 0 rfl rfl (vp_in_nI (n := 2) (N := 4) (by decide) (by decide)) dX5_aim_78 ?_
            refine lv_topi (fun x_21 ex_21 => ?_)
            refine lv_aload_n hx hb dX5_aim_79 rfl (lv_at hl 2 rfl) ?_
            refine va_get (D := (dC, dI)) (ci := 5) (v := .ref (h 12)) (C := RX5) (T := TX5) (N := 33) hx hb hts hin_X5 hown hK hP 0 rfl rfl 19 (by decide) hw6 (fun _ h9 => h9) rfl dX5_aim_80 ?_
            refine lv_iload_n hx hb dX5_aim_83 rfl (lv_at hl 0 rfl) ?_
            refine va_iald hx hb hK hP 12 0 rfl rfl (vp_in_nI (n := 2) (N := 4) (by decide) (by decide)) dX5_aim_84 ?_
            refine lv_topi (fun x_22 ex_22 => ?_)
            refine lv_isub hx hb dX5_aim_85 ?_
            refine va_iast hx hb hK hP hD hS 15 0 rfl rfl (vp_in_nI (n := 2) (N := 4) (by decide) (by decide)) dX5_aim_86 (fun H locs hP hD hS => ?_)
            obtain ⟨F_23, eF_23⟩ : ∃ z : Nat → Nat → Int32, z = va_up F_19 15 (upd (F_19 15) (2 : Int32).toNatClampNeg (x_21 - x_22)) := ⟨_, rfl⟩
            have hP : va_P (dC, dI) vwCl (wM cI cZ cJ h F_23 G (va_up (va_up V 0 0) 8 0)) H := by rw [eF_23]; exact hP
            have hD : va_D A (wM cI cZ cJ h F_23 G (va_up (va_up V 0 0) 8 0)) := by rw [eF_23]; exact hD
            refine lv_iinc (v := 3) (lv' := [(3, .int 3), (2, .int 0), (0, .ref (h 0)), (1, .int p0)]) hx hb dX5_aim_87 hl (k := 0) rfl (by decide) (by decide) rfl (fun ls hl => ?_)
            refine lv_goto (tgt := 63) hx hb dX5_aim_90 (by decide) ?_
            refine lv_iload_n hx hb dX5_aim_63 rfl (lv_at hl 0 rfl) ?_
            refine lv_iconst (v := 4) hx hb dX5_aim_64 (by decide) ?_
            refine lv_icmp_ge (tgt := 93) hx hb dX5_aim_65 (by decide) (fun c_24 => ?_) (fun c_24 => ?_)
            · exact absurd c_24 (by decide)
            · refine lv_aload_n hx hb dX5_aim_68 rfl (lv_at hl 2 rfl) ?_
              refine va_get (D := (dC, dI)) (ci := 5) (v := .ref (h 15)) (C := RX5) (T := TX5) (N := 33) hx hb hts hin_X5 hown hK hP 0 rfl rfl 22 (by decide) hw4 (fun _ h9 => h9) rfl dX5_aim_69 ?_
              refine lv_iload_n hx hb dX5_aim_72 rfl (lv_at hl 0 rfl) ?_
              refine lv_aload_n hx hb dX5_aim_73 rfl (lv_at hl 2 rfl) ?_
              refine va_get (D := (dC, dI)) (ci := 5) (v := .ref (h 4)) (C := RX5) (T := TX5) (N := 33) hx hb hts hin_X5 hown hK hP 0 rfl rfl 11 (by decide) hw5 (fun _ h9 => h9) rfl dX5_aim_74 ?_
              refine lv_iload_n hx hb dX5_aim_77 rfl (lv_at hl 0 rfl) ?_
              refine va_iald hx hb hK hP 4 0 rfl rfl (vp_in_nI (n := 3) (N := 4) (by decide) (by decide)) dX5_aim_78 ?_
              refine lv_topi (fun x_25 ex_25 => ?_)
              refine lv_aload_n hx hb dX5_aim_79 rfl (lv_at hl 2 rfl) ?_
              refine va_get (D := (dC, dI)) (ci := 5) (v := .ref (h 12)) (C := RX5) (T := TX5) (N := 33) hx hb hts hin_X5 hown hK hP 0 rfl rfl 19 (by decide) hw6 (fun _ h9 => h9) rfl dX5_aim_80 ?_
              refine lv_iload_n hx hb dX5_aim_83 rfl (lv_at hl 0 rfl) ?_
              refine va_iald hx hb hK hP 12 0 rfl rfl (vp_in_nI (n := 3) (N := 4) (by decide) (by decide)) dX5_aim_84 ?_
              refine lv_topi (fun x_26 ex_26 => ?_)
              refine lv_isub hx hb dX5_aim_85 ?_
              refine va_iast hx hb hK hP hD hS 15 0 rfl rfl (vp_in_nI (n := 3) (N := 4) (by decide) (by decide)) dX5_aim_86 (fun H locs hP hD hS => ?_)
              obtain ⟨F_27, eF_27⟩ : ∃ z : Nat → Nat → Int32, z = va_up F_23 15 (upd (F_23 15) (3 : Int32).toNatClampNeg (x_25 - x_26)) := ⟨_, rfl⟩
              have hP : va_P (dC, dI) vwCl (wM cI cZ cJ h F_27 G (va_up (va_up V 0 0) 8 0)) H := by rw [eF_27]; exact hP
              have hD : va_D A (wM cI cZ cJ h F_27 G (va_up (va_up V 0 0) 8 0)) := by rw [eF_27]; exact hD
              refine lv_iinc (v := 4) (lv' := [(3, .int 4), (2, .int 0), (0, .ref (h 0)), (1, .int p0)]) hx hb dX5_aim_87 hl (k := 0) rfl (by decide) (by decide) rfl (fun ls hl => ?_)
              refine lv_goto (tgt := 63) hx hb dX5_aim_90 (by decide) ?_
              refine lv_iload_n hx hb dX5_aim_63 rfl (lv_at hl 0 rfl) ?_
              refine lv_iconst (v := 4) hx hb dX5_aim_64 (by decide) ?_
              refine lv_icmp_ge (tgt := 93) hx hb dX5_aim_65 (by decide) (fun c_28 => ?_) (fun c_28 => ?_)
              · refine lv_aload_n hx hb dX5_aim_93 rfl (lv_at hl 2 rfl) ?_
                refine lv_iload_n hx hb dX5_aim_94 rfl (lv_at hl 1 rfl) ?_
                refine cw_Vi (As := [.int 0]) (rest := []) (c_X5_done l dC dI cI cZ cJ h F_27 G (va_up (va_up V 0 0) 8 0) 0) fx (cwV 1 hts gX5_aim_X5_done rfl rfl rfl (by decide +kernel) ⟨Nat.le_of_ble_eq_true rfl, Nat.le_of_ble_eq_true rfl⟩) hK hP hD hS hA 0 rfl rfl rfl rfl hl.1 rfl (Nat.le_of_ble_eq_true rfl) dX5_aim_95 ⟨Nat.le_of_ble_eq_true rfl, Nat.le_of_ble_eq_true rfl⟩ (fun r_29 u_30 H locs hw_31 hP hD hS => ?_)
                have hP : va_P (dC, dI) vwCl (wM cI cZ cJ h F_27 G (va_up (va_up (va_up V 0 0) 8 0) 1 0)) H := hP
                have hD : va_D A (wM cI cZ cJ h F_27 G (va_up (va_up (va_up V 0 0) 8 0) 1 0)) := hD
                obtain rfl : r_29 = 0 := hw_31
                exact hret 0 () H locs 98 ls rfl dX5_aim_98 (by first | rfl | (simp [a_0, c_4]; done) | (exfalso; omega)) (hP.sub [] rfl) (hD.sub [] (by decide) rfl) hS
              · exact absurd c_28 (by decide)
    · exact absurd c_11 (by decide)
  · have c_4 : isW p0 0 23 = false := bI_f hw_3 c_4
    refine lv_aload_n hx hb dX5_aim_12 rfl (lv_at hl 0 rfl) ?_
    refine lv_iconst (v := 2) hx hb dX5_aim_13 (by decide) ?_
    refine cw_Vi (As := [.int 2]) (rest := []) (c_X5_refused l dC dI cI cZ cJ h F G (va_up V 0 0) 2) fx (cwV 1 hts gX5_aim_X5_refused rfl rfl rfl (by decide +kernel) ⟨Nat.le_of_ble_eq_true rfl, Nat.le_of_ble_eq_true rfl⟩) hK hP hD hS hA 0 rfl rfl rfl rfl hl.1 rfl (Nat.le_of_ble_eq_true rfl) dX5_aim_14 ⟨Nat.le_of_ble_eq_true rfl, Nat.le_of_ble_eq_true rfl⟩ (fun r_32 u_33 H locs hw_34 hP hD hS => ?_)
    have hP : va_P (dC, dI) vwCl (wM cI cZ cJ h F G (va_up (va_up V 0 0) 1 2)) H := hP
    have hD : va_D A (wM cI cZ cJ h F G (va_up (va_up V 0 0) 1 2)) := hD
    obtain rfl : r_32 = (-1) := hw_34
    exact hret (-1) () H locs 17 ls rfl dX5_aim_17 (by first | rfl | (simp [a_0, c_4]; done) | (exfalso; omega)) (hP.sub [] rfl) (hD.sub [] (by decide) rfl) hS
def rm_X5_aimed : Room := { frames := 0, cells := 0, slots := 0, locals := 0 }
set_option maxHeartbeats 4000000 in
set_option maxRecDepth 100000 in
theorem c_X5_aimed (l : Launch) (dC : Nat → ClassId) (dI : Nat → Nat → Nat) (cI cZ cJ : ClassId) (h : Nat → Nat) (F : Nat → Nat → Int32) (G : Nat → Int64) (V : Nat → Int32) (p0 : Int32) (hV8 : V 8 = (-1)) : CtI l (dC, dI) vwCl (tys3 cI cZ cJ) yX5_aimed wsX5_aimed rm_X5_aimed [.ref (h 0), .int p0] (wM cI cZ cJ h F G V) (S := Unit) (fun r _ => r = (-1)) (fun _ => []) 0 0 := by
  refine ct_I (cc := cX5_aimed) (maxL := 2) (ty := .int) (own := RX5) (by decide) rfl rfl (Nat.le_of_ble_eq_true rfl) (lv := [(0, .ref (h 0)), (1, .int p0)]) rfl ?_
  intro p e s m args below meth c A Q ls fx hK hP hD hA hl hret
  obtain ⟨hx, hb, hml, hown, hts⟩ := id fx
  have hS : va_S A s.heap s.heap [] := va_S.rf
  have hw0 := hts (.fieldLink RX5 1 "MirrorTowerModel" "thrown" "I") (by decide +kernel)
  have hin_X5 : ∀ w ∈ u_ws RX5 TX5 33, w ∈ wsX5_aimed := by decide +kernel
  have hw2 := hts (.fieldLink RX5 65 "MirrorTowerModel" "aimedMirrors" "I") (by decide +kernel)
  obtain ⟨H, hH⟩ : ∃ H, H = s.heap := ⟨_, rfl⟩
  rw [← hH] at hP ⊢
  have hS : va_S A s.heap H [] := by rw [hH]; exact hS
  generalize ([] : List Loc) = locs at hS ⊢
  refine lv_aload_n hx hb dX5_aimed_0 rfl (lv_at hl 0 rfl) ?_
  refine lv_iconst (v := 0) hx hb dX5_aimed_1 (by decide) ?_
  refine va_put (D := (dC, dI)) (ci := 5) (v := .int 0) (ty := .int) (C := RX5) (T := TX5) (N := 33) hx hb hts hin_X5 tyX5 tyX5_ok nmX5 hown hK hP hD hS 0 rfl rfl 0 (by decide) hw0 (fun _ h9 => h9) rfl (by decide +kernel) rfl rfl (Nat.le_of_ble_eq_true rfl) dX5_aimed_2 (fun H locs hP hD hS => ?_)
  have hP : va_P (dC, dI) vwCl (wM cI cZ cJ h F G (va_up V 0 0)) H := hP
  have hD : va_D A (wM cI cZ cJ h F G (va_up V 0 0)) := hD
  refine lv_iload_n hx hb dX5_aimed_5 rfl (lv_at hl 1 rfl) ?_
  refine lv_if_lt (tgt := 26) hx hb dX5_aimed_6 (by decide) (fun c_1 => ?_) (fun c_1 => ?_)
  · have c_1 : ltI p0 0 = true := decide_eq_true c_1
    refine lv_iconst (v := (-1)) hx hb dX5_aimed_26 (by decide) ?_
    exact hret (-1) () H locs 27 ls rfl dX5_aimed_27 (by first | rfl | (simp [c_1]; done) | (exfalso; omega)) (hP.sub [] rfl) (hD.sub [] (by decide) rfl) hS
  · have c_1 : ltI p0 0 = false := decide_eq_false c_1
    refine lv_iload_n hx hb dX5_aimed_9 rfl (lv_at hl 1 rfl) ?_
    refine lv_aload_n hx hb dX5_aimed_10 rfl (lv_at hl 0 rfl) ?_
    refine va_get (D := (dC, dI)) (ci := 5) (v := .int (V 8)) (C := RX5) (T := TX5) (N := 33) hx hb hts hin_X5 hown hK hP 0 rfl rfl 23 (by decide) hw2 (fun _ h9 => h9) rfl dX5_aimed_11 ?_
    refine lv_topi (fun x_2 ex_2 => ?_)
    obtain rfl : x_2 = (-1) := ex_2.trans (hV8)
    refine lv_icmp_ge (tgt := 26) hx hb dX5_aimed_14 (by decide) (fun c_3 => ?_) (fun c_3 => ?_)
    · have c_3 : ltI p0 (-1) = false := decide_eq_false (Int32.not_lt.mpr c_3)
      refine lv_iconst (v := (-1)) hx hb dX5_aimed_26 (by decide) ?_
      exact hret (-1) () H locs 27 ls rfl dX5_aimed_27 (by first | rfl | (simp [c_1, c_3]; done) | (exfalso; omega)) (hP.sub [] rfl) (hD.sub [] (by decide) rfl) hS
    · exact absurd (Int32.lt_trans (Int32.not_le.mp c_3) (by decide)) (of_decide_eq_false c_1)
def rm_X5_face : Room := { frames := 1, cells := 0, slots := 0, locals := 22 }
set_option maxHeartbeats 4000000 in
set_option maxRecDepth 100000 in
theorem c_X5_face (l : Launch) (dC : Nat → ClassId) (dI : Nat → Nat → Nat) (cI cZ cJ : ClassId) (h : Nat → Nat) (F : Nat → Nat → Int32) (G : Nat → Int64) (V : Nat → Int32) (p0 : Int32)  (hF15 : ∀ i, i < 4 → F 15 i = 0) : CtI l (dC, dI) vwCl (tys3 cI cZ cJ) yX5_face wsX5_face rm_X5_face [.ref (h 0), .int p0] (wM cI cZ cJ h F G V) (S := Unit) (fun r _ => r = a_0 p0 0 3) (fun _ => []) 0 0 := by
  refine ct_I (cc := cX5_face) (maxL := 2) (ty := .int) (own := RX5) (by decide) rfl rfl (Nat.le_of_ble_eq_true rfl) (lv := [(0, .ref (h 0)), (1, .int p0)]) rfl ?_
  intro p e s m args below meth c A Q ls fx hK hP hD hA hl hret
  obtain ⟨hx, hb, hml, hown, hts⟩ := id fx
  have hS : va_S A s.heap s.heap [] := va_S.rf
  have hw0 := hts (.fieldLink RX5 1 "MirrorTowerModel" "thrown" "I") (by decide +kernel)
  have hin_X5 : ∀ w ∈ u_ws RX5 TX5 33, w ∈ wsX5_face := by decide +kernel
  have hw2 := hts (.fieldLink RX5 62 "MirrorTowerModel" "atFace" "[I") (by decide +kernel)
  obtain ⟨H, hH⟩ : ∃ H, H = s.heap := ⟨_, rfl⟩
  rw [← hH] at hP ⊢
  have hS : va_S A s.heap H [] := by rw [hH]; exact hS
  generalize ([] : List Loc) = locs at hS ⊢
  refine lv_aload_n hx hb dX5_face_0 rfl (lv_at hl 0 rfl) ?_
  refine lv_iconst (v := 0) hx hb dX5_face_1 (by decide) ?_
  refine va_put (D := (dC, dI)) (ci := 5) (v := .int 0) (ty := .int) (C := RX5) (T := TX5) (N := 33) hx hb hts hin_X5 tyX5 tyX5_ok nmX5 hown hK hP hD hS 0 rfl rfl 0 (by decide) hw0 (fun _ h9 => h9) rfl (by decide +kernel) rfl rfl (Nat.le_of_ble_eq_true rfl) dX5_face_2 (fun H locs hP hD hS => ?_)
  have hP : va_P (dC, dI) vwCl (wM cI cZ cJ h F G (va_up V 0 0)) H := hP
  have hD : va_D A (wM cI cZ cJ h F G (va_up V 0 0)) := hD
  refine lv_iload_n hx hb dX5_face_5 rfl (lv_at hl 1 rfl) ?_
  refine lv_iconst (v := 0) hx hb dX5_face_6 (by decide) ?_
  refine lv_iconst (v := 3) hx hb dX5_face_7 (by decide) ?_
  refine cw_Si (As := [.int p0, .int 0, .int 3]) (rest := []) (c_X5_in l dC dI cI cZ cJ (wM cI cZ cJ h F G (va_up V 0 0)) p0 0 3) fx (va_cwS 3 hts gX5_face_X5_in rfl rfl rfl (by decide +kernel) ⟨Nat.le_of_ble_eq_true rfl, Nat.le_of_ble_eq_true rfl⟩) hK hP hD hS hA rfl hl.1 rfl (Nat.le_of_ble_eq_true rfl) dX5_face_8 ⟨Nat.le_of_ble_eq_true rfl, Nat.le_of_ble_eq_true rfl⟩ (fun r_1 u_2 H locs hw_3 hP hD hS => ?_)
  have hP : va_P (dC, dI) vwCl (wM cI cZ cJ h F G (va_up V 0 0)) H := hP
  have hD : va_D A (wM cI cZ cJ h F G (va_up V 0 0)) := hD
  have hw_3 : r_1 = bI (isW p0 0 3) := hw_3
  refine lv_if_eq (tgt := 23) hx hb dX5_face_11 (by decide) (fun c_4 => ?_) (fun c_4 => ?_)
  · have c_4 : isW p0 0 3 = false := bI_f hw_3 c_4
    refine lv_iconst (v := (-1)) hx hb dX5_face_23 (by decide) ?_
    exact hret (-1) () H locs 24 ls rfl dX5_face_24 (by first | rfl | (simp [a_0, c_4]; done) | (exfalso; omega)) (hP.sub [] rfl) (hD.sub [] (by decide) rfl) hS
  · have c_4 : isW p0 0 3 = true := bI_t hw_3 c_4
    refine lv_aload_n hx hb dX5_face_14 rfl (lv_at hl 0 rfl) ?_
    refine va_get (D := (dC, dI)) (ci := 5) (v := .ref (h 15)) (C := RX5) (T := TX5) (N := 33) hx hb hts hin_X5 hown hK hP 0 rfl rfl 22 (by decide) hw2 (fun _ h9 => h9) rfl dX5_face_15 ?_
    refine lv_iload_n hx hb dX5_face_18 rfl (lv_at hl 1 rfl) ?_
    obtain ⟨k0, hk0, rfl⟩ := isW_nat (M := 3) (n := 3) (by decide) c_4
    refine va_iald hx hb hK hP 15 0 rfl rfl (vp_in_nI (n := k0) (N := 4) (by omega) (by decide)) dX5_face_19 ?_
    refine lv_topi (fun x_5 ex_5 => ?_)
    obtain rfl : x_5 = 0 := ex_5.trans ((congrArg (F 15) (show (nI k0).toNatClampNeg = k0 from nI_clamp (n := k0) (by omega))).trans (hF15 k0 (by omega)))
    refine lv_goto (tgt := 24) hx hb dX5_face_20 (by decide) ?_
    exact hret 0 () H locs 24 ls rfl dX5_face_24 (by first | rfl | (simp [a_0, c_4]; done) | (exfalso; omega)) (hP.sub [] rfl) (hD.sub [] (by decide) rfl) hS
def rm_X5_best : Room := { frames := 2, cells := 0, slots := 0, locals := 38 }
set_option maxHeartbeats 4000000 in
set_option maxRecDepth 100000 in
theorem c_X5_best (l : Launch) (dC : Nat → ClassId) (dI : Nat → Nat → Nat) (cI cZ cJ : ClassId) (h : Nat → Nat) (F : Nat → Nat → Int32) (G : Nat → Int64) (V : Nat → Int32) (p0 : Int32) (hV2 : V 2 = 0) : CtI l (dC, dI) vwCl (tys3 cI cZ cJ) yX5_best wsX5_best rm_X5_best [.ref (h 0), .int p0] (wM cI cZ cJ h F G V) (S := Unit) (fun r _ => r = a_0 p0 0 23) (fun _ => []) 0 0 := by
  refine ct_I (cc := cX5_best) (maxL := 3) (ty := .int) (own := RX5) (by decide) rfl rfl (Nat.le_of_ble_eq_true rfl) (lv := [(0, .ref (h 0)), (1, .int p0)]) rfl ?_
  intro p e s m args below meth c A Q ls fx hK hP hD hA hl hret
  obtain ⟨hx, hb, hml, hown, hts⟩ := id fx
  have hS : va_S A s.heap s.heap [] := va_S.rf
  have hw0 := hts (.fieldLink RX5 1 "MirrorTowerModel" "thrown" "I") (by decide +kernel)
  have hin_X5 : ∀ w ∈ u_ws RX5 TX5 33, w ∈ wsX5_best := by decide +kernel
  have hw2 := hts (.fieldLink RX5 53 "MirrorTowerModel" "left" "[I") (by decide +kernel)
  have hw3 := hts (.fieldLink RX5 29 "MirrorTowerModel" "limit" "[I") (by decide +kernel)
  have hw4 := hts (.fieldLink RX5 148 "MirrorTowerModel" "most" "I") (by decide +kernel)
  obtain ⟨H, hH⟩ : ∃ H, H = s.heap := ⟨_, rfl⟩
  rw [← hH] at hP ⊢
  have hS : va_S A s.heap H [] := by rw [hH]; exact hS
  generalize ([] : List Loc) = locs at hS ⊢
  refine lv_aload_n hx hb dX5_best_0 rfl (lv_at hl 0 rfl) ?_
  refine lv_iconst (v := 0) hx hb dX5_best_1 (by decide) ?_
  refine va_put (D := (dC, dI)) (ci := 5) (v := .int 0) (ty := .int) (C := RX5) (T := TX5) (N := 33) hx hb hts hin_X5 tyX5 tyX5_ok nmX5 hown hK hP hD hS 0 rfl rfl 0 (by decide) hw0 (fun _ h9 => h9) rfl (by decide +kernel) rfl rfl (Nat.le_of_ble_eq_true rfl) dX5_best_2 (fun H locs hP hD hS => ?_)
  have hP : va_P (dC, dI) vwCl (wM cI cZ cJ h F G (va_up V 0 0)) H := hP
  have hD : va_D A (wM cI cZ cJ h F G (va_up V 0 0)) := hD
  refine lv_iload_n hx hb dX5_best_5 rfl (lv_at hl 1 rfl) ?_
  refine cw_Si (As := [.int p0]) (rest := []) (c_X5_isHour l dC dI cI cZ cJ (wM cI cZ cJ h F G (va_up V 0 0)) p0) fx (va_cwS 1 hts gX5_best_X5_isHour rfl rfl rfl (by decide +kernel) ⟨Nat.le_of_ble_eq_true rfl, Nat.le_of_ble_eq_true rfl⟩) hK hP hD hS hA rfl hl.1 rfl (Nat.le_of_ble_eq_true rfl) dX5_best_6 ⟨Nat.le_of_ble_eq_true rfl, Nat.le_of_ble_eq_true rfl⟩ (fun r_1 u_2 H locs hw_3 hP hD hS => ?_)
  have hP : va_P (dC, dI) vwCl (wM cI cZ cJ h F G (va_up V 0 0)) H := hP
  have hD : va_D A (wM cI cZ cJ h F G (va_up V 0 0)) := hD
  have hw_3 : r_1 = bI (isW p0 0 23) := hw_3
  refine lv_if_ne (tgt := 18) hx hb dX5_best_9 (by decide) (fun c_4 => ?_) (fun c_4 => ?_)
  · have c_4 : isW p0 0 23 = true := bI_t hw_3 c_4
    refine lv_aload_n hx hb dX5_best_18 rfl (lv_at hl 0 rfl) ?_
    refine lv_iload_n hx hb dX5_best_19 rfl (lv_at hl 1 rfl) ?_
    refine lv_iconst (v := 0) hx hb dX5_best_20 (by decide) ?_
    refine cw_Vv (As := [.int p0, .int 0]) (rest := []) (c_X5_orders l dC dI cI cZ cJ h F G (va_up V 0 0) p0 0 hV2) fx (cwV 2 hts gX5_best_X5_orders rfl rfl rfl (by decide +kernel) ⟨Nat.le_of_ble_eq_true rfl, Nat.le_of_ble_eq_true rfl⟩) hK hP hD hS hA 0 rfl rfl rfl rfl hl.1 rfl (Nat.le_of_ble_eq_true rfl) dX5_best_21 ⟨Nat.le_of_ble_eq_true rfl, Nat.le_of_ble_eq_true rfl⟩ (fun u_6 H locs hw_7 hP hD hS => ?_)
    have hP : va_P (dC, dI) vwCl (wM cI cZ cJ h F G (va_up V 0 0)) H := hP
    have hD : va_D A (wM cI cZ cJ h F G (va_up V 0 0)) := hD
    refine lv_iconst (v := 0) hx hb dX5_best_24 (by decide) ?_
    refine lv_istore_n (lv' := [(2, .int 0), (0, .ref (h 0)), (1, .int p0)]) hx hb dX5_best_25 rfl hl (by decide) rfl (fun ls hl => ?_)
    refine lv_iload_n hx hb dX5_best_26 rfl (lv_at hl 0 rfl) ?_
    refine lv_iconst (v := 4) hx hb dX5_best_27 (by decide) ?_
    refine lv_icmp_ge (tgt := 49) hx hb dX5_best_28 (by decide) (fun c_8 => ?_) (fun c_8 => ?_)
    · exact absurd c_8 (by decide)
    · refine lv_aload_n hx hb dX5_best_31 rfl (lv_at hl 1 rfl) ?_
      refine va_get (D := (dC, dI)) (ci := 5) (v := .ref (h 12)) (C := RX5) (T := TX5) (N := 33) hx hb hts hin_X5 hown hK hP 0 rfl rfl 19 (by decide) hw2 (fun _ h9 => h9) rfl dX5_best_32 ?_
      refine lv_iload_n hx hb dX5_best_35 rfl (lv_at hl 0 rfl) ?_
      refine lv_aload_n hx hb dX5_best_36 rfl (lv_at hl 1 rfl) ?_
      refine va_get (D := (dC, dI)) (ci := 5) (v := .ref (h 4)) (C := RX5) (T := TX5) (N := 33) hx hb hts hin_X5 hown hK hP 0 rfl rfl 11 (by decide) hw3 (fun _ h9 => h9) rfl dX5_best_37 ?_
      refine lv_iload_n hx hb dX5_best_40 rfl (lv_at hl 0 rfl) ?_
      refine va_iald hx hb hK hP 4 0 rfl rfl (vp_in_nI (n := 0) (N := 4) (by decide) (by decide)) dX5_best_41 ?_
      refine lv_topi (fun x_9 ex_9 => ?_)
      refine va_iast hx hb hK hP hD hS 12 0 rfl rfl (vp_in_nI (n := 0) (N := 4) (by decide) (by decide)) dX5_best_42 (fun H locs hP hD hS => ?_)
      obtain ⟨F_10, eF_10⟩ : ∃ z : Nat → Nat → Int32, z = va_up F 12 (upd (F 12) (0 : Int32).toNatClampNeg x_9) := ⟨_, rfl⟩
      have hP : va_P (dC, dI) vwCl (wM cI cZ cJ h F_10 G (va_up V 0 0)) H := by rw [eF_10]; exact hP
      have hD : va_D A (wM cI cZ cJ h F_10 G (va_up V 0 0)) := by rw [eF_10]; exact hD
      refine lv_iinc (v := 1) (lv' := [(2, .int 1), (0, .ref (h 0)), (1, .int p0)]) hx hb dX5_best_43 hl (k := 0) rfl (by decide) (by decide) rfl (fun ls hl => ?_)
      refine lv_goto (tgt := 26) hx hb dX5_best_46 (by decide) ?_
      refine lv_iload_n hx hb dX5_best_26 rfl (lv_at hl 0 rfl) ?_
      refine lv_iconst (v := 4) hx hb dX5_best_27 (by decide) ?_
      refine lv_icmp_ge (tgt := 49) hx hb dX5_best_28 (by decide) (fun c_11 => ?_) (fun c_11 => ?_)
      · exact absurd c_11 (by decide)
      · refine lv_aload_n hx hb dX5_best_31 rfl (lv_at hl 1 rfl) ?_
        refine va_get (D := (dC, dI)) (ci := 5) (v := .ref (h 12)) (C := RX5) (T := TX5) (N := 33) hx hb hts hin_X5 hown hK hP 0 rfl rfl 19 (by decide) hw2 (fun _ h9 => h9) rfl dX5_best_32 ?_
        refine lv_iload_n hx hb dX5_best_35 rfl (lv_at hl 0 rfl) ?_
        refine lv_aload_n hx hb dX5_best_36 rfl (lv_at hl 1 rfl) ?_
        refine va_get (D := (dC, dI)) (ci := 5) (v := .ref (h 4)) (C := RX5) (T := TX5) (N := 33) hx hb hts hin_X5 hown hK hP 0 rfl rfl 11 (by decide) hw3 (fun _ h9 => h9) rfl dX5_best_37 ?_
        refine lv_iload_n hx hb dX5_best_40 rfl (lv_at hl 0 rfl) ?_
        refine va_iald hx hb hK hP 4 0 rfl rfl (vp_in_nI (n := 1) (N := 4) (by decide) (by decide)) dX5_best_41 ?_
        refine lv_topi (fun x_12 ex_12 => ?_)
        refine va_iast hx hb hK hP hD hS 12 0 rfl rfl (vp_in_nI (n := 1) (N := 4) (by decide) (by decide)) dX5_best_42 (fun H locs hP hD hS => ?_)
        obtain ⟨F_13, eF_13⟩ : ∃ z : Nat → Nat → Int32, z = va_up F_10 12 (upd (F_10 12) (1 : Int32).toNatClampNeg x_12) := ⟨_, rfl⟩
        have hP : va_P (dC, dI) vwCl (wM cI cZ cJ h F_13 G (va_up V 0 0)) H := by rw [eF_13]; exact hP
        have hD : va_D A (wM cI cZ cJ h F_13 G (va_up V 0 0)) := by rw [eF_13]; exact hD
        refine lv_iinc (v := 2) (lv' := [(2, .int 2), (0, .ref (h 0)), (1, .int p0)]) hx hb dX5_best_43 hl (k := 0) rfl (by decide) (by decide) rfl (fun ls hl => ?_)
        refine lv_goto (tgt := 26) hx hb dX5_best_46 (by decide) ?_
        refine lv_iload_n hx hb dX5_best_26 rfl (lv_at hl 0 rfl) ?_
        refine lv_iconst (v := 4) hx hb dX5_best_27 (by decide) ?_
        refine lv_icmp_ge (tgt := 49) hx hb dX5_best_28 (by decide) (fun c_14 => ?_) (fun c_14 => ?_)
        · exact absurd c_14 (by decide)
        · refine lv_aload_n hx hb dX5_best_31 rfl (lv_at hl 1 rfl) ?_
          refine va_get (D := (dC, dI)) (ci := 5) (v := .ref (h 12)) (C := RX5) (T := TX5) (N := 33) hx hb hts hin_X5 hown hK hP 0 rfl rfl 19 (by decide) hw2 (fun _ h9 => h9) rfl dX5_best_32 ?_
          refine lv_iload_n hx hb dX5_best_35 rfl (lv_at hl 0 rfl) ?_
          refine lv_aload_n hx hb dX5_best_36 rfl (lv_at hl 1 rfl) ?_
          refine va_get (D := (dC, dI)) (ci := 5) (v := .ref (h 4)) (C := RX5) (T := TX5) (N := 33) hx hb hts hin_X5 hown hK hP 0 rfl rfl 11 (by decide) hw3 (fun _ h9 => h9) rfl dX5_best_37 ?_
          refine lv_iload_n hx hb dX5_best_40 rfl (lv_at hl 0 rfl) ?_
          refine va_iald hx hb hK hP 4 0 rfl rfl (vp_in_nI (n := 2) (N := 4) (by decide) (by decide)) dX5_best_41 ?_
          refine lv_topi (fun x_15 ex_15 => ?_)
          refine va_iast hx hb hK hP hD hS 12 0 rfl rfl (vp_in_nI (n := 2) (N := 4) (by decide) (by decide)) dX5_best_42 (fun H locs hP hD hS => ?_)
          obtain ⟨F_16, eF_16⟩ : ∃ z : Nat → Nat → Int32, z = va_up F_13 12 (upd (F_13 12) (2 : Int32).toNatClampNeg x_15) := ⟨_, rfl⟩
          have hP : va_P (dC, dI) vwCl (wM cI cZ cJ h F_16 G (va_up V 0 0)) H := by rw [eF_16]; exact hP
          have hD : va_D A (wM cI cZ cJ h F_16 G (va_up V 0 0)) := by rw [eF_16]; exact hD
          refine lv_iinc (v := 3) (lv' := [(2, .int 3), (0, .ref (h 0)), (1, .int p0)]) hx hb dX5_best_43 hl (k := 0) rfl (by decide) (by decide) rfl (fun ls hl => ?_)
          refine lv_goto (tgt := 26) hx hb dX5_best_46 (by decide) ?_
          refine lv_iload_n hx hb dX5_best_26 rfl (lv_at hl 0 rfl) ?_
          refine lv_iconst (v := 4) hx hb dX5_best_27 (by decide) ?_
          refine lv_icmp_ge (tgt := 49) hx hb dX5_best_28 (by decide) (fun c_17 => ?_) (fun c_17 => ?_)
          · exact absurd c_17 (by decide)
          · refine lv_aload_n hx hb dX5_best_31 rfl (lv_at hl 1 rfl) ?_
            refine va_get (D := (dC, dI)) (ci := 5) (v := .ref (h 12)) (C := RX5) (T := TX5) (N := 33) hx hb hts hin_X5 hown hK hP 0 rfl rfl 19 (by decide) hw2 (fun _ h9 => h9) rfl dX5_best_32 ?_
            refine lv_iload_n hx hb dX5_best_35 rfl (lv_at hl 0 rfl) ?_
            refine lv_aload_n hx hb dX5_best_36 rfl (lv_at hl 1 rfl) ?_
            refine va_get (D := (dC, dI)) (ci := 5) (v := .ref (h 4)) (C := RX5) (T := TX5) (N := 33) hx hb hts hin_X5 hown hK hP 0 rfl rfl 11 (by decide) hw3 (fun _ h9 => h9) rfl dX5_best_37 ?_
            refine lv_iload_n hx hb dX5_best_40 rfl (lv_at hl 0 rfl) ?_
            refine va_iald hx hb hK hP 4 0 rfl rfl (vp_in_nI (n := 3) (N := 4) (by decide) (by decide)) dX5_best_41 ?_
            refine lv_topi (fun x_18 ex_18 => ?_)
            refine va_iast hx hb hK hP hD hS 12 0 rfl rfl (vp_in_nI (n := 3) (N := 4) (by decide) (by decide)) dX5_best_42 (fun H locs hP hD hS => ?_)
            obtain ⟨F_19, eF_19⟩ : ∃ z : Nat → Nat → Int32, z = va_up F_16 12 (upd (F_16 12) (3 : Int32).toNatClampNeg x_18) := ⟨_, rfl⟩
            have hP : va_P (dC, dI) vwCl (wM cI cZ cJ h F_19 G (va_up V 0 0)) H := by rw [eF_19]; exact hP
            have hD : va_D A (wM cI cZ cJ h F_19 G (va_up V 0 0)) := by rw [eF_19]; exact hD
            refine lv_iinc (v := 4) (lv' := [(2, .int 4), (0, .ref (h 0)), (1, .int p0)]) hx hb dX5_best_43 hl (k := 0) rfl (by decide) (by decide) rfl (fun ls hl => ?_)
            refine lv_goto (tgt := 26) hx hb dX5_best_46 (by decide) ?_
            refine lv_iload_n hx hb dX5_best_26 rfl (lv_at hl 0 rfl) ?_
            refine lv_iconst (v := 4) hx hb dX5_best_27 (by decide) ?_
            refine lv_icmp_ge (tgt := 49) hx hb dX5_best_28 (by decide) (fun c_20 => ?_) (fun c_20 => ?_)
            · refine lv_aload_n hx hb dX5_best_49 rfl (lv_at hl 1 rfl) ?_
              refine lv_iconst (v := 0) hx hb dX5_best_50 (by decide) ?_
              refine va_put (D := (dC, dI)) (ci := 5) (v := .int 0) (ty := .int) (C := RX5) (T := TX5) (N := 33) hx hb hts hin_X5 tyX5 tyX5_ok nmX5 hown hK hP hD hS 0 rfl rfl 24 (by decide) hw4 (fun _ h9 => h9) rfl (by decide +kernel) rfl rfl (Nat.le_of_ble_eq_true rfl) dX5_best_51 (fun H locs hP hD hS => ?_)
              have hP : va_P (dC, dI) vwCl (wM cI cZ cJ h F_19 G (va_up (va_up V 0 0) 9 0)) H := hP
              have hD : va_D A (wM cI cZ cJ h F_19 G (va_up (va_up V 0 0) 9 0)) := hD
              refine lv_aload_n hx hb dX5_best_54 rfl (lv_at hl 1 rfl) ?_
              refine lv_iconst (v := 0) hx hb dX5_best_55 (by decide) ?_
              refine lv_iconst (v := 0) hx hb dX5_best_56 (by decide) ?_
              refine cw_Vv (As := [.int 0, .int 0]) (rest := []) (c_X5_tries l dC dI cI cZ cJ h F_19 G (va_up (va_up V 0 0) 9 0) hV2 rfl) fx (cwV 2 hts gX5_best_X5_tries rfl rfl rfl (by decide +kernel) ⟨Nat.le_of_ble_eq_true rfl, Nat.le_of_ble_eq_true rfl⟩) hK hP hD hS hA 0 rfl rfl rfl rfl hl.1 rfl (Nat.le_of_ble_eq_true rfl) dX5_best_57 ⟨Nat.le_of_ble_eq_true rfl, Nat.le_of_ble_eq_true rfl⟩ (fun u_22 H locs hw_23 hP hD hS => ?_)
              have hP : va_P (dC, dI) vwCl (wM cI cZ cJ h F_19 G (va_up (va_up (va_up V 0 0) 9 0) 9 0)) H := hP
              have hD : va_D A (wM cI cZ cJ h F_19 G (va_up (va_up (va_up V 0 0) 9 0) 9 0)) := hD
              refine lv_aload_n hx hb dX5_best_60 rfl (lv_at hl 1 rfl) ?_
              refine lv_aload_n hx hb dX5_best_61 rfl (lv_at hl 1 rfl) ?_
              refine va_get (D := (dC, dI)) (ci := 5) (v := .int 0) (C := RX5) (T := TX5) (N := 33) hx hb hts hin_X5 hown hK hP 0 rfl rfl 24 (by decide) hw4 (fun _ h9 => h9) rfl dX5_best_62 ?_
              refine cw_Vi (As := [.int 0]) (rest := []) (c_X5_done l dC dI cI cZ cJ h F_19 G (va_up (va_up (va_up V 0 0) 9 0) 9 0) 0) fx (cwV 1 hts gX5_best_X5_done rfl rfl rfl (by decide +kernel) ⟨Nat.le_of_ble_eq_true rfl, Nat.le_of_ble_eq_true rfl⟩) hK hP hD hS hA 0 rfl rfl rfl rfl hl.1 rfl (Nat.le_of_ble_eq_true rfl) dX5_best_65 ⟨Nat.le_of_ble_eq_true rfl, Nat.le_of_ble_eq_true rfl⟩ (fun r_24 u_25 H locs hw_26 hP hD hS => ?_)
              have hP : va_P (dC, dI) vwCl (wM cI cZ cJ h F_19 G (va_up (va_up (va_up (va_up V 0 0) 9 0) 9 0) 1 0)) H := hP
              have hD : va_D A (wM cI cZ cJ h F_19 G (va_up (va_up (va_up (va_up V 0 0) 9 0) 9 0) 1 0)) := hD
              obtain rfl : r_24 = 0 := hw_26
              exact hret 0 () H locs 68 ls rfl dX5_best_68 (by first | rfl | (simp [a_0, c_4]; done) | (exfalso; omega)) (hP.sub [] rfl) (hD.sub [] (by decide) rfl) hS
            · exact absurd c_20 (by decide)
  · have c_4 : isW p0 0 23 = false := bI_f hw_3 c_4
    refine lv_aload_n hx hb dX5_best_12 rfl (lv_at hl 0 rfl) ?_
    refine lv_iconst (v := 2) hx hb dX5_best_13 (by decide) ?_
    refine cw_Vi (As := [.int 2]) (rest := []) (c_X5_refused l dC dI cI cZ cJ h F G (va_up V 0 0) 2) fx (cwV 1 hts gX5_best_X5_refused rfl rfl rfl (by decide +kernel) ⟨Nat.le_of_ble_eq_true rfl, Nat.le_of_ble_eq_true rfl⟩) hK hP hD hS hA 0 rfl rfl rfl rfl hl.1 rfl (Nat.le_of_ble_eq_true rfl) dX5_best_14 ⟨Nat.le_of_ble_eq_true rfl, Nat.le_of_ble_eq_true rfl⟩ (fun r_27 u_28 H locs hw_29 hP hD hS => ?_)
    have hP : va_P (dC, dI) vwCl (wM cI cZ cJ h F G (va_up (va_up V 0 0) 1 2)) H := hP
    have hD : va_D A (wM cI cZ cJ h F G (va_up (va_up V 0 0) 1 2)) := hD
    obtain rfl : r_27 = (-1) := hw_29
    exact hret (-1) () H locs 17 ls rfl dX5_best_17 (by first | rfl | (simp [a_0, c_4]; done) | (exfalso; omega)) (hP.sub [] rfl) (hD.sub [] (by decide) rfl) hS
def rm_X5_comes : Room := { frames := 2, cells := 0, slots := 0, locals := 51 }
set_option maxHeartbeats 4000000 in
set_option maxRecDepth 100000 in
theorem c_X5_comes (l : Launch) (dC : Nat → ClassId) (dI : Nat → Nat → Nat) (cI cZ cJ : ClassId) (h : Nat → Nat) (F : Nat → Nat → Int32) (G : Nat → Int64) (V : Nat → Int32) (p0 : Int32) (hV2 : V 2 = 0) (hV3 : V 3 = 0) : CtI l (dC, dI) vwCl (tys3 cI cZ cJ) yX5_comes wsX5_comes rm_X5_comes [.ref (h 0), .int p0] (wM cI cZ cJ h F G V) (S := Unit) (fun r _ => r = a_0 p0 0 23) (fun _ => []) 0 0 := by
  refine ct_I (cc := cX5_comes) (maxL := 2) (ty := .int) (own := RX5) (by decide) rfl rfl (Nat.le_of_ble_eq_true rfl) (lv := [(0, .ref (h 0)), (1, .int p0)]) rfl ?_
  intro p e s m args below meth c A Q ls fx hK hP hD hA hl hret
  obtain ⟨hx, hb, hml, hown, hts⟩ := id fx
  have hS : va_S A s.heap s.heap [] := va_S.rf
  have hw0 := hts (.fieldLink RX5 1 "MirrorTowerModel" "thrown" "I") (by decide +kernel)
  have hin_X5 : ∀ w ∈ u_ws RX5 TX5 33, w ∈ wsX5_comes := by decide +kernel
  have hw2 := hts (.fieldLink RX5 154 "MirrorTowerModel" "now" "I") (by decide +kernel)
  have hw3 := hts (.fieldLink RX5 16 "MirrorTowerModel" "dust" "I") (by decide +kernel)
  obtain ⟨H, hH⟩ : ∃ H, H = s.heap := ⟨_, rfl⟩
  rw [← hH] at hP ⊢
  have hS : va_S A s.heap H [] := by rw [hH]; exact hS
  generalize ([] : List Loc) = locs at hS ⊢
  refine lv_aload_n hx hb dX5_comes_0 rfl (lv_at hl 0 rfl) ?_
  refine lv_iconst (v := 0) hx hb dX5_comes_1 (by decide) ?_
  refine va_put (D := (dC, dI)) (ci := 5) (v := .int 0) (ty := .int) (C := RX5) (T := TX5) (N := 33) hx hb hts hin_X5 tyX5 tyX5_ok nmX5 hown hK hP hD hS 0 rfl rfl 0 (by decide) hw0 (fun _ h9 => h9) rfl (by decide +kernel) rfl rfl (Nat.le_of_ble_eq_true rfl) dX5_comes_2 (fun H locs hP hD hS => ?_)
  have hP : va_P (dC, dI) vwCl (wM cI cZ cJ h F G (va_up V 0 0)) H := hP
  have hD : va_D A (wM cI cZ cJ h F G (va_up V 0 0)) := hD
  refine lv_iload_n hx hb dX5_comes_5 rfl (lv_at hl 1 rfl) ?_
  refine lv_aload_n hx hb dX5_comes_6 rfl (lv_at hl 0 rfl) ?_
  refine va_get (D := (dC, dI)) (ci := 5) (v := .int (V 3)) (C := RX5) (T := TX5) (N := 33) hx hb hts hin_X5 hown hK hP 0 rfl rfl 3 (by decide) hw2 (fun _ h9 => h9) rfl dX5_comes_7 ?_
  refine lv_topi (fun x_1 ex_1 => ?_)
  obtain rfl : x_1 = 0 := ex_1.trans (hV3)
  refine lv_bipush (v := 23) hx hb dX5_comes_10 (by decide) ?_
  refine cw_Si (As := [.int p0, .int 0, .int 23]) (rest := []) (c_X5_in l dC dI cI cZ cJ (wM cI cZ cJ h F G (va_up V 0 0)) p0 0 23) fx (va_cwS 3 hts gX5_comes_X5_in rfl rfl rfl (by decide +kernel) ⟨Nat.le_of_ble_eq_true rfl, Nat.le_of_ble_eq_true rfl⟩) hK hP hD hS hA rfl hl.1 rfl (Nat.le_of_ble_eq_true rfl) dX5_comes_12 ⟨Nat.le_of_ble_eq_true rfl, Nat.le_of_ble_eq_true rfl⟩ (fun r_2 u_3 H locs hw_4 hP hD hS => ?_)
  have hP : va_P (dC, dI) vwCl (wM cI cZ cJ h F G (va_up V 0 0)) H := hP
  have hD : va_D A (wM cI cZ cJ h F G (va_up V 0 0)) := hD
  have hw_4 : r_2 = bI (isW p0 0 23) := hw_4
  refine lv_if_eq (tgt := 37) hx hb dX5_comes_15 (by decide) (fun c_5 => ?_) (fun c_5 => ?_)
  · have c_5 : isW p0 0 23 = false := bI_f hw_4 c_5
    refine lv_iconst (v := (-1)) hx hb dX5_comes_37 (by decide) ?_
    exact hret (-1) () H locs 38 ls rfl dX5_comes_38 (by first | rfl | (simp [a_0, c_5]; done) | (exfalso; omega)) (hP.sub [] rfl) (hD.sub [] (by decide) rfl) hS
  · have c_5 : isW p0 0 23 = true := bI_t hw_4 c_5
    refine lv_aload_n hx hb dX5_comes_18 rfl (lv_at hl 0 rfl) ?_
    refine lv_iload_n hx hb dX5_comes_19 rfl (lv_at hl 1 rfl) ?_
    refine lv_aload_n hx hb dX5_comes_20 rfl (lv_at hl 0 rfl) ?_
    refine va_get (D := (dC, dI)) (ci := 5) (v := .int (V 6)) (C := RX5) (T := TX5) (N := 33) hx hb hts hin_X5 hown hK hP 0 rfl rfl 6 (by decide) hw3 (fun _ h9 => h9) rfl dX5_comes_21 ?_
    refine lv_iload_n hx hb dX5_comes_24 rfl (lv_at hl 1 rfl) ?_
    refine lv_aload_n hx hb dX5_comes_25 rfl (lv_at hl 0 rfl) ?_
    refine va_get (D := (dC, dI)) (ci := 5) (v := .int (V 3)) (C := RX5) (T := TX5) (N := 33) hx hb hts hin_X5 hown hK hP 0 rfl rfl 3 (by decide) hw2 (fun _ h9 => h9) rfl dX5_comes_26 ?_
    refine lv_topi (fun x_6 ex_6 => ?_)
    obtain rfl : x_6 = 0 := ex_6.trans (hV3)
    refine lv_isub hx hb dX5_comes_29 ?_
    refine lv_imul hx hb dX5_comes_30 ?_
    refine cw_Vi (As := [.int p0, .int ((V 6) * (p0 - 0))]) (rest := []) (c_X5_aims l dC dI cI cZ cJ h F G (va_up V 0 0) p0 ((V 6) * (p0 - 0)) hV2) fx (cwV 2 hts gX5_comes_X5_aims rfl rfl rfl (by decide +kernel) ⟨Nat.le_of_ble_eq_true rfl, Nat.le_of_ble_eq_true rfl⟩) hK hP hD hS hA 0 rfl rfl rfl rfl hl.1 rfl (Nat.le_of_ble_eq_true rfl) dX5_comes_31 ⟨Nat.le_of_ble_eq_true rfl, Nat.le_of_ble_eq_true rfl⟩ (fun r_7 u_8 H locs hw_9 hP hD hS => ?_)
    obtain ⟨F_10, rfl⟩ : ∃ z, z = u_8 := ⟨_, rfl⟩
    have hP : va_P (dC, dI) vwCl (wM cI cZ cJ h F_10 G (va_up V 0 0)) H := hP
    have hD : va_D A (wM cI cZ cJ h F_10 G (va_up V 0 0)) := hD
    obtain rfl : r_7 = 0 := hw_9.1
    refine lv_goto (tgt := 38) hx hb dX5_comes_34 (by decide) ?_
    exact hret 0 () H locs 38 ls rfl dX5_comes_38 (by first | rfl | (simp [a_0, c_5]; done) | (exfalso; omega)) (hP.sub [] rfl) (hD.sub [] (by decide) rfl) hS
def rm_X5_earned : Room := { frames := 0, cells := 0, slots := 0, locals := 0 }
set_option maxHeartbeats 4000000 in
set_option maxRecDepth 100000 in
theorem c_X5_earned (l : Launch) (dC : Nat → ClassId) (dI : Nat → Nat → Nat) (cI cZ cJ : ClassId) (h : Nat → Nat) (F : Nat → Nat → Int32) (G : Nat → Int64) (V : Nat → Int32)  (hV5 : V 5 = 0) : CtI l (dC, dI) vwCl (tys3 cI cZ cJ) yX5_earned wsX5_earned rm_X5_earned [.ref (h 0)] (wM cI cZ cJ h F G V) (S := Unit) (fun r _ => r = 0) (fun _ => []) 0 0 := by
  refine ct_I (cc := cX5_earned) (maxL := 1) (ty := .int) (own := RX5) (by decide) rfl rfl (Nat.le_of_ble_eq_true rfl) (lv := [(0, .ref (h 0))]) rfl ?_
  intro p e s m args below meth c A Q ls fx hK hP hD hA hl hret
  obtain ⟨hx, hb, hml, hown, hts⟩ := id fx
  have hS : va_S A s.heap s.heap [] := va_S.rf
  have hw0 := hts (.fieldLink RX5 1 "MirrorTowerModel" "thrown" "I") (by decide +kernel)
  have hin_X5 : ∀ w ∈ u_ws RX5 TX5 33, w ∈ wsX5_earned := by decide +kernel
  have hw2 := hts (.fieldLink RX5 175 "MirrorTowerModel" "earned" "I") (by decide +kernel)
  obtain ⟨H, hH⟩ : ∃ H, H = s.heap := ⟨_, rfl⟩
  rw [← hH] at hP ⊢
  have hS : va_S A s.heap H [] := by rw [hH]; exact hS
  generalize ([] : List Loc) = locs at hS ⊢
  refine lv_aload_n hx hb dX5_earned_0 rfl (lv_at hl 0 rfl) ?_
  refine lv_iconst (v := 0) hx hb dX5_earned_1 (by decide) ?_
  refine va_put (D := (dC, dI)) (ci := 5) (v := .int 0) (ty := .int) (C := RX5) (T := TX5) (N := 33) hx hb hts hin_X5 tyX5 tyX5_ok nmX5 hown hK hP hD hS 0 rfl rfl 0 (by decide) hw0 (fun _ h9 => h9) rfl (by decide +kernel) rfl rfl (Nat.le_of_ble_eq_true rfl) dX5_earned_2 (fun H locs hP hD hS => ?_)
  have hP : va_P (dC, dI) vwCl (wM cI cZ cJ h F G (va_up V 0 0)) H := hP
  have hD : va_D A (wM cI cZ cJ h F G (va_up V 0 0)) := hD
  refine lv_aload_n hx hb dX5_earned_5 rfl (lv_at hl 0 rfl) ?_
  refine va_get (D := (dC, dI)) (ci := 5) (v := .int (V 5)) (C := RX5) (T := TX5) (N := 33) hx hb hts hin_X5 hown hK hP 0 rfl rfl 5 (by decide) hw2 (fun _ h9 => h9) rfl dX5_earned_6 ?_
  refine lv_topi (fun x_1 ex_1 => ?_)
  obtain rfl : x_1 = 0 := ex_1.trans (hV5)
  exact hret 0 () H locs 9 ls rfl dX5_earned_9 (by first | rfl | (simp []; done) | (exfalso; omega)) (hP.sub [] rfl) (hD.sub [] (by decide) rfl) hS
def rm_X5_step0 : Room := { frames := 2, cells := 0, slots := 0, locals := 51 }
set_option maxHeartbeats 4000000 in
set_option maxRecDepth 100000 in
theorem c_X5_step0 (l : Launch) (dC : Nat → ClassId) (dI : Nat → Nat → Nat) (cI cZ cJ : ClassId) (h : Nat → Nat) (F : Nat → Nat → Int32) (G : Nat → Int64) (V : Nat → Int32)  (hV2 : V 2 = 0) (hV3 : V 3 = 0) (hV4 : V 4 = 0) (hV5 : V 5 = 0) (hV7 : V 7 = 0) : CtI l (dC, dI) vwCl (tys3 cI cZ cJ) yX5_step wsX5_step rm_X5_step0 [.ref (h 0), .int 0] (wM cI cZ cJ h F G V) (S := Unit) (fun r _ => r = 0) (fun _ => []) 0 0 := by
  refine ct_I (cc := cX5_step) (maxL := 5) (ty := .int) (own := RX5) (by decide) rfl rfl (Nat.le_of_ble_eq_true rfl) (lv := [(0, .ref (h 0)), (1, .int 0)]) rfl ?_
  intro p e s m args below meth c A Q ls fx hK hP hD hA hl hret
  obtain ⟨hx, hb, hml, hown, hts⟩ := id fx
  have hS : va_S A s.heap s.heap [] := va_S.rf
  have hw0 := hts (.fieldLink RX5 1 "MirrorTowerModel" "thrown" "I") (by decide +kernel)
  have hin_X5 : ∀ w ∈ u_ws RX5 TX5 33, w ∈ wsX5_step := by decide +kernel
  have hw2 := hts (.fieldLink RX5 168 "MirrorTowerModel" "store" "I") (by decide +kernel)
  have hw3 := hts (.fieldLink RX5 154 "MirrorTowerModel" "now" "I") (by decide +kernel)
  have hw4 := hts (.fieldLink RX5 171 "MirrorTowerModel" "isWarm" "Z") (by decide +kernel)
  have hw5 := hts (.fieldLink RX5 175 "MirrorTowerModel" "earned" "I") (by decide +kernel)
  have hw6 := hts (.fieldLink RX5 91 "MirrorTowerModel" "mirrors" "I") (by decide +kernel)
  obtain ⟨H, hH⟩ : ∃ H, H = s.heap := ⟨_, rfl⟩
  rw [← hH] at hP ⊢
  have hS : va_S A s.heap H [] := by rw [hH]; exact hS
  generalize ([] : List Loc) = locs at hS ⊢
  refine lv_aload_n hx hb dX5_step_0 rfl (lv_at hl 0 rfl) ?_
  refine lv_iconst (v := 0) hx hb dX5_step_1 (by decide) ?_
  refine va_put (D := (dC, dI)) (ci := 5) (v := .int 0) (ty := .int) (C := RX5) (T := TX5) (N := 33) hx hb hts hin_X5 tyX5 tyX5_ok nmX5 hown hK hP hD hS 0 rfl rfl 0 (by decide) hw0 (fun _ h9 => h9) rfl (by decide +kernel) rfl rfl (Nat.le_of_ble_eq_true rfl) dX5_step_2 (fun H locs hP hD hS => ?_)
  have hP : va_P (dC, dI) vwCl (wM cI cZ cJ h F G (va_up V 0 0)) H := hP
  have hD : va_D A (wM cI cZ cJ h F G (va_up V 0 0)) := hD
  refine lv_aload_n hx hb dX5_step_5 rfl (lv_at hl 0 rfl) ?_
  refine va_get (D := (dC, dI)) (ci := 5) (v := .int (V 4)) (C := RX5) (T := TX5) (N := 33) hx hb hts hin_X5 hown hK hP 0 rfl rfl 4 (by decide) hw2 (fun _ h9 => h9) rfl dX5_step_6 ?_
  refine lv_topi (fun x_1 ex_1 => ?_)
  obtain rfl : x_1 = 0 := ex_1.trans (hV4)
  refine lv_aload_n hx hb dX5_step_9 rfl (lv_at hl 0 rfl) ?_
  refine lv_aload_n hx hb dX5_step_10 rfl (lv_at hl 0 rfl) ?_
  refine va_get (D := (dC, dI)) (ci := 5) (v := .int (V 3)) (C := RX5) (T := TX5) (N := 33) hx hb hts hin_X5 hown hK hP 0 rfl rfl 3 (by decide) hw3 (fun _ h9 => h9) rfl dX5_step_11 ?_
  refine lv_topi (fun x_2 ex_2 => ?_)
  obtain rfl : x_2 = 0 := ex_2.trans (hV3)
  refine lv_iconst (v := 0) hx hb dX5_step_14 (by decide) ?_
  refine cw_Vi (As := [.int 0, .int 0]) (rest := [.int 0]) (c_X5_aims l dC dI cI cZ cJ h F G (va_up V 0 0) 0 0 hV2) fx (cwV 2 hts gX5_step_X5_aims rfl rfl rfl (by decide +kernel) ⟨Nat.le_of_ble_eq_true rfl, Nat.le_of_ble_eq_true rfl⟩) hK hP hD hS hA 0 rfl rfl rfl rfl hl.1 rfl (Nat.le_of_ble_eq_true rfl) dX5_step_15 ⟨Nat.le_of_ble_eq_true rfl, Nat.le_of_ble_eq_true rfl⟩ (fun r_3 u_4 H locs hw_5 hP hD hS => ?_)
  obtain ⟨F_6, rfl⟩ : ∃ z, z = u_4 := ⟨_, rfl⟩
  have hP : va_P (dC, dI) vwCl (wM cI cZ cJ h F_6 G (va_up V 0 0)) H := hP
  have hD : va_D A (wM cI cZ cJ h F_6 G (va_up V 0 0)) := hD
  obtain rfl : r_3 = 0 := hw_5.1
  refine lv_bipush (v := 100) hx hb dX5_step_18 (by decide) ?_
  refine lv_idiv hx hb dX5_step_20 (by decide) ?_
  refine lv_topi (fun x_7 ex_7 => ?_)
  obtain rfl : x_7 = 0 := ex_7.trans (by decide)
  refine cw_Si (As := [.int 0, .int 0]) (rest := []) (c_X5_filled l dC dI cI cZ cJ (wM cI cZ cJ h F_6 G (va_up V 0 0)) 0 0 (by omega)) fx (va_cwS 2 hts gX5_step_X5_filled rfl rfl rfl (by decide +kernel) ⟨Nat.le_of_ble_eq_true rfl, Nat.le_of_ble_eq_true rfl⟩) hK hP hD hS hA rfl hl.1 rfl (Nat.le_of_ble_eq_true rfl) dX5_step_21 ⟨Nat.le_of_ble_eq_true rfl, Nat.le_of_ble_eq_true rfl⟩ (fun r_8 u_9 H locs hw_10 hP hD hS => ?_)
  have hP : va_P (dC, dI) vwCl (wM cI cZ cJ h F_6 G (va_up V 0 0)) H := hP
  have hD : va_D A (wM cI cZ cJ h F_6 G (va_up V 0 0)) := hD
  obtain rfl : r_8 = 0 := hw_10
  refine lv_istore_n (lv' := [(2, .int 0), (0, .ref (h 0)), (1, .int 0)]) hx hb dX5_step_24 rfl hl (by decide) rfl (fun ls hl => ?_)
  refine lv_iload_n hx hb dX5_step_25 rfl (lv_at hl 2 rfl) ?_
  refine lv_if_eq (tgt := 46) hx hb dX5_step_26 (by decide) (fun c_11 => ?_) (fun c_11 => ?_)
  · refine lv_iload_n hx hb dX5_step_46 rfl (lv_at hl 2 rfl) ?_
    refine lv_if_eq (tgt := 64) hx hb dX5_step_47 (by decide) (fun c_12 => ?_) (fun c_12 => ?_)
    · refine lv_iconst (v := 0) hx hb dX5_step_64 (by decide) ?_
      refine lv_istore_n (lv' := [(3, .int 0), (2, .int 0), (0, .ref (h 0)), (1, .int 0)]) hx hb dX5_step_65 rfl hl (by decide) rfl (fun ls hl => ?_)
      refine lv_aload_n hx hb dX5_step_66 rfl (lv_at hl 2 rfl) ?_
      refine lv_iload_n hx hb dX5_step_67 rfl (lv_at hl 3 rfl) ?_
      refine lv_if_eq (tgt := 83) hx hb dX5_step_68 (by decide) (fun c_13 => ?_) (fun c_13 => ?_)
      · refine lv_iload_n hx hb dX5_step_83 rfl (lv_at hl 1 rfl) ?_
        refine va_put (D := (dC, dI)) (ci := 5) (v := .int 0) (ty := .int) (C := RX5) (T := TX5) (N := 33) hx hb hts hin_X5 tyX5 tyX5_ok nmX5 hown hK hP hD hS 0 rfl rfl 4 (by decide) hw2 (fun _ h9 => h9) rfl (by decide +kernel) rfl rfl (Nat.le_of_ble_eq_true rfl) dX5_step_84 (fun H locs hP hD hS => ?_)
        have hP : va_P (dC, dI) vwCl (wM cI cZ cJ h F_6 G (va_up (va_up V 0 0) 4 0)) H := hP
        have hD : va_D A (wM cI cZ cJ h F_6 G (va_up (va_up V 0 0) 4 0)) := hD
        refine lv_aload_n hx hb dX5_step_87 rfl (lv_at hl 2 rfl) ?_
        refine lv_iload_n hx hb dX5_step_88 rfl (lv_at hl 3 rfl) ?_
        refine va_put (D := (dC, dI)) (ci := 5) (v := .int 0) (ty := .boolean) (C := RX5) (T := TX5) (N := 33) hx hb hts hin_X5 tyX5 tyX5_ok nmX5 hown hK hP hD hS 0 rfl rfl 7 (by decide) hw4 (fun _ h9 => h9) rfl (by decide +kernel) rfl rfl (Nat.le_of_ble_eq_true rfl) dX5_step_89 (fun H locs hP hD hS => ?_)
        have hP : va_P (dC, dI) vwCl (wM cI cZ cJ h F_6 G (va_up (va_up (va_up V 0 0) 4 0) 7 0)) H := hP
        have hD : va_D A (wM cI cZ cJ h F_6 G (va_up (va_up (va_up V 0 0) 4 0) 7 0)) := hD
        refine lv_aload_n hx hb dX5_step_92 rfl (lv_at hl 2 rfl) ?_
        refine lv_dup hx hb dX5_step_93 rfl ?_
        refine va_get (D := (dC, dI)) (ci := 5) (v := .int (V 5)) (C := RX5) (T := TX5) (N := 33) hx hb hts hin_X5 hown hK hP 0 rfl rfl 5 (by decide) hw5 (fun _ h9 => h9) rfl dX5_step_94 ?_
        refine lv_topi (fun x_14 ex_14 => ?_)
        obtain rfl : x_14 = 0 := ex_14.trans (hV5)
        refine lv_iload_n hx hb dX5_step_97 rfl (lv_at hl 0 rfl) ?_
        refine lv_iadd hx hb dX5_step_98 ?_
        refine lv_topi (fun x_15 ex_15 => ?_)
        obtain rfl : x_15 = 0 := ex_15.trans (by decide)
        refine va_put (D := (dC, dI)) (ci := 5) (v := .int 0) (ty := .int) (C := RX5) (T := TX5) (N := 33) hx hb hts hin_X5 tyX5 tyX5_ok nmX5 hown hK hP hD hS 0 rfl rfl 5 (by decide) hw5 (fun _ h9 => h9) rfl (by decide +kernel) rfl rfl (Nat.le_of_ble_eq_true rfl) dX5_step_99 (fun H locs hP hD hS => ?_)
        have hP : va_P (dC, dI) vwCl (wM cI cZ cJ h F_6 G (va_up (va_up (va_up (va_up V 0 0) 4 0) 7 0) 5 0)) H := hP
        have hD : va_D A (wM cI cZ cJ h F_6 G (va_up (va_up (va_up (va_up V 0 0) 4 0) 7 0) 5 0)) := hD
        refine lv_iconst (v := 0) hx hb dX5_step_102 (by decide) ?_
        refine lv_istore (lv' := [(4, .int 0), (3, .int 0), (2, .int 0), (0, .ref (h 0)), (1, .int 0)]) hx hb dX5_step_103 hl (by decide) rfl (fun ls hl => ?_)
        refine lv_iload hx hb dX5_step_105 (lv_at hl 0 rfl) ?_
        refine lv_aload_n hx hb dX5_step_107 rfl (lv_at hl 3 rfl) ?_
        refine va_get (D := (dC, dI)) (ci := 5) (v := .int (V 2)) (C := RX5) (T := TX5) (N := 33) hx hb hts hin_X5 hown hK hP 0 rfl rfl 2 (by decide) hw6 (fun _ h9 => h9) rfl dX5_step_108 ?_
        refine lv_topi (fun x_16 ex_16 => ?_)
        obtain rfl : x_16 = 0 := ex_16.trans (hV2)
        refine lv_icmp_ge (tgt := 144) hx hb dX5_step_111 (by decide) (fun c_17 => ?_) (fun c_17 => ?_)
        · refine lv_aload_n hx hb dX5_step_144 rfl (lv_at hl 3 rfl) ?_
          refine lv_aload_n hx hb dX5_step_145 rfl (lv_at hl 3 rfl) ?_
          refine va_get (D := (dC, dI)) (ci := 5) (v := .int (V 3)) (C := RX5) (T := TX5) (N := 33) hx hb hts hin_X5 hown hK hP 0 rfl rfl 3 (by decide) hw3 (fun _ h9 => h9) rfl dX5_step_146 ?_
          refine lv_topi (fun x_18 ex_18 => ?_)
          obtain rfl : x_18 = 0 := ex_18.trans (hV3)
          refine lv_iconst (v := 1) hx hb dX5_step_149 (by decide) ?_
          refine lv_iadd hx hb dX5_step_150 ?_
          refine lv_topi (fun x_19 ex_19 => ?_)
          obtain rfl : x_19 = 1 := ex_19.trans (by decide)
          refine lv_bipush (v := 24) hx hb dX5_step_151 (by decide) ?_
          refine lv_irem hx hb dX5_step_153 (by decide) ?_
          refine lv_topi (fun x_20 ex_20 => ?_)
          obtain rfl : x_20 = 1 := ex_20.trans (by decide)
          refine va_put (D := (dC, dI)) (ci := 5) (v := .int 1) (ty := .int) (C := RX5) (T := TX5) (N := 33) hx hb hts hin_X5 tyX5 tyX5_ok nmX5 hown hK hP hD hS 0 rfl rfl 3 (by decide) hw3 (fun _ h9 => h9) rfl (by decide +kernel) rfl rfl (Nat.le_of_ble_eq_true rfl) dX5_step_154 (fun H locs hP hD hS => ?_)
          have hP : va_P (dC, dI) vwCl (wM cI cZ cJ h F_6 G (va_up (va_up (va_up (va_up (va_up V 0 0) 4 0) 7 0) 5 0) 3 1)) H := hP
          have hD : va_D A (wM cI cZ cJ h F_6 G (va_up (va_up (va_up (va_up (va_up V 0 0) 4 0) 7 0) 5 0) 3 1)) := hD
          refine lv_aload_n hx hb dX5_step_157 rfl (lv_at hl 3 rfl) ?_
          refine lv_iload_n hx hb dX5_step_158 rfl (lv_at hl 1 rfl) ?_
          refine cw_Vi (As := [.int 0]) (rest := []) (c_X5_done l dC dI cI cZ cJ h F_6 G (va_up (va_up (va_up (va_up (va_up V 0 0) 4 0) 7 0) 5 0) 3 1) 0) fx (cwV 1 hts gX5_step_X5_done rfl rfl rfl (by decide +kernel) ⟨Nat.le_of_ble_eq_true rfl, Nat.le_of_ble_eq_true rfl⟩) hK hP hD hS hA 0 rfl rfl rfl rfl hl.1 rfl (Nat.le_of_ble_eq_true rfl) dX5_step_159 ⟨Nat.le_of_ble_eq_true rfl, Nat.le_of_ble_eq_true rfl⟩ (fun r_21 u_22 H locs hw_23 hP hD hS => ?_)
          have hP : va_P (dC, dI) vwCl (wM cI cZ cJ h F_6 G (va_up (va_up (va_up (va_up (va_up (va_up V 0 0) 4 0) 7 0) 5 0) 3 1) 1 0)) H := hP
          have hD : va_D A (wM cI cZ cJ h F_6 G (va_up (va_up (va_up (va_up (va_up (va_up V 0 0) 4 0) 7 0) 5 0) 3 1) 1 0)) := hD
          obtain rfl : r_21 = 0 := hw_23
          exact hret 0 () H locs 162 ls rfl dX5_step_162 (by first | rfl | (simp []; done) | (exfalso; omega)) (hP.sub [] rfl) (hD.sub [] (by decide) rfl) hS
        · exact absurd c_17 (by decide)
      · exact absurd c_13 (by decide)
    · exact absurd c_12 (by decide)
  · exact absurd c_11 (by decide)
def rm_X5_step1 : Room := { frames := 2, cells := 0, slots := 0, locals := 51 }
set_option maxHeartbeats 4000000 in
set_option maxRecDepth 100000 in
theorem c_X5_step1 (l : Launch) (dC : Nat → ClassId) (dI : Nat → Nat → Nat) (cI cZ cJ : ClassId) (h : Nat → Nat) (F : Nat → Nat → Int32) (G : Nat → Int64) (V : Nat → Int32)  (hV2 : V 2 = 0) (hV3 : V 3 = 0) (hV4 : V 4 = 0) (hV5 : V 5 = 0) (hV7 : V 7 = 0) : CtI l (dC, dI) vwCl (tys3 cI cZ cJ) yX5_step wsX5_step rm_X5_step1 [.ref (h 0), .int 1] (wM cI cZ cJ h F G V) (S := Unit) (fun r _ => r = (-1)) (fun _ => []) 0 0 := by
  refine ct_I (cc := cX5_step) (maxL := 5) (ty := .int) (own := RX5) (by decide) rfl rfl (Nat.le_of_ble_eq_true rfl) (lv := [(0, .ref (h 0)), (1, .int 1)]) rfl ?_
  intro p e s m args below meth c A Q ls fx hK hP hD hA hl hret
  obtain ⟨hx, hb, hml, hown, hts⟩ := id fx
  have hS : va_S A s.heap s.heap [] := va_S.rf
  have hw0 := hts (.fieldLink RX5 1 "MirrorTowerModel" "thrown" "I") (by decide +kernel)
  have hin_X5 : ∀ w ∈ u_ws RX5 TX5 33, w ∈ wsX5_step := by decide +kernel
  have hw2 := hts (.fieldLink RX5 168 "MirrorTowerModel" "store" "I") (by decide +kernel)
  have hw3 := hts (.fieldLink RX5 154 "MirrorTowerModel" "now" "I") (by decide +kernel)
  have hw4 := hts (.fieldLink RX5 171 "MirrorTowerModel" "isWarm" "Z") (by decide +kernel)
  obtain ⟨H, hH⟩ : ∃ H, H = s.heap := ⟨_, rfl⟩
  rw [← hH] at hP ⊢
  have hS : va_S A s.heap H [] := by rw [hH]; exact hS
  generalize ([] : List Loc) = locs at hS ⊢
  refine lv_aload_n hx hb dX5_step_0 rfl (lv_at hl 0 rfl) ?_
  refine lv_iconst (v := 0) hx hb dX5_step_1 (by decide) ?_
  refine va_put (D := (dC, dI)) (ci := 5) (v := .int 0) (ty := .int) (C := RX5) (T := TX5) (N := 33) hx hb hts hin_X5 tyX5 tyX5_ok nmX5 hown hK hP hD hS 0 rfl rfl 0 (by decide) hw0 (fun _ h9 => h9) rfl (by decide +kernel) rfl rfl (Nat.le_of_ble_eq_true rfl) dX5_step_2 (fun H locs hP hD hS => ?_)
  have hP : va_P (dC, dI) vwCl (wM cI cZ cJ h F G (va_up V 0 0)) H := hP
  have hD : va_D A (wM cI cZ cJ h F G (va_up V 0 0)) := hD
  refine lv_aload_n hx hb dX5_step_5 rfl (lv_at hl 0 rfl) ?_
  refine va_get (D := (dC, dI)) (ci := 5) (v := .int (V 4)) (C := RX5) (T := TX5) (N := 33) hx hb hts hin_X5 hown hK hP 0 rfl rfl 4 (by decide) hw2 (fun _ h9 => h9) rfl dX5_step_6 ?_
  refine lv_topi (fun x_1 ex_1 => ?_)
  obtain rfl : x_1 = 0 := ex_1.trans (hV4)
  refine lv_aload_n hx hb dX5_step_9 rfl (lv_at hl 0 rfl) ?_
  refine lv_aload_n hx hb dX5_step_10 rfl (lv_at hl 0 rfl) ?_
  refine va_get (D := (dC, dI)) (ci := 5) (v := .int (V 3)) (C := RX5) (T := TX5) (N := 33) hx hb hts hin_X5 hown hK hP 0 rfl rfl 3 (by decide) hw3 (fun _ h9 => h9) rfl dX5_step_11 ?_
  refine lv_topi (fun x_2 ex_2 => ?_)
  obtain rfl : x_2 = 0 := ex_2.trans (hV3)
  refine lv_iconst (v := 0) hx hb dX5_step_14 (by decide) ?_
  refine cw_Vi (As := [.int 0, .int 0]) (rest := [.int 0]) (c_X5_aims l dC dI cI cZ cJ h F G (va_up V 0 0) 0 0 hV2) fx (cwV 2 hts gX5_step_X5_aims rfl rfl rfl (by decide +kernel) ⟨Nat.le_of_ble_eq_true rfl, Nat.le_of_ble_eq_true rfl⟩) hK hP hD hS hA 0 rfl rfl rfl rfl hl.1 rfl (Nat.le_of_ble_eq_true rfl) dX5_step_15 ⟨Nat.le_of_ble_eq_true rfl, Nat.le_of_ble_eq_true rfl⟩ (fun r_3 u_4 H locs hw_5 hP hD hS => ?_)
  obtain ⟨F_6, rfl⟩ : ∃ z, z = u_4 := ⟨_, rfl⟩
  have hP : va_P (dC, dI) vwCl (wM cI cZ cJ h F_6 G (va_up V 0 0)) H := hP
  have hD : va_D A (wM cI cZ cJ h F_6 G (va_up V 0 0)) := hD
  obtain rfl : r_3 = 0 := hw_5.1
  refine lv_bipush (v := 100) hx hb dX5_step_18 (by decide) ?_
  refine lv_idiv hx hb dX5_step_20 (by decide) ?_
  refine lv_topi (fun x_7 ex_7 => ?_)
  obtain rfl : x_7 = 0 := ex_7.trans (by decide)
  refine cw_Si (As := [.int 0, .int 0]) (rest := []) (c_X5_filled l dC dI cI cZ cJ (wM cI cZ cJ h F_6 G (va_up V 0 0)) 0 0 (by omega)) fx (va_cwS 2 hts gX5_step_X5_filled rfl rfl rfl (by decide +kernel) ⟨Nat.le_of_ble_eq_true rfl, Nat.le_of_ble_eq_true rfl⟩) hK hP hD hS hA rfl hl.1 rfl (Nat.le_of_ble_eq_true rfl) dX5_step_21 ⟨Nat.le_of_ble_eq_true rfl, Nat.le_of_ble_eq_true rfl⟩ (fun r_8 u_9 H locs hw_10 hP hD hS => ?_)
  have hP : va_P (dC, dI) vwCl (wM cI cZ cJ h F_6 G (va_up V 0 0)) H := hP
  have hD : va_D A (wM cI cZ cJ h F_6 G (va_up V 0 0)) := hD
  obtain rfl : r_8 = 0 := hw_10
  refine lv_istore_n (lv' := [(2, .int 0), (0, .ref (h 0)), (1, .int 1)]) hx hb dX5_step_24 rfl hl (by decide) rfl (fun ls hl => ?_)
  refine lv_iload_n hx hb dX5_step_25 rfl (lv_at hl 2 rfl) ?_
  refine lv_if_eq (tgt := 46) hx hb dX5_step_26 (by decide) (fun c_11 => ?_) (fun c_11 => ?_)
  · exact absurd c_11 (by decide)
  · refine lv_iload_n hx hb dX5_step_29 rfl (lv_at hl 0 rfl) ?_
    refine lv_aload_n hx hb dX5_step_30 rfl (lv_at hl 1 rfl) ?_
    refine va_get (D := (dC, dI)) (ci := 5) (v := .int (V 7)) (C := RX5) (T := TX5) (N := 33) hx hb hts hin_X5 hown hK hP 0 rfl rfl 7 (by decide) hw4 (fun _ h9 => h9) rfl dX5_step_31 ?_
    refine lv_topi (fun x_12 ex_12 => ?_)
    obtain rfl : x_12 = 0 := ex_12.trans (hV7)
    refine cw_Si (As := [.int 0]) (rest := [.int 0]) (c_X5_takes l dC dI cI cZ cJ (wM cI cZ cJ h F_6 G (va_up V 0 0)) 0) fx (va_cwS 1 hts gX5_step_X5_takes rfl rfl rfl (by decide +kernel) ⟨Nat.le_of_ble_eq_true rfl, Nat.le_of_ble_eq_true rfl⟩) hK hP hD hS hA rfl hl.1 rfl (Nat.le_of_ble_eq_true rfl) dX5_step_34 ⟨Nat.le_of_ble_eq_true rfl, Nat.le_of_ble_eq_true rfl⟩ (fun r_13 u_14 H locs hw_15 hP hD hS => ?_)
    have hP : va_P (dC, dI) vwCl (wM cI cZ cJ h F_6 G (va_up V 0 0)) H := hP
    have hD : va_D A (wM cI cZ cJ h F_6 G (va_up V 0 0)) := hD
    obtain rfl : r_13 = 7 := Eq.trans hw_15 (by decide)
    refine lv_icmp_ge (tgt := 46) hx hb dX5_step_37 (by decide) (fun c_16 => ?_) (fun c_16 => ?_)
    · exact absurd c_16 (by decide)
    · refine lv_aload_n hx hb dX5_step_40 rfl (lv_at hl 1 rfl) ?_
      refine lv_iconst (v := 2) hx hb dX5_step_41 (by decide) ?_
      refine cw_Vi (As := [.int 2]) (rest := []) (c_X5_refused l dC dI cI cZ cJ h F_6 G (va_up V 0 0) 2) fx (cwV 1 hts gX5_step_X5_refused rfl rfl rfl (by decide +kernel) ⟨Nat.le_of_ble_eq_true rfl, Nat.le_of_ble_eq_true rfl⟩) hK hP hD hS hA 0 rfl rfl rfl rfl hl.1 rfl (Nat.le_of_ble_eq_true rfl) dX5_step_42 ⟨Nat.le_of_ble_eq_true rfl, Nat.le_of_ble_eq_true rfl⟩ (fun r_17 u_18 H locs hw_19 hP hD hS => ?_)
      have hP : va_P (dC, dI) vwCl (wM cI cZ cJ h F_6 G (va_up (va_up V 0 0) 1 2)) H := hP
      have hD : va_D A (wM cI cZ cJ h F_6 G (va_up (va_up V 0 0) 1 2)) := hD
      obtain rfl : r_17 = (-1) := hw_19
      exact hret (-1) () H locs 45 ls rfl dX5_step_45 (by first | rfl | (simp []; done) | (exfalso; omega)) (hP.sub [] rfl) (hD.sub [] (by decide) rfl) hS
def rm_X5_runs : Room := { frames := 1, cells := 0, slots := 0, locals := 22 }
set_option maxHeartbeats 4000000 in
set_option maxRecDepth 100000 in
theorem c_X5_runs (l : Launch) (dC : Nat → ClassId) (dI : Nat → Nat → Nat) (cI cZ cJ : ClassId) (h : Nat → Nat) (F : Nat → Nat → Int32) (G : Nat → Int64) (V : Nat → Int32) (p0 : Int32) (hV10 : V 10 = 24) : CtI l (dC, dI) vwCl (tys3 cI cZ cJ) yX5_runs wsX5_runs rm_X5_runs [.ref (h 0), .int p0] (wM cI cZ cJ h F G V) (S := Unit) (fun r _ => r = (-1)) (fun _ => []) 0 0 := by
  refine ct_I (cc := cX5_runs) (maxL := 2) (ty := .int) (own := RX5) (by decide) rfl rfl (Nat.le_of_ble_eq_true rfl) (lv := [(0, .ref (h 0)), (1, .int p0)]) rfl ?_
  intro p e s m args below meth c A Q ls fx hK hP hD hA hl hret
  obtain ⟨hx, hb, hml, hown, hts⟩ := id fx
  have hS : va_S A s.heap s.heap [] := va_S.rf
  have hw0 := hts (.fieldLink RX5 1 "MirrorTowerModel" "thrown" "I") (by decide +kernel)
  have hin_X5 : ∀ w ∈ u_ws RX5 TX5 33, w ∈ wsX5_runs := by decide +kernel
  have hw2 := hts (.fieldLink RX5 75 "MirrorTowerModel" "planFrom" "I") (by decide +kernel)
  obtain ⟨H, hH⟩ : ∃ H, H = s.heap := ⟨_, rfl⟩
  rw [← hH] at hP ⊢
  have hS : va_S A s.heap H [] := by rw [hH]; exact hS
  generalize ([] : List Loc) = locs at hS ⊢
  refine lv_aload_n hx hb dX5_runs_0 rfl (lv_at hl 0 rfl) ?_
  refine lv_iconst (v := 0) hx hb dX5_runs_1 (by decide) ?_
  refine va_put (D := (dC, dI)) (ci := 5) (v := .int 0) (ty := .int) (C := RX5) (T := TX5) (N := 33) hx hb hts hin_X5 tyX5 tyX5_ok nmX5 hown hK hP hD hS 0 rfl rfl 0 (by decide) hw0 (fun _ h9 => h9) rfl (by decide +kernel) rfl rfl (Nat.le_of_ble_eq_true rfl) dX5_runs_2 (fun H locs hP hD hS => ?_)
  have hP : va_P (dC, dI) vwCl (wM cI cZ cJ h F G (va_up V 0 0)) H := hP
  have hD : va_D A (wM cI cZ cJ h F G (va_up V 0 0)) := hD
  refine lv_iload_n hx hb dX5_runs_5 rfl (lv_at hl 1 rfl) ?_
  refine lv_aload_n hx hb dX5_runs_6 rfl (lv_at hl 0 rfl) ?_
  refine va_get (D := (dC, dI)) (ci := 5) (v := .int (V 10)) (C := RX5) (T := TX5) (N := 33) hx hb hts hin_X5 hown hK hP 0 rfl rfl 27 (by decide) hw2 (fun _ h9 => h9) rfl dX5_runs_7 ?_
  refine lv_topi (fun x_1 ex_1 => ?_)
  obtain rfl : x_1 = 24 := ex_1.trans (hV10)
  refine lv_bipush (v := 23) hx hb dX5_runs_10 (by decide) ?_
  refine cw_Si (As := [.int p0, .int 24, .int 23]) (rest := []) (c_X5_in l dC dI cI cZ cJ (wM cI cZ cJ h F G (va_up V 0 0)) p0 24 23) fx (va_cwS 3 hts gX5_runs_X5_in rfl rfl rfl (by decide +kernel) ⟨Nat.le_of_ble_eq_true rfl, Nat.le_of_ble_eq_true rfl⟩) hK hP hD hS hA rfl hl.1 rfl (Nat.le_of_ble_eq_true rfl) dX5_runs_12 ⟨Nat.le_of_ble_eq_true rfl, Nat.le_of_ble_eq_true rfl⟩ (fun r_2 u_3 H locs hw_4 hP hD hS => ?_)
  have hP : va_P (dC, dI) vwCl (wM cI cZ cJ h F G (va_up V 0 0)) H := hP
  have hD : va_D A (wM cI cZ cJ h F G (va_up V 0 0)) := hD
  have hw_4 : r_2 = bI (isW p0 24 23) := hw_4
  refine lv_if_eq (tgt := 35) hx hb dX5_runs_15 (by decide) (fun c_5 => ?_) (fun c_5 => ?_)
  · have c_5 : isW p0 24 23 = false := bI_f hw_4 c_5
    refine lv_iconst (v := (-1)) hx hb dX5_runs_35 (by decide) ?_
    exact hret (-1) () H locs 36 ls rfl dX5_runs_36 (by first | rfl | (simp [c_5]; done) | (exfalso; omega)) (hP.sub [] rfl) (hD.sub [] (by decide) rfl) hS
  · exact absurd (bI_t hw_4 c_5) (by rw [isW_emp]; decide)
theorem and_m1 (x : Int64) : x &&& ((((1 : Int64) <<< ((0 : Int32).toInt64 &&& 63)) - 1) ^^^ (-1)) = x := by
  rw [show (((1 : Int64) <<< ((0 : Int32).toInt64 &&& 63)) - 1) ^^^ (-1) = -1 from by decide]
  simp
def rm_X5_shot : Room := { frames := 1, cells := 0, slots := 0, locals := 24 }
set_option maxHeartbeats 4000000 in
set_option maxRecDepth 100000 in
theorem c_X5_shot (l : Launch) (dC : Nat → ClassId) (dI : Nat → Nat → Nat) (cI cZ cJ : ClassId) (h : Nat → Nat) (F : Nat → Nat → Int32) (G : Nat → Int64) (V : Nat → Int32) (p0 p1 p2 : Int32) (hV2 : V 2 = 0) : CtI l (dC, dI) vwCl (tys3 cI cZ cJ) yX5_shot wsX5_shot rm_X5_shot [.ref (h 0), .int p0, .int p1, .int p2] (wM cI cZ cJ h F G V) (S := Unit) (fun r _ => r = (-1)) (fun _ => []) 0 0 := by
  refine ct_I (cc := cX5_shot) (maxL := 6) (ty := .int) (own := RX5) (by decide) rfl rfl (Nat.le_of_ble_eq_true rfl) (lv := [(0, .ref (h 0)), (1, .int p0), (2, .int p1), (3, .int p2)]) rfl ?_
  intro p e s m args below meth c A Q ls fx hK hP hD hA hl hret
  obtain ⟨hx, hb, hml, hown, hts⟩ := id fx
  have hS : va_S A s.heap s.heap [] := va_S.rf
  have hw0 := hts (.fieldLink RX5 1 "MirrorTowerModel" "thrown" "I") (by decide +kernel)
  have hin_X5 : ∀ w ∈ u_ws RX5 TX5 33, w ∈ wsX5_shot := by decide +kernel
  have hw2 := hts (.constantLong RX5 178 (4294967295)) (by decide +kernel)
  have hw3 := hts (.fieldLink RX5 91 "MirrorTowerModel" "mirrors" "I") (by decide +kernel)
  have hw4 := hts (.constantLong RX5 184 (-1)) (by decide +kernel)
  obtain ⟨H, hH⟩ : ∃ H, H = s.heap := ⟨_, rfl⟩
  rw [← hH] at hP ⊢
  have hS : va_S A s.heap H [] := by rw [hH]; exact hS
  generalize ([] : List Loc) = locs at hS ⊢
  refine lv_aload_n hx hb dX5_shot_0 rfl (lv_at hl 0 rfl) ?_
  refine lv_iconst (v := 0) hx hb dX5_shot_1 (by decide) ?_
  refine va_put (D := (dC, dI)) (ci := 5) (v := .int 0) (ty := .int) (C := RX5) (T := TX5) (N := 33) hx hb hts hin_X5 tyX5 tyX5_ok nmX5 hown hK hP hD hS 0 rfl rfl 0 (by decide) hw0 (fun _ h9 => h9) rfl (by decide +kernel) rfl rfl (Nat.le_of_ble_eq_true rfl) dX5_shot_2 (fun H locs hP hD hS => ?_)
  have hP : va_P (dC, dI) vwCl (wM cI cZ cJ h F G (va_up V 0 0)) H := hP
  have hD : va_D A (wM cI cZ cJ h F G (va_up V 0 0)) := hD
  refine lv_iload_n hx hb dX5_shot_5 rfl (lv_at hl 2 rfl) ?_
  refine lv_i2l hx hb dX5_shot_6 rfl ?_
  refine lv_bipush (v := 32) hx hb dX5_shot_7 (by decide) ?_
  refine lv_lshl hx hb dX5_shot_9 rfl ?_
  refine lv_topl (fun z_1 ez_1 => ?_)
  refine lv_iload_n hx hb dX5_shot_10 rfl (lv_at hl 1 rfl) ?_
  refine lv_i2l hx hb dX5_shot_11 rfl ?_
  refine lv_ldc2 hx hb hown hw2 dX5_shot_12 ?_
  refine lv_land hx hb dX5_shot_15 ?_
  refine lv_topl (fun z_2 ez_2 => ?_)
  refine lv_lor hx hb dX5_shot_16 ?_
  refine lv_topl (fun z_3 ez_3 => ?_)
  refine lv_lstore (lv' := [(4, .long z_3), (0, .ref (h 0)), (1, .int p0), (2, .int p1), (3, .int p2)]) hx hb dX5_shot_17 hl (by decide) rfl (fun ls hl => ?_)
  refine lv_iload_n hx hb dX5_shot_19 rfl (lv_at hl 4 rfl) ?_
  refine lv_if_lt (tgt := 32) hx hb dX5_shot_20 (by decide) (fun c_4 => ?_) (fun c_4 => ?_)
  · have c_4 : ltI p2 0 = true := decide_eq_true c_4
    refine lv_aload_n hx hb dX5_shot_32 rfl (lv_at hl 1 rfl) ?_
    refine lv_iconst (v := 2) hx hb dX5_shot_33 (by decide) ?_
    refine cw_Vi (As := [.int 2]) (rest := []) (c_X5_refused l dC dI cI cZ cJ h F G (va_up V 0 0) 2) fx (cwV 1 hts gX5_shot_X5_refused rfl rfl rfl (by decide +kernel) ⟨Nat.le_of_ble_eq_true rfl, Nat.le_of_ble_eq_true rfl⟩) hK hP hD hS hA 0 rfl rfl rfl rfl hl.1 rfl (Nat.le_of_ble_eq_true rfl) dX5_shot_34 ⟨Nat.le_of_ble_eq_true rfl, Nat.le_of_ble_eq_true rfl⟩ (fun r_5 u_6 H locs hw_7 hP hD hS => ?_)
    have hP : va_P (dC, dI) vwCl (wM cI cZ cJ h F G (va_up (va_up V 0 0) 1 2)) H := hP
    have hD : va_D A (wM cI cZ cJ h F G (va_up (va_up V 0 0) 1 2)) := hD
    obtain rfl : r_5 = (-1) := hw_7
    exact hret (-1) () H locs 37 ls rfl dX5_shot_37 (by first | rfl | (simp [c_4]; done) | (exfalso; omega)) (hP.sub [] rfl) (hD.sub [] (by decide) rfl) hS
  · have c_4 : ltI p2 0 = false := decide_eq_false c_4
    refine lv_iload_n hx hb dX5_shot_23 rfl (lv_at hl 4 rfl) ?_
    refine lv_lload hx hb dX5_shot_24 (lv_at hl 0 rfl) ?_
    refine cw_Si (As := [.long z_3]) (rest := [.int p2]) (c_X5_bits l dC dI cI cZ cJ (wM cI cZ cJ h F G (va_up V 0 0)) z_3) fx (va_cwS 1 hts gX5_shot_X5_bits rfl rfl rfl (by decide +kernel) ⟨Nat.le_of_ble_eq_true rfl, Nat.le_of_ble_eq_true rfl⟩) hK hP hD hS hA rfl hl.1 rfl (Nat.le_of_ble_eq_true rfl) dX5_shot_26 ⟨Nat.le_of_ble_eq_true rfl, Nat.le_of_ble_eq_true rfl⟩ (fun r_8 u_9 H locs hw_10 hP hD hS => ?_)
    have hP : va_P (dC, dI) vwCl (wM cI cZ cJ h F G (va_up V 0 0)) H := hP
    have hD : va_D A (wM cI cZ cJ h F G (va_up V 0 0)) := hD
    refine lv_icmp_le (tgt := 38) hx hb dX5_shot_29 (by decide) (fun c_11 => ?_) (fun c_11 => ?_)
    · have c_11 : ltI r_8 p2 = false := decide_eq_false (Int32.not_lt.mpr c_11)
      refine lv_lload hx hb dX5_shot_38 (lv_at hl 0 rfl) ?_
      refine lv_lconst (v := 0) hx hb dX5_shot_40 (by decide) ?_
      refine W.lcmp hx hb dX5_shot_41 ?_
      refine lv_if_eq (tgt := 65) hx hb dX5_shot_42 (by decide) (fun c_12 => ?_) (fun c_12 => ?_)
      · have c_12 : eqI (lg_cmp z_3 0) 0 = true := decide_eq_true c_12
        refine lv_aload_n hx hb dX5_shot_65 rfl (lv_at hl 1 rfl) ?_
        refine lv_iconst (v := 4) hx hb dX5_shot_66 (by decide) ?_
        refine cw_Vi (As := [.int 4]) (rest := []) (c_X5_refused l dC dI cI cZ cJ h F G (va_up V 0 0) 4) fx (cwV 1 hts gX5_shot_X5_refused rfl rfl rfl (by decide +kernel) ⟨Nat.le_of_ble_eq_true rfl, Nat.le_of_ble_eq_true rfl⟩) hK hP hD hS hA 0 rfl rfl rfl rfl hl.1 rfl (Nat.le_of_ble_eq_true rfl) dX5_shot_67 ⟨Nat.le_of_ble_eq_true rfl, Nat.le_of_ble_eq_true rfl⟩ (fun r_13 u_14 H locs hw_15 hP hD hS => ?_)
        have hP : va_P (dC, dI) vwCl (wM cI cZ cJ h F G (va_up (va_up V 0 0) 1 4)) H := hP
        have hD : va_D A (wM cI cZ cJ h F G (va_up (va_up V 0 0) 1 4)) := hD
        obtain rfl : r_13 = (-1) := hw_15
        exact hret (-1) () H locs 70 ls rfl dX5_shot_70 (by first | rfl | (simp [c_4, c_11, c_12]; done) | (exfalso; omega)) (hP.sub [] rfl) (hD.sub [] (by decide) rfl) hS
      · have c_12 : eqI (lg_cmp z_3 0) 0 = false := decide_eq_false c_12
        refine lv_lload hx hb dX5_shot_45 (lv_at hl 0 rfl) ?_
        refine lv_lconst (v := 1) hx hb dX5_shot_47 (by decide) ?_
        refine lv_aload_n hx hb dX5_shot_48 rfl (lv_at hl 1 rfl) ?_
        refine va_get (D := (dC, dI)) (ci := 5) (v := .int (V 2)) (C := RX5) (T := TX5) (N := 33) hx hb hts hin_X5 hown hK hP 0 rfl rfl 2 (by decide) hw3 (fun _ h9 => h9) rfl dX5_shot_49 ?_
        refine lv_topi (fun x_16 ex_16 => ?_)
        obtain rfl : x_16 = 0 := ex_16.trans (hV2)
        refine lv_lshl hx hb dX5_shot_52 rfl ?_
        refine lv_topl (fun z_17 ez_17 => ?_)
        refine lv_lconst (v := 1) hx hb dX5_shot_53 (by decide) ?_
        refine lv_lsub hx hb dX5_shot_54 ?_
        refine lv_topl (fun z_18 ez_18 => ?_)
        refine lv_ldc2 hx hb hown hw4 dX5_shot_55 ?_
        refine lv_lxor hx hb dX5_shot_58 ?_
        refine lv_topl (fun z_19 ez_19 => ?_)
        refine lv_land hx hb dX5_shot_59 ?_
        refine lv_topl (fun z_20 ez_20 => ?_)
        refine lv_lconst (v := 0) hx hb dX5_shot_60 (by decide) ?_
        refine W.lcmp hx hb dX5_shot_61 ?_
        refine lv_if_eq (tgt := 71) hx hb dX5_shot_62 (by decide) (fun c_21 => ?_) (fun c_21 => ?_)
        · exact absurd (show eqI (lg_cmp z_3 0) 0 = true from by rw [show z_3 = 0 from (show z_20 = z_3 from by rw [ez_20, ez_19, ez_18, ez_17]; exact and_m1 z_3).symm.trans (lg_eq0 c_21), lg_self]; decide) (by rw [c_12]; decide)
        · have c_21 : eqI (lg_cmp z_20 0) 0 = false := decide_eq_false c_21
          refine lv_aload_n hx hb dX5_shot_65 rfl (lv_at hl 1 rfl) ?_
          refine lv_iconst (v := 4) hx hb dX5_shot_66 (by decide) ?_
          refine cw_Vi (As := [.int 4]) (rest := []) (c_X5_refused l dC dI cI cZ cJ h F G (va_up V 0 0) 4) fx (cwV 1 hts gX5_shot_X5_refused rfl rfl rfl (by decide +kernel) ⟨Nat.le_of_ble_eq_true rfl, Nat.le_of_ble_eq_true rfl⟩) hK hP hD hS hA 0 rfl rfl rfl rfl hl.1 rfl (Nat.le_of_ble_eq_true rfl) dX5_shot_67 ⟨Nat.le_of_ble_eq_true rfl, Nat.le_of_ble_eq_true rfl⟩ (fun r_22 u_23 H locs hw_24 hP hD hS => ?_)
          have hP : va_P (dC, dI) vwCl (wM cI cZ cJ h F G (va_up (va_up V 0 0) 1 4)) H := hP
          have hD : va_D A (wM cI cZ cJ h F G (va_up (va_up V 0 0) 1 4)) := hD
          obtain rfl : r_22 = (-1) := hw_24
          exact hret (-1) () H locs 70 ls rfl dX5_shot_70 (by first | rfl | (simp [c_4, c_11, c_12, c_21]; done) | (exfalso; omega)) (hP.sub [] rfl) (hD.sub [] (by decide) rfl) hS
    · have c_11 : ltI r_8 p2 = true := decide_eq_true (Int32.not_le.mp c_11)
      refine lv_aload_n hx hb dX5_shot_32 rfl (lv_at hl 1 rfl) ?_
      refine lv_iconst (v := 2) hx hb dX5_shot_33 (by decide) ?_
      refine cw_Vi (As := [.int 2]) (rest := []) (c_X5_refused l dC dI cI cZ cJ h F G (va_up V 0 0) 2) fx (cwV 1 hts gX5_shot_X5_refused rfl rfl rfl (by decide +kernel) ⟨Nat.le_of_ble_eq_true rfl, Nat.le_of_ble_eq_true rfl⟩) hK hP hD hS hA 0 rfl rfl rfl rfl hl.1 rfl (Nat.le_of_ble_eq_true rfl) dX5_shot_34 ⟨Nat.le_of_ble_eq_true rfl, Nat.le_of_ble_eq_true rfl⟩ (fun r_25 u_26 H locs hw_27 hP hD hS => ?_)
      have hP : va_P (dC, dI) vwCl (wM cI cZ cJ h F G (va_up (va_up V 0 0) 1 2)) H := hP
      have hD : va_D A (wM cI cZ cJ h F G (va_up (va_up V 0 0) 1 2)) := hD
      obtain rfl : r_25 = (-1) := hw_27
      exact hret (-1) () H locs 37 ls rfl dX5_shot_37 (by first | rfl | (simp [c_4, c_11]; done) | (exfalso; omega)) (hP.sub [] rfl) (hD.sub [] (by decide) rfl) hS
def rm_X5_forget : Room := { frames := 0, cells := 0, slots := 0, locals := 0 }
set_option maxHeartbeats 4000000 in
set_option maxRecDepth 100000 in
theorem c_X5_forget (l : Launch) (dC : Nat → ClassId) (dI : Nat → Nat → Nat) (cI cZ cJ : ClassId) (h : Nat → Nat) (F : Nat → Nat → Int32) (G : Nat → Int64) (V : Nat → Int32)  (hV11 : V 11 = 0) : CtI l (dC, dI) vwCl (tys3 cI cZ cJ) yX5_forget wsX5_forget rm_X5_forget [.ref (h 0)] (wM cI cZ cJ h F G V) (S := Unit) (fun r _ => r = 0) (fun _ => []) 0 0 := by
  refine ct_I (cc := cX5_forget) (maxL := 2) (ty := .int) (own := RX5) (by decide) rfl rfl (Nat.le_of_ble_eq_true rfl) (lv := [(0, .ref (h 0))]) rfl ?_
  intro p e s m args below meth c A Q ls fx hK hP hD hA hl hret
  obtain ⟨hx, hb, hml, hown, hts⟩ := id fx
  have hS : va_S A s.heap s.heap [] := va_S.rf
  have hw0 := hts (.fieldLink RX5 1 "MirrorTowerModel" "thrown" "I") (by decide +kernel)
  have hin_X5 : ∀ w ∈ u_ws RX5 TX5 33, w ∈ wsX5_forget := by decide +kernel
  have hw2 := hts (.fieldLink RX5 186 "MirrorTowerModel" "shots" "I") (by decide +kernel)
  obtain ⟨H, hH⟩ : ∃ H, H = s.heap := ⟨_, rfl⟩
  rw [← hH] at hP ⊢
  have hS : va_S A s.heap H [] := by rw [hH]; exact hS
  generalize ([] : List Loc) = locs at hS ⊢
  refine lv_aload_n hx hb dX5_forget_0 rfl (lv_at hl 0 rfl) ?_
  refine lv_iconst (v := 0) hx hb dX5_forget_1 (by decide) ?_
  refine va_put (D := (dC, dI)) (ci := 5) (v := .int 0) (ty := .int) (C := RX5) (T := TX5) (N := 33) hx hb hts hin_X5 tyX5 tyX5_ok nmX5 hown hK hP hD hS 0 rfl rfl 0 (by decide) hw0 (fun _ h9 => h9) rfl (by decide +kernel) rfl rfl (Nat.le_of_ble_eq_true rfl) dX5_forget_2 (fun H locs hP hD hS => ?_)
  have hP : va_P (dC, dI) vwCl (wM cI cZ cJ h F G (va_up V 0 0)) H := hP
  have hD : va_D A (wM cI cZ cJ h F G (va_up V 0 0)) := hD
  refine lv_aload_n hx hb dX5_forget_5 rfl (lv_at hl 0 rfl) ?_
  refine va_get (D := (dC, dI)) (ci := 5) (v := .int (V 11)) (C := RX5) (T := TX5) (N := 33) hx hb hts hin_X5 hown hK hP 0 rfl rfl 31 (by decide) hw2 (fun _ h9 => h9) rfl dX5_forget_6 ?_
  refine lv_topi (fun x_1 ex_1 => ?_)
  obtain rfl : x_1 = 0 := ex_1.trans (hV11)
  refine lv_istore_n (lv' := [(1, .int 0), (0, .ref (h 0))]) hx hb dX5_forget_9 rfl hl (by decide) rfl (fun ls hl => ?_)
  refine lv_aload_n hx hb dX5_forget_10 rfl (lv_at hl 1 rfl) ?_
  refine lv_iconst (v := 0) hx hb dX5_forget_11 (by decide) ?_
  refine va_put (D := (dC, dI)) (ci := 5) (v := .int 0) (ty := .int) (C := RX5) (T := TX5) (N := 33) hx hb hts hin_X5 tyX5 tyX5_ok nmX5 hown hK hP hD hS 0 rfl rfl 31 (by decide) hw2 (fun _ h9 => h9) rfl (by decide +kernel) rfl rfl (Nat.le_of_ble_eq_true rfl) dX5_forget_12 (fun H locs hP hD hS => ?_)
  have hP : va_P (dC, dI) vwCl (wM cI cZ cJ h F G (va_up (va_up V 0 0) 11 0)) H := hP
  have hD : va_D A (wM cI cZ cJ h F G (va_up (va_up V 0 0) 11 0)) := hD
  refine lv_iload_n hx hb dX5_forget_15 rfl (lv_at hl 0 rfl) ?_
  exact hret 0 () H locs 16 ls rfl dX5_forget_16 (by first | rfl | (simp []; done) | (exfalso; omega)) (hP.sub [] rfl) (hD.sub [] (by decide) rfl) hS
def rm_X5_agree : Room := { frames := 2, cells := 0, slots := 0, locals := 47 }
set_option maxHeartbeats 4000000 in
set_option maxRecDepth 100000 in
theorem c_X5_agree (l : Launch) (dC : Nat → ClassId) (dI : Nat → Nat → Nat) (cI cZ cJ : ClassId) (h : Nat → Nat) (F : Nat → Nat → Int32) (G : Nat → Int64) (V : Nat → Int32)  (hV2 : V 2 = 0) (hV11 : V 11 = 0) : CtI l (dC, dI) vwCl (tys3 cI cZ cJ) yX5_agree wsX5_agree rm_X5_agree [.ref (h 0)] (wM cI cZ cJ h F G V) (S := Unit) (fun r _ => r = 1) (fun _ => []) 0 0 := by
  refine ct_I (cc := cX5_agree) (maxL := 1) (ty := .int) (own := RX5) (by decide) rfl rfl (Nat.le_of_ble_eq_true rfl) (lv := [(0, .ref (h 0))]) rfl ?_
  intro p e s m args below meth c A Q ls fx hK hP hD hA hl hret
  obtain ⟨hx, hb, hml, hown, hts⟩ := id fx
  have hS : va_S A s.heap s.heap [] := va_S.rf
  have hw0 := hts (.fieldLink RX5 1 "MirrorTowerModel" "thrown" "I") (by decide +kernel)
  have hin_X5 : ∀ w ∈ u_ws RX5 TX5 33, w ∈ wsX5_agree := by decide +kernel
  obtain ⟨H, hH⟩ : ∃ H, H = s.heap := ⟨_, rfl⟩
  rw [← hH] at hP ⊢
  have hS : va_S A s.heap H [] := by rw [hH]; exact hS
  generalize ([] : List Loc) = locs at hS ⊢
  refine lv_aload_n hx hb dX5_agree_0 rfl (lv_at hl 0 rfl) ?_
  refine lv_iconst (v := 0) hx hb dX5_agree_1 (by decide) ?_
  refine va_put (D := (dC, dI)) (ci := 5) (v := .int 0) (ty := .int) (C := RX5) (T := TX5) (N := 33) hx hb hts hin_X5 tyX5 tyX5_ok nmX5 hown hK hP hD hS 0 rfl rfl 0 (by decide) hw0 (fun _ h9 => h9) rfl (by decide +kernel) rfl rfl (Nat.le_of_ble_eq_true rfl) dX5_agree_2 (fun H locs hP hD hS => ?_)
  have hP : va_P (dC, dI) vwCl (wM cI cZ cJ h F G (va_up V 0 0)) H := hP
  have hD : va_D A (wM cI cZ cJ h F G (va_up V 0 0)) := hD
  refine lv_aload_n hx hb dX5_agree_5 rfl (lv_at hl 0 rfl) ?_
  refine cw_Vi (As := []) (rest := []) (c_X5_agreeing l dC dI cI cZ cJ h F G (va_up V 0 0) hV2 hV11) fx (cwV 0 hts gX5_agree_X5_agreeing rfl rfl rfl (by decide +kernel) ⟨Nat.le_of_ble_eq_true rfl, Nat.le_of_ble_eq_true rfl⟩) hK hP hD hS hA 0 rfl rfl rfl rfl hl.1 rfl (Nat.le_of_ble_eq_true rfl) dX5_agree_6 ⟨Nat.le_of_ble_eq_true rfl, Nat.le_of_ble_eq_true rfl⟩ (fun r_1 u_2 H locs hw_3 hP hD hS => ?_)
  obtain ⟨F_4, rfl⟩ : ∃ z, z = u_2 := ⟨_, rfl⟩
  have hP : va_P (dC, dI) vwCl (wM cI cZ cJ h F_4 G (va_up V 0 0)) H := hP
  have hD : va_D A (wM cI cZ cJ h F_4 G (va_up V 0 0)) := hD
  obtain rfl : r_1 = 1 := hw_3
  exact hret 1 () H locs 9 ls rfl dX5_agree_9 (by first | rfl | (simp []; done) | (exfalso; omega)) (hP.sub [] rfl) (hD.sub [] (by decide) rfl) hS
def rm_X5_stuck : Room := { frames := 1, cells := 0, slots := 0, locals := 21 }
set_option maxHeartbeats 4000000 in
set_option maxRecDepth 100000 in
theorem c_X5_stuck (l : Launch) (dC : Nat → ClassId) (dI : Nat → Nat → Nat) (cI cZ cJ : ClassId) (h : Nat → Nat) (F : Nat → Nat → Int32) (G : Nat → Int64) (V : Nat → Int32) (p0 : Int32) (hV2 : V 2 = 0) : CtI l (dC, dI) vwCl (tys3 cI cZ cJ) yX5_stuck wsX5_stuck rm_X5_stuck [.ref (h 0), .int p0] (wM cI cZ cJ h F G V) (S := Unit) (fun r _ => r = (-1)) (fun _ => []) 0 0 := by
  refine ct_I (cc := cX5_stuck) (maxL := 3) (ty := .int) (own := RX5) (by decide) rfl rfl (Nat.le_of_ble_eq_true rfl) (lv := [(0, .ref (h 0)), (1, .int p0)]) rfl ?_
  intro p e s m args below meth c A Q ls fx hK hP hD hA hl hret
  obtain ⟨hx, hb, hml, hown, hts⟩ := id fx
  have hS : va_S A s.heap s.heap [] := va_S.rf
  have hw0 := hts (.fieldLink RX5 1 "MirrorTowerModel" "thrown" "I") (by decide +kernel)
  have hin_X5 : ∀ w ∈ u_ws RX5 TX5 33, w ∈ wsX5_stuck := by decide +kernel
  obtain ⟨H, hH⟩ : ∃ H, H = s.heap := ⟨_, rfl⟩
  rw [← hH] at hP ⊢
  have hS : va_S A s.heap H [] := by rw [hH]; exact hS
  generalize ([] : List Loc) = locs at hS ⊢
  refine lv_aload_n hx hb dX5_stuck_0 rfl (lv_at hl 0 rfl) ?_
  refine lv_iconst (v := 0) hx hb dX5_stuck_1 (by decide) ?_
  refine va_put (D := (dC, dI)) (ci := 5) (v := .int 0) (ty := .int) (C := RX5) (T := TX5) (N := 33) hx hb hts hin_X5 tyX5 tyX5_ok nmX5 hown hK hP hD hS 0 rfl rfl 0 (by decide) hw0 (fun _ h9 => h9) rfl (by decide +kernel) rfl rfl (Nat.le_of_ble_eq_true rfl) dX5_stuck_2 (fun H locs hP hD hS => ?_)
  have hP : va_P (dC, dI) vwCl (wM cI cZ cJ h F G (va_up V 0 0)) H := hP
  have hD : va_D A (wM cI cZ cJ h F G (va_up V 0 0)) := hD
  refine lv_aload_n hx hb dX5_stuck_5 rfl (lv_at hl 0 rfl) ?_
  refine lv_iload_n hx hb dX5_stuck_6 rfl (lv_at hl 1 rfl) ?_
  refine cw_Vi (As := [.int p0]) (rest := []) (c_X5_isMirror l dC dI cI cZ cJ h F G (va_up V 0 0) p0 hV2) fx (cwV 1 hts gX5_stuck_X5_isMirror rfl rfl rfl (by decide +kernel) ⟨Nat.le_of_ble_eq_true rfl, Nat.le_of_ble_eq_true rfl⟩) hK hP hD hS hA 0 rfl rfl rfl rfl hl.1 rfl (Nat.le_of_ble_eq_true rfl) dX5_stuck_7 ⟨Nat.le_of_ble_eq_true rfl, Nat.le_of_ble_eq_true rfl⟩ (fun r_1 u_2 H locs hw_3 hP hD hS => ?_)
  have hP : va_P (dC, dI) vwCl (wM cI cZ cJ h F G (va_up V 0 0)) H := hP
  have hD : va_D A (wM cI cZ cJ h F G (va_up V 0 0)) := hD
  obtain rfl : r_1 = 0 := hw_3
  refine lv_if_ne (tgt := 15) hx hb dX5_stuck_10 (by decide) (fun c_4 => ?_) (fun c_4 => ?_)
  · exact absurd c_4 (by decide)
  · refine lv_iconst (v := (-1)) hx hb dX5_stuck_13 (by decide) ?_
    exact hret (-1) () H locs 14 ls rfl dX5_stuck_14 (by first | rfl | (simp []; done) | (exfalso; omega)) (hP.sub [] rfl) (hD.sub [] (by decide) rfl) hS
def rm_X5_unsure : Room := { frames := 2, cells := 0, slots := 0, locals := 47 }
set_option maxHeartbeats 4000000 in
set_option maxRecDepth 100000 in
theorem c_X5_unsure (l : Launch) (dC : Nat → ClassId) (dI : Nat → Nat → Nat) (cI cZ cJ : ClassId) (h : Nat → Nat) (F : Nat → Nat → Int32) (G : Nat → Int64) (V : Nat → Int32)  (hV2 : V 2 = 0) (hV11 : V 11 = 0) : CtI l (dC, dI) vwCl (tys3 cI cZ cJ) yX5_unsure wsX5_unsure rm_X5_unsure [.ref (h 0)] (wM cI cZ cJ h F G V) (S := Unit) (fun r _ => r = 0) (fun _ => []) 0 0 := by
  refine ct_I (cc := cX5_unsure) (maxL := 4) (ty := .int) (own := RX5) (by decide) rfl rfl (Nat.le_of_ble_eq_true rfl) (lv := [(0, .ref (h 0))]) rfl ?_
  intro p e s m args below meth c A Q ls fx hK hP hD hA hl hret
  obtain ⟨hx, hb, hml, hown, hts⟩ := id fx
  have hS : va_S A s.heap s.heap [] := va_S.rf
  have hw0 := hts (.fieldLink RX5 1 "MirrorTowerModel" "thrown" "I") (by decide +kernel)
  have hin_X5 : ∀ w ∈ u_ws RX5 TX5 33, w ∈ wsX5_unsure := by decide +kernel
  have hw2 := hts (.fieldLink RX5 91 "MirrorTowerModel" "mirrors" "I") (by decide +kernel)
  obtain ⟨H, hH⟩ : ∃ H, H = s.heap := ⟨_, rfl⟩
  rw [← hH] at hP ⊢
  have hS : va_S A s.heap H [] := by rw [hH]; exact hS
  generalize ([] : List Loc) = locs at hS ⊢
  refine lv_aload_n hx hb dX5_unsure_0 rfl (lv_at hl 0 rfl) ?_
  refine lv_iconst (v := 0) hx hb dX5_unsure_1 (by decide) ?_
  refine va_put (D := (dC, dI)) (ci := 5) (v := .int 0) (ty := .int) (C := RX5) (T := TX5) (N := 33) hx hb hts hin_X5 tyX5 tyX5_ok nmX5 hown hK hP hD hS 0 rfl rfl 0 (by decide) hw0 (fun _ h9 => h9) rfl (by decide +kernel) rfl rfl (Nat.le_of_ble_eq_true rfl) dX5_unsure_2 (fun H locs hP hD hS => ?_)
  have hP : va_P (dC, dI) vwCl (wM cI cZ cJ h F G (va_up V 0 0)) H := hP
  have hD : va_D A (wM cI cZ cJ h F G (va_up V 0 0)) := hD
  refine lv_aload_n hx hb dX5_unsure_5 rfl (lv_at hl 0 rfl) ?_
  refine cw_Vi (As := []) (rest := []) (c_X5_agreeing l dC dI cI cZ cJ h F G (va_up V 0 0) hV2 hV11) fx (cwV 0 hts gX5_unsure_X5_agreeing rfl rfl rfl (by decide +kernel) ⟨Nat.le_of_ble_eq_true rfl, Nat.le_of_ble_eq_true rfl⟩) hK hP hD hS hA 0 rfl rfl rfl rfl hl.1 rfl (Nat.le_of_ble_eq_true rfl) dX5_unsure_6 ⟨Nat.le_of_ble_eq_true rfl, Nat.le_of_ble_eq_true rfl⟩ (fun r_1 u_2 H locs hw_3 hP hD hS => ?_)
  obtain ⟨F_4, rfl⟩ : ∃ z, z = u_2 := ⟨_, rfl⟩
  have hP : va_P (dC, dI) vwCl (wM cI cZ cJ h F_4 G (va_up V 0 0)) H := hP
  have hD : va_D A (wM cI cZ cJ h F_4 G (va_up V 0 0)) := hD
  obtain rfl : r_1 = 1 := hw_3
  refine lv_istore_n (lv' := [(1, .int 1), (0, .ref (h 0))]) hx hb dX5_unsure_9 rfl hl (by decide) rfl (fun ls hl => ?_)
  refine lv_iconst (v := 0) hx hb dX5_unsure_10 (by decide) ?_
  refine lv_istore_n (lv' := [(2, .int 0), (1, .int 1), (0, .ref (h 0))]) hx hb dX5_unsure_11 rfl hl (by decide) rfl (fun ls hl => ?_)
  refine lv_iconst (v := 0) hx hb dX5_unsure_12 (by decide) ?_
  refine lv_istore_n (lv' := [(3, .int 0), (2, .int 0), (1, .int 1), (0, .ref (h 0))]) hx hb dX5_unsure_13 rfl hl (by decide) rfl (fun ls hl => ?_)
  refine lv_iload_n hx hb dX5_unsure_14 rfl (lv_at hl 0 rfl) ?_
  refine lv_aload_n hx hb dX5_unsure_15 rfl (lv_at hl 3 rfl) ?_
  refine va_get (D := (dC, dI)) (ci := 5) (v := .int (V 2)) (C := RX5) (T := TX5) (N := 33) hx hb hts hin_X5 hown hK hP 0 rfl rfl 2 (by decide) hw2 (fun _ h9 => h9) rfl dX5_unsure_16 ?_
  refine lv_topi (fun x_5 ex_5 => ?_)
  obtain rfl : x_5 = 0 := ex_5.trans (hV2)
  refine lv_icmp_ge (tgt := 59) hx hb dX5_unsure_19 (by decide) (fun c_6 => ?_) (fun c_6 => ?_)
  · refine lv_iload_n hx hb dX5_unsure_59 rfl (lv_at hl 1 rfl) ?_
    exact hret 0 () H locs 60 ls rfl dX5_unsure_60 (by first | rfl | (simp []; done) | (exfalso; omega)) (hP.sub [] rfl) (hD.sub [] (by decide) rfl) hS
  · exact absurd c_6 (by decide)
def rm_X5_count : Room := { frames := 0, cells := 0, slots := 0, locals := 0 }
set_option maxHeartbeats 4000000 in
set_option maxRecDepth 100000 in
theorem c_X5_count (l : Launch) (dC : Nat → ClassId) (dI : Nat → Nat → Nat) (cI cZ cJ : ClassId) (h : Nat → Nat) (F : Nat → Nat → Int32) (G : Nat → Int64) (V : Nat → Int32) (p0 : Int32) (hV2 : V 2 = 0) (hV3 : V 3 = 0) (hV4 : V 4 = 0) (hV7 : V 7 = 0) (hV11 : V 11 = 0) : CtI l (dC, dI) vwCl (tys3 cI cZ cJ) yX5_count wsX5_count rm_X5_count [.ref (h 0), .int p0] (wM cI cZ cJ h F G V) (S := Unit) (fun r _ => r = a_count p0) (fun _ => []) 0 0 := by
  refine ct_I (cc := cX5_count) (maxL := 4) (ty := .int) (own := RX5) (by decide) rfl rfl (Nat.le_of_ble_eq_true rfl) (lv := [(0, .ref (h 0)), (1, .int p0)]) rfl ?_
  intro p e s m args below meth c A Q ls fx hK hP hD hA hl hret
  obtain ⟨hx, hb, hml, hown, hts⟩ := id fx
  have hS : va_S A s.heap s.heap [] := va_S.rf
  have hw0 := hts (.fieldLink RX5 1 "MirrorTowerModel" "thrown" "I") (by decide +kernel)
  have hin_X5 : ∀ w ∈ u_ws RX5 TX5 33, w ∈ wsX5_count := by decide +kernel
  have hw2 := hts (.fieldLink RX5 91 "MirrorTowerModel" "mirrors" "I") (by decide +kernel)
  have hw3 := hts (.fieldLink RX5 154 "MirrorTowerModel" "now" "I") (by decide +kernel)
  have hw4 := hts (.fieldLink RX5 168 "MirrorTowerModel" "store" "I") (by decide +kernel)
  have hw5 := hts (.fieldLink RX5 171 "MirrorTowerModel" "isWarm" "Z") (by decide +kernel)
  have hw6 := hts (.fieldLink RX5 186 "MirrorTowerModel" "shots" "I") (by decide +kernel)
  obtain ⟨H, hH⟩ : ∃ H, H = s.heap := ⟨_, rfl⟩
  rw [← hH] at hP ⊢
  have hS : va_S A s.heap H [] := by rw [hH]; exact hS
  generalize ([] : List Loc) = locs at hS ⊢
  refine lv_aload_n hx hb dX5_count_0 rfl (lv_at hl 0 rfl) ?_
  refine lv_iconst (v := 0) hx hb dX5_count_1 (by decide) ?_
  refine va_put (D := (dC, dI)) (ci := 5) (v := .int 0) (ty := .int) (C := RX5) (T := TX5) (N := 33) hx hb hts hin_X5 tyX5 tyX5_ok nmX5 hown hK hP hD hS 0 rfl rfl 0 (by decide) hw0 (fun _ h9 => h9) rfl (by decide +kernel) rfl rfl (Nat.le_of_ble_eq_true rfl) dX5_count_2 (fun H locs hP hD hS => ?_)
  have hP : va_P (dC, dI) vwCl (wM cI cZ cJ h F G (va_up V 0 0)) H := hP
  have hD : va_D A (wM cI cZ cJ h F G (va_up V 0 0)) := hD
  refine lv_iload_n hx hb dX5_count_5 rfl (lv_at hl 1 rfl) ?_
  rcases tsw p0 0 5 (by decide) with c_1 | c_1
  · refine lv_tableOut (tgt := 106) hx hb dX5_count_6 c_1 (by decide) ?_
    refine lv_iconst (v := (-1)) hx hb dX5_count_106 (by decide) ?_
    exact hret (-1) () H locs 107 ls rfl dX5_count_107 (by rw [a_count, if_pos (by simp only [decide_eq_true_eq]; omega)]) (hP.sub [] rfl) (hD.sub [] (by decide) rfl) hS
  · obtain ⟨j_, hj_, c_1⟩ := c_1
    match j_, hj_, c_1 with
    | 0, _, c_1 =>
      refine lv_tableIn (tgt := 44) (off := 38) hx hb dX5_count_6 (by rw [c_1]; decide) (by rw [c_1]; decide) (by rw [c_1]; rfl) (by decide) ?_
      refine lv_aload_n hx hb dX5_count_44 rfl (lv_at hl 0 rfl) ?_
      refine va_get (D := (dC, dI)) (ci := 5) (v := .int (V 2)) (C := RX5) (T := TX5) (N := 33) hx hb hts hin_X5 hown hK hP 0 rfl rfl 2 (by decide) hw2 (fun _ h9 => h9) rfl dX5_count_45 ?_
      refine lv_topi (fun x_2 ex_2 => ?_)
      obtain rfl : x_2 = 0 := ex_2.trans (hV2)
      exact hret 0 () H locs 48 ls rfl dX5_count_48 (by rw [a_count, if_neg (by simp only [decide_eq_true_eq]; omega)]) (hP.sub [] rfl) (hD.sub [] (by decide) rfl) hS
    | 1, _, c_1 =>
      refine lv_tableIn (tgt := 49) (off := 43) hx hb dX5_count_6 (by rw [c_1]; decide) (by rw [c_1]; decide) (by rw [c_1]; rfl) (by decide) ?_
      refine lv_aload_n hx hb dX5_count_49 rfl (lv_at hl 0 rfl) ?_
      refine va_get (D := (dC, dI)) (ci := 5) (v := .int (V 3)) (C := RX5) (T := TX5) (N := 33) hx hb hts hin_X5 hown hK hP 0 rfl rfl 3 (by decide) hw3 (fun _ h9 => h9) rfl dX5_count_50 ?_
      refine lv_topi (fun x_3 ex_3 => ?_)
      obtain rfl : x_3 = 0 := ex_3.trans (hV3)
      exact hret 0 () H locs 53 ls rfl dX5_count_53 (by rw [a_count, if_neg (by simp only [decide_eq_true_eq]; omega)]) (hP.sub [] rfl) (hD.sub [] (by decide) rfl) hS
    | 2, _, c_1 =>
      refine lv_tableIn (tgt := 54) (off := 48) hx hb dX5_count_6 (by rw [c_1]; decide) (by rw [c_1]; decide) (by rw [c_1]; rfl) (by decide) ?_
      refine lv_aload_n hx hb dX5_count_54 rfl (lv_at hl 0 rfl) ?_
      refine va_get (D := (dC, dI)) (ci := 5) (v := .int (V 4)) (C := RX5) (T := TX5) (N := 33) hx hb hts hin_X5 hown hK hP 0 rfl rfl 4 (by decide) hw4 (fun _ h9 => h9) rfl dX5_count_55 ?_
      refine lv_topi (fun x_4 ex_4 => ?_)
      obtain rfl : x_4 = 0 := ex_4.trans (hV4)
      exact hret 0 () H locs 58 ls rfl dX5_count_58 (by rw [a_count, if_neg (by simp only [decide_eq_true_eq]; omega)]) (hP.sub [] rfl) (hD.sub [] (by decide) rfl) hS
    | 3, _, c_1 =>
      refine lv_tableIn (tgt := 59) (off := 53) hx hb dX5_count_6 (by rw [c_1]; decide) (by rw [c_1]; decide) (by rw [c_1]; rfl) (by decide) ?_
      refine lv_aload_n hx hb dX5_count_59 rfl (lv_at hl 0 rfl) ?_
      refine va_get (D := (dC, dI)) (ci := 5) (v := .int (V 7)) (C := RX5) (T := TX5) (N := 33) hx hb hts hin_X5 hown hK hP 0 rfl rfl 7 (by decide) hw5 (fun _ h9 => h9) rfl dX5_count_60 ?_
      refine lv_topi (fun x_5 ex_5 => ?_)
      obtain rfl : x_5 = 0 := ex_5.trans (hV7)
      refine lv_if_eq (tgt := 70) hx hb dX5_count_63 (by decide) (fun c_6 => ?_) (fun c_6 => ?_)
      · refine lv_iconst (v := 0) hx hb dX5_count_70 (by decide) ?_
        exact hret 0 () H locs 71 ls rfl dX5_count_71 (by rw [a_count, if_neg (by simp only [decide_eq_true_eq]; omega)]) (hP.sub [] rfl) (hD.sub [] (by decide) rfl) hS
      · exact absurd c_6 (by decide)
    | 4, _, c_1 =>
      refine lv_tableIn (tgt := 72) (off := 66) hx hb dX5_count_6 (by rw [c_1]; decide) (by rw [c_1]; decide) (by rw [c_1]; rfl) (by decide) ?_
      refine lv_aload_n hx hb dX5_count_72 rfl (lv_at hl 0 rfl) ?_
      refine va_get (D := (dC, dI)) (ci := 5) (v := .int (V 11)) (C := RX5) (T := TX5) (N := 33) hx hb hts hin_X5 hown hK hP 0 rfl rfl 31 (by decide) hw6 (fun _ h9 => h9) rfl dX5_count_73 ?_
      refine lv_topi (fun x_7 ex_7 => ?_)
      obtain rfl : x_7 = 0 := ex_7.trans (hV11)
      exact hret 0 () H locs 76 ls rfl dX5_count_76 (by rw [a_count, if_neg (by simp only [decide_eq_true_eq]; omega)]) (hP.sub [] rfl) (hD.sub [] (by decide) rfl) hS
    | 5, _, c_1 =>
      refine lv_tableIn (tgt := 77) (off := 71) hx hb dX5_count_6 (by rw [c_1]; decide) (by rw [c_1]; decide) (by rw [c_1]; rfl) (by decide) ?_
      refine lv_iconst (v := 0) hx hb dX5_count_77 (by decide) ?_
      refine lv_istore_n (lv' := [(2, .int 0), (0, .ref (h 0)), (1, .int p0)]) hx hb dX5_count_78 rfl hl (by decide) rfl (fun ls hl => ?_)
      refine lv_iconst (v := 0) hx hb dX5_count_79 (by decide) ?_
      refine lv_istore_n (lv' := [(3, .int 0), (2, .int 0), (0, .ref (h 0)), (1, .int p0)]) hx hb dX5_count_80 rfl hl (by decide) rfl (fun ls hl => ?_)
      refine lv_iload_n hx hb dX5_count_81 rfl (lv_at hl 0 rfl) ?_
      refine lv_aload_n hx hb dX5_count_82 rfl (lv_at hl 2 rfl) ?_
      refine va_get (D := (dC, dI)) (ci := 5) (v := .int (V 2)) (C := RX5) (T := TX5) (N := 33) hx hb hts hin_X5 hown hK hP 0 rfl rfl 2 (by decide) hw2 (fun _ h9 => h9) rfl dX5_count_83 ?_
      refine lv_topi (fun x_8 ex_8 => ?_)
      obtain rfl : x_8 = 0 := ex_8.trans (hV2)
      refine lv_icmp_ge (tgt := 104) hx hb dX5_count_86 (by decide) (fun c_9 => ?_) (fun c_9 => ?_)
      · refine lv_iload_n hx hb dX5_count_104 rfl (lv_at hl 1 rfl) ?_
        exact hret 0 () H locs 105 ls rfl dX5_count_105 (by rw [a_count, if_neg (by simp only [decide_eq_true_eq]; omega)]) (hP.sub [] rfl) (hD.sub [] (by decide) rfl) hS
      · exact absurd c_9 (by decide)
    | j_ + 6, hj_, _ => exact absurd hj_ (by omega)
def rm_X5_trouble : Room := { frames := 0, cells := 0, slots := 0, locals := 0 }
set_option maxHeartbeats 4000000 in
set_option maxRecDepth 100000 in
theorem c_X5_trouble (l : Launch) (dC : Nat → ClassId) (dI : Nat → Nat → Nat) (cI cZ cJ : ClassId) (h : Nat → Nat) (F : Nat → Nat → Int32) (G : Nat → Int64) (V : Nat → Int32)  (hV1 : V 1 = 0) : CtI l (dC, dI) vwCl (tys3 cI cZ cJ) yX5_trouble wsX5_trouble rm_X5_trouble [.ref (h 0)] (wM cI cZ cJ h F G V) (S := Unit) (fun r _ => r = 0) (fun _ => []) 0 0 := by
  refine ct_I (cc := cX5_trouble) (maxL := 1) (ty := .int) (own := RX5) (by decide) rfl rfl (Nat.le_of_ble_eq_true rfl) (lv := [(0, .ref (h 0))]) rfl ?_
  intro p e s m args below meth c A Q ls fx hK hP hD hA hl hret
  obtain ⟨hx, hb, hml, hown, hts⟩ := id fx
  have hS : va_S A s.heap s.heap [] := va_S.rf
  have hw0 := hts (.fieldLink RX5 1 "MirrorTowerModel" "thrown" "I") (by decide +kernel)
  have hin_X5 : ∀ w ∈ u_ws RX5 TX5 33, w ∈ wsX5_trouble := by decide +kernel
  have hw2 := hts (.fieldLink RX5 7 "MirrorTowerModel" "trouble" "I") (by decide +kernel)
  obtain ⟨H, hH⟩ : ∃ H, H = s.heap := ⟨_, rfl⟩
  rw [← hH] at hP ⊢
  have hS : va_S A s.heap H [] := by rw [hH]; exact hS
  generalize ([] : List Loc) = locs at hS ⊢
  refine lv_aload_n hx hb dX5_trouble_0 rfl (lv_at hl 0 rfl) ?_
  refine lv_iconst (v := 0) hx hb dX5_trouble_1 (by decide) ?_
  refine va_put (D := (dC, dI)) (ci := 5) (v := .int 0) (ty := .int) (C := RX5) (T := TX5) (N := 33) hx hb hts hin_X5 tyX5 tyX5_ok nmX5 hown hK hP hD hS 0 rfl rfl 0 (by decide) hw0 (fun _ h9 => h9) rfl (by decide +kernel) rfl rfl (Nat.le_of_ble_eq_true rfl) dX5_trouble_2 (fun H locs hP hD hS => ?_)
  have hP : va_P (dC, dI) vwCl (wM cI cZ cJ h F G (va_up V 0 0)) H := hP
  have hD : va_D A (wM cI cZ cJ h F G (va_up V 0 0)) := hD
  refine lv_aload_n hx hb dX5_trouble_5 rfl (lv_at hl 0 rfl) ?_
  refine va_get (D := (dC, dI)) (ci := 5) (v := .int (V 1)) (C := RX5) (T := TX5) (N := 33) hx hb hts hin_X5 hown hK hP 0 rfl rfl 1 (by decide) hw2 (fun _ h9 => h9) rfl dX5_trouble_6 ?_
  refine lv_topi (fun x_1 ex_1 => ?_)
  obtain rfl : x_1 = 0 := ex_1.trans (hV1)
  exact hret 0 () H locs 9 ls rfl dX5_trouble_9 (by first | rfl | (simp []; done) | (exfalso; omega)) (hP.sub [] rfl) (hD.sub [] (by decide) rfl) hS
