def a_mirror (p0 p1 : Int32) : Int32 := if isW p0 0 14 && isW p1 0 14 then (if eqI p0 7 && eqI p1 0 then (-1) else 0) else (-1)
def a_sun (p0 p1 p2 p3 : Int32) : Int32 := if isW p0 0 23 && isW p1 (-2) 2 && isW p2 (-2) 2 && !(eqI p1 0 && eqI p2 0) && isW p3 0 9 then 1 else 0
def a_in2 (p0 m0 p1 m1 : Int32) : Int32 := if isW p0 0 m0 && isW p1 0 m1 then 1 else 0
def a_0 (p0 m0 m1 : Int32) : Int32 := if isW p0 m0 m1 then 0 else (-1)
def a_count (p0 : Int32) : Int32 := if decide (p0.toInt < 0 ∨ 5 < p0.toInt) then (-1) else 0
theorem lg_eq0 {x y : Int64} (h : lg_cmp x y = 0) : x = y := by
  unfold lg_cmp at h
  split at h
  · exact absurd h (by decide)
  · split at h
    · assumption
    · exact absurd h (by decide)
theorem lg_self (x : Int64) : lg_cmp x x = 0 := by
  unfold lg_cmp
  rw [if_neg (fun h => Int64.lt_irrefl h), if_pos rfl]
theorem sh0 (x : Int64) : (x.toUInt64 >>> ((0 : Int32).toInt64.toUInt64 &&& Int64.toUInt64 63)).toInt64 = x := by
  rw [show ((0 : Int32).toInt64.toUInt64 &&& Int64.toUInt64 63) = 0 from by decide]
  simp
def rm_X4_mirror : Room := { frames := 1, cells := 0, slots := 0, locals := 24 }
set_option maxHeartbeats 4000000 in
set_option maxRecDepth 100000 in
theorem c_X4_mirror (l : Launch) (dC : Nat → ClassId) (dI : Nat → Nat → Nat) (cI cZ cJ : ClassId) (h : Nat → Nat) (F : Nat → Nat → Int32) (V : Nat → Int32) (p0 p1 : Int32) (hV1 : V 1 = 0) (hF5 : ∀ i, i < 15 → F 5 i = 0) : CtI l (dC, dI) vwCl (tys3 cI cZ cJ) yX4_mirror wsX4_mirror rm_X4_mirror [.ref (h 0), .int p0, .int p1] (wC cI cZ h F V) (S := Unit) (fun r _ => r = a_mirror p0 p1) (fun _ => []) 0 0 := by
  refine ct_I (cc := cX4_mirror) (maxL := 4) (ty := .int) (own := RX4) (by decide) rfl rfl (Nat.le_of_ble_eq_true rfl) (lv := [(0, .ref (h 0)), (1, .int p0), (2, .int p1)]) rfl ?_
  intro p e s m args below meth c A Q ls fx hK hP hD hA hl hret
  obtain ⟨hx, hb, hml, hown, hts⟩ := id fx
  have hS : va_S A s.heap s.heap [] := va_S.rf
  have hw0 := hts (.fieldLink RX4 10 "MirrorTower" "field" "LMirrorTower$Field;") (by decide +kernel)
  have hin_X4 : ∀ w ∈ u_ws RX4 TX4 5, w ∈ wsX4_mirror := by decide +kernel
  obtain ⟨H, hH⟩ : ∃ H, H = s.heap := ⟨_, rfl⟩
  rw [← hH] at hP ⊢
  have hS : va_S A s.heap H [] := by rw [hH]; exact hS
  generalize ([] : List Loc) = locs at hS ⊢
  refine lv_iload_n hx hb dX4_mirror_0 rfl (lv_at hl 1 rfl) ?_
  refine lv_iconst (v := 0) hx hb dX4_mirror_1 (by decide) ?_
  refine lv_bipush (v := 14) hx hb dX4_mirror_2 (by decide) ?_
  refine cw_Si (As := [.int p0, .int 0, .int 14]) (rest := []) (c_X4_isWithin l dC dI cI cZ cJ (wC cI cZ h F V) p0 0 14) fx (va_cwS 3 hts gX4_mirror_X4_isWithin rfl rfl rfl (by decide +kernel) ⟨Nat.le_of_ble_eq_true rfl, Nat.le_of_ble_eq_true rfl⟩) hK hP hD hS hA rfl hl.1 rfl (Nat.le_of_ble_eq_true rfl) dX4_mirror_4 ⟨Nat.le_of_ble_eq_true rfl, Nat.le_of_ble_eq_true rfl⟩ (fun r_1 u_2 H locs hw_3 hP hD hS => ?_)
  have hP : va_P (dC, dI) vwCl (wC cI cZ h F V) H := hP
  have hD : va_D A (wC cI cZ h F V) := hD
  have hw_3 : r_1 = bI (isW p0 0 14) := hw_3
  refine lv_if_eq (tgt := 20) hx hb dX4_mirror_7 (by decide) (fun c_4 => ?_) (fun c_4 => ?_)
  · have c_4 : isW p0 0 14 = false := bI_f hw_3 c_4
    refine lv_aload_n hx hb dX4_mirror_20 rfl (lv_at hl 0 rfl) ?_
    refine lv_iconst (v := 2) hx hb dX4_mirror_21 (by decide) ?_
    refine cw_Vi (As := [.int 2]) (rest := []) (c_X4_refused l dC dI cI cZ cJ h F V 2) fx (cwV 1 hts gX4_mirror_X4_refused rfl rfl rfl (by decide +kernel) ⟨Nat.le_of_ble_eq_true rfl, Nat.le_of_ble_eq_true rfl⟩) hK hP hD hS hA 0 rfl rfl rfl rfl hl.1 rfl (Nat.le_of_ble_eq_true rfl) dX4_mirror_22 ⟨Nat.le_of_ble_eq_true rfl, Nat.le_of_ble_eq_true rfl⟩ (fun r_5 u_6 H locs hw_7 hP hD hS => ?_)
    have hP : va_P (dC, dI) vwCl (wC cI cZ h F (va_up V 0 2)) H := hP
    have hD : va_D A (wC cI cZ h F (va_up V 0 2)) := hD
    obtain rfl : r_5 = (-1) := hw_7
    exact hret (-1) () H locs 25 ls rfl dX4_mirror_25 (by first | rfl | (simp [a_mirror, c_4]; done) | (exfalso; omega)) (hP.sub [] rfl) (hD.sub [] (by decide) rfl) hS
  · have c_4 : isW p0 0 14 = true := bI_t hw_3 c_4
    refine lv_iload_n hx hb dX4_mirror_10 rfl (lv_at hl 2 rfl) ?_
    refine lv_iconst (v := 0) hx hb dX4_mirror_11 (by decide) ?_
    refine lv_bipush (v := 14) hx hb dX4_mirror_12 (by decide) ?_
    refine cw_Si (As := [.int p1, .int 0, .int 14]) (rest := []) (c_X4_isWithin l dC dI cI cZ cJ (wC cI cZ h F V) p1 0 14) fx (va_cwS 3 hts gX4_mirror_X4_isWithin rfl rfl rfl (by decide +kernel) ⟨Nat.le_of_ble_eq_true rfl, Nat.le_of_ble_eq_true rfl⟩) hK hP hD hS hA rfl hl.1 rfl (Nat.le_of_ble_eq_true rfl) dX4_mirror_14 ⟨Nat.le_of_ble_eq_true rfl, Nat.le_of_ble_eq_true rfl⟩ (fun r_8 u_9 H locs hw_10 hP hD hS => ?_)
    have hP : va_P (dC, dI) vwCl (wC cI cZ h F V) H := hP
    have hD : va_D A (wC cI cZ h F V) := hD
    have hw_10 : r_8 = bI (isW p1 0 14) := hw_10
    refine lv_if_ne (tgt := 26) hx hb dX4_mirror_17 (by decide) (fun c_11 => ?_) (fun c_11 => ?_)
    · have c_11 : isW p1 0 14 = true := bI_t hw_10 c_11
      refine lv_iload_n hx hb dX4_mirror_26 rfl (lv_at hl 1 rfl) ?_
      refine lv_bipush (v := 7) hx hb dX4_mirror_27 (by decide) ?_
      refine lv_icmp_ne (tgt := 40) hx hb dX4_mirror_29 (by decide) (fun c_12 => ?_) (fun c_12 => ?_)
      · have c_12 : eqI p0 7 = false := decide_eq_false c_12
        refine lv_iconst (v := 0) hx hb dX4_mirror_40 (by decide) ?_
        refine lv_istore_n (lv' := [(3, .int 0), (0, .ref (h 0)), (1, .int p0), (2, .int p1)]) hx hb dX4_mirror_41 rfl hl (by decide) rfl (fun ls hl => ?_)
        refine lv_iload_n hx hb dX4_mirror_42 rfl (lv_at hl 0 rfl) ?_
        refine lv_if_ne (tgt := 58) hx hb dX4_mirror_43 (by decide) (fun c_13 => ?_) (fun c_13 => ?_)
        · exact absurd c_13 (by decide)
        · obtain ⟨k0, hk0, rfl⟩ := isW_nat (M := 14) (n := 14) (by decide) c_4
          obtain ⟨k1, hk1, rfl⟩ := isW_nat (M := 14) (n := 14) (by decide) c_11
          refine lv_aload_n hx hb dX4_mirror_46 rfl (lv_at hl 1 rfl) ?_
          refine va_get (D := (dC, dI)) (ci := 4) (v := .ref (h 1)) (C := RX4) (T := TX4) (N := 5) hx hb hts hin_X4 hown hK hP 0 rfl rfl 0 (by decide) hw0 (fun _ h9 => h9) rfl dX4_mirror_47 ?_
          refine lv_iload_n hx hb dX4_mirror_50 rfl (lv_at hl 2 rfl) ?_
          refine lv_iload_n hx hb dX4_mirror_51 rfl (lv_at hl 3 rfl) ?_
          refine cw_Vi (As := [.int (nI k0), .int (nI k1)]) (rest := []) (c_X1_isTaken l dC dI cI cZ cJ h F V (nI k0) k1 (by omega) hF5) fx (cwV 2 hts gX4_mirror_X1_isTaken rfl rfl rfl (by decide +kernel) ⟨Nat.le_of_ble_eq_true rfl, Nat.le_of_ble_eq_true rfl⟩) hK hP hD hS hA 1 rfl rfl rfl rfl hl.1 rfl (Nat.le_of_ble_eq_true rfl) dX4_mirror_52 ⟨Nat.le_of_ble_eq_true rfl, Nat.le_of_ble_eq_true rfl⟩ (fun r_14 u_15 H locs hw_16 hP hD hS => ?_)
          have hP : va_P (dC, dI) vwCl (wC cI cZ h F V) H := hP
          have hD : va_D A (wC cI cZ h F V) := hD
          obtain rfl : r_14 = 0 := hw_16
          refine lv_if_eq (tgt := 64) hx hb dX4_mirror_55 (by decide) (fun c_17 => ?_) (fun c_17 => ?_)
          · refine lv_aload_n hx hb dX4_mirror_64 rfl (lv_at hl 1 rfl) ?_
            refine va_get (D := (dC, dI)) (ci := 4) (v := .ref (h 1)) (C := RX4) (T := TX4) (N := 5) hx hb hts hin_X4 hown hK hP 0 rfl rfl 0 (by decide) hw0 (fun _ h9 => h9) rfl dX4_mirror_65 ?_
            refine cw_Vi (As := []) (rest := []) (c_X1_size l dC dI cI cZ cJ h F V) fx (cwV 0 hts gX4_mirror_X1_size rfl rfl rfl (by decide +kernel) ⟨Nat.le_of_ble_eq_true rfl, Nat.le_of_ble_eq_true rfl⟩) hK hP hD hS hA 1 rfl rfl rfl rfl hl.1 rfl (Nat.le_of_ble_eq_true rfl) dX4_mirror_68 ⟨Nat.le_of_ble_eq_true rfl, Nat.le_of_ble_eq_true rfl⟩ (fun r_18 u_19 H locs hw_20 hP hD hS => ?_)
            have hP : va_P (dC, dI) vwCl (wC cI cZ h F V) H := hP
            have hD : va_D A (wC cI cZ h F V) := hD
            obtain rfl : r_18 = 0 := Eq.trans hw_20 hV1
            refine lv_bipush (v := 40) hx hb dX4_mirror_71 (by decide) ?_
            refine lv_icmp_lt (tgt := 82) hx hb dX4_mirror_73 (by decide) (fun c_21 => ?_) (fun c_21 => ?_)
            · refine lv_aload_n hx hb dX4_mirror_82 rfl (lv_at hl 1 rfl) ?_
              refine lv_aload_n hx hb dX4_mirror_83 rfl (lv_at hl 1 rfl) ?_
              refine va_get (D := (dC, dI)) (ci := 4) (v := .ref (h 1)) (C := RX4) (T := TX4) (N := 5) hx hb hts hin_X4 hown hK hP 0 rfl rfl 0 (by decide) hw0 (fun _ h9 => h9) rfl dX4_mirror_84 ?_
              refine lv_iload_n hx hb dX4_mirror_87 rfl (lv_at hl 2 rfl) ?_
              refine lv_iload_n hx hb dX4_mirror_88 rfl (lv_at hl 3 rfl) ?_
              refine cw_Vi (As := [.int (nI k0), .int (nI k1)]) (rest := [.ref (h 0)]) (c_X1_place l dC dI cI cZ cJ h F V k0 k1 (by omega) (by omega) hV1) fx (cwV 2 hts gX4_mirror_X1_place rfl rfl rfl (by decide +kernel) ⟨Nat.le_of_ble_eq_true rfl, Nat.le_of_ble_eq_true rfl⟩) hK hP hD hS hA 1 rfl rfl rfl rfl hl.1 rfl (Nat.le_of_ble_eq_true rfl) dX4_mirror_89 ⟨Nat.le_of_ble_eq_true rfl, Nat.le_of_ble_eq_true rfl⟩ (fun r_22 u_23 H locs hw_24 hP hD hS => ?_)
              obtain ⟨F_25, V_26⟩ := u_23
              have hP : va_P (dC, dI) vwCl (wC cI cZ h F_25 V_26) H := hP
              have hD : va_D A (wC cI cZ h F_25 V_26) := hD
              obtain rfl : r_22 = 0 := hw_24
              refine cw_Vi (As := [.int 0]) (rest := []) (c_X4_granted l dC dI cI cZ cJ h F_25 V_26 0) fx (cwV 1 hts gX4_mirror_X4_granted rfl rfl rfl (by decide +kernel) ⟨Nat.le_of_ble_eq_true rfl, Nat.le_of_ble_eq_true rfl⟩) hK hP hD hS hA 0 rfl rfl rfl rfl hl.1 rfl (Nat.le_of_ble_eq_true rfl) dX4_mirror_92 ⟨Nat.le_of_ble_eq_true rfl, Nat.le_of_ble_eq_true rfl⟩ (fun r_27 u_28 H locs hw_29 hP hD hS => ?_)
              have hP : va_P (dC, dI) vwCl (wC cI cZ h F_25 (va_up V_26 0 0)) H := hP
              have hD : va_D A (wC cI cZ h F_25 (va_up V_26 0 0)) := hD
              obtain rfl : r_27 = 0 := hw_29
              exact hret 0 () H locs 95 ls rfl dX4_mirror_95 (by first | rfl | (simp [a_mirror, c_4, c_11, c_12]; done) | (exfalso; omega)) (hP.sub [] rfl) (hD.sub [] (by decide) rfl) hS
            · exact absurd c_21 (by decide)
          · exact absurd c_17 (by decide)
      · have c_12 : eqI p0 7 = true := decide_eq_true c_12
        refine lv_iload_n hx hb dX4_mirror_32 rfl (lv_at hl 2 rfl) ?_
        refine lv_if_ne (tgt := 40) hx hb dX4_mirror_33 (by decide) (fun c_30 => ?_) (fun c_30 => ?_)
        · have c_30 : eqI p1 0 = false := decide_eq_false c_30
          refine lv_iconst (v := 0) hx hb dX4_mirror_40 (by decide) ?_
          refine lv_istore_n (lv' := [(3, .int 0), (0, .ref (h 0)), (1, .int p0), (2, .int p1)]) hx hb dX4_mirror_41 rfl hl (by decide) rfl (fun ls hl => ?_)
          refine lv_iload_n hx hb dX4_mirror_42 rfl (lv_at hl 0 rfl) ?_
          refine lv_if_ne (tgt := 58) hx hb dX4_mirror_43 (by decide) (fun c_31 => ?_) (fun c_31 => ?_)
          · exact absurd c_31 (by decide)
          · obtain ⟨k0, hk0, rfl⟩ := isW_nat (M := 14) (n := 14) (by decide) c_4
            obtain ⟨k1, hk1, rfl⟩ := isW_nat (M := 14) (n := 14) (by decide) c_11
            refine lv_aload_n hx hb dX4_mirror_46 rfl (lv_at hl 1 rfl) ?_
            refine va_get (D := (dC, dI)) (ci := 4) (v := .ref (h 1)) (C := RX4) (T := TX4) (N := 5) hx hb hts hin_X4 hown hK hP 0 rfl rfl 0 (by decide) hw0 (fun _ h9 => h9) rfl dX4_mirror_47 ?_
            refine lv_iload_n hx hb dX4_mirror_50 rfl (lv_at hl 2 rfl) ?_
            refine lv_iload_n hx hb dX4_mirror_51 rfl (lv_at hl 3 rfl) ?_
            refine cw_Vi (As := [.int (nI k0), .int (nI k1)]) (rest := []) (c_X1_isTaken l dC dI cI cZ cJ h F V (nI k0) k1 (by omega) hF5) fx (cwV 2 hts gX4_mirror_X1_isTaken rfl rfl rfl (by decide +kernel) ⟨Nat.le_of_ble_eq_true rfl, Nat.le_of_ble_eq_true rfl⟩) hK hP hD hS hA 1 rfl rfl rfl rfl hl.1 rfl (Nat.le_of_ble_eq_true rfl) dX4_mirror_52 ⟨Nat.le_of_ble_eq_true rfl, Nat.le_of_ble_eq_true rfl⟩ (fun r_32 u_33 H locs hw_34 hP hD hS => ?_)
            have hP : va_P (dC, dI) vwCl (wC cI cZ h F V) H := hP
            have hD : va_D A (wC cI cZ h F V) := hD
            obtain rfl : r_32 = 0 := hw_34
            refine lv_if_eq (tgt := 64) hx hb dX4_mirror_55 (by decide) (fun c_35 => ?_) (fun c_35 => ?_)
            · refine lv_aload_n hx hb dX4_mirror_64 rfl (lv_at hl 1 rfl) ?_
              refine va_get (D := (dC, dI)) (ci := 4) (v := .ref (h 1)) (C := RX4) (T := TX4) (N := 5) hx hb hts hin_X4 hown hK hP 0 rfl rfl 0 (by decide) hw0 (fun _ h9 => h9) rfl dX4_mirror_65 ?_
              refine cw_Vi (As := []) (rest := []) (c_X1_size l dC dI cI cZ cJ h F V) fx (cwV 0 hts gX4_mirror_X1_size rfl rfl rfl (by decide +kernel) ⟨Nat.le_of_ble_eq_true rfl, Nat.le_of_ble_eq_true rfl⟩) hK hP hD hS hA 1 rfl rfl rfl rfl hl.1 rfl (Nat.le_of_ble_eq_true rfl) dX4_mirror_68 ⟨Nat.le_of_ble_eq_true rfl, Nat.le_of_ble_eq_true rfl⟩ (fun r_36 u_37 H locs hw_38 hP hD hS => ?_)
              have hP : va_P (dC, dI) vwCl (wC cI cZ h F V) H := hP
              have hD : va_D A (wC cI cZ h F V) := hD
              obtain rfl : r_36 = 0 := Eq.trans hw_38 hV1
              refine lv_bipush (v := 40) hx hb dX4_mirror_71 (by decide) ?_
              refine lv_icmp_lt (tgt := 82) hx hb dX4_mirror_73 (by decide) (fun c_39 => ?_) (fun c_39 => ?_)
              · refine lv_aload_n hx hb dX4_mirror_82 rfl (lv_at hl 1 rfl) ?_
                refine lv_aload_n hx hb dX4_mirror_83 rfl (lv_at hl 1 rfl) ?_
                refine va_get (D := (dC, dI)) (ci := 4) (v := .ref (h 1)) (C := RX4) (T := TX4) (N := 5) hx hb hts hin_X4 hown hK hP 0 rfl rfl 0 (by decide) hw0 (fun _ h9 => h9) rfl dX4_mirror_84 ?_
                refine lv_iload_n hx hb dX4_mirror_87 rfl (lv_at hl 2 rfl) ?_
                refine lv_iload_n hx hb dX4_mirror_88 rfl (lv_at hl 3 rfl) ?_
                refine cw_Vi (As := [.int (nI k0), .int (nI k1)]) (rest := [.ref (h 0)]) (c_X1_place l dC dI cI cZ cJ h F V k0 k1 (by omega) (by omega) hV1) fx (cwV 2 hts gX4_mirror_X1_place rfl rfl rfl (by decide +kernel) ⟨Nat.le_of_ble_eq_true rfl, Nat.le_of_ble_eq_true rfl⟩) hK hP hD hS hA 1 rfl rfl rfl rfl hl.1 rfl (Nat.le_of_ble_eq_true rfl) dX4_mirror_89 ⟨Nat.le_of_ble_eq_true rfl, Nat.le_of_ble_eq_true rfl⟩ (fun r_40 u_41 H locs hw_42 hP hD hS => ?_)
                obtain ⟨F_43, V_44⟩ := u_41
                have hP : va_P (dC, dI) vwCl (wC cI cZ h F_43 V_44) H := hP
                have hD : va_D A (wC cI cZ h F_43 V_44) := hD
                obtain rfl : r_40 = 0 := hw_42
                refine cw_Vi (As := [.int 0]) (rest := []) (c_X4_granted l dC dI cI cZ cJ h F_43 V_44 0) fx (cwV 1 hts gX4_mirror_X4_granted rfl rfl rfl (by decide +kernel) ⟨Nat.le_of_ble_eq_true rfl, Nat.le_of_ble_eq_true rfl⟩) hK hP hD hS hA 0 rfl rfl rfl rfl hl.1 rfl (Nat.le_of_ble_eq_true rfl) dX4_mirror_92 ⟨Nat.le_of_ble_eq_true rfl, Nat.le_of_ble_eq_true rfl⟩ (fun r_45 u_46 H locs hw_47 hP hD hS => ?_)
                have hP : va_P (dC, dI) vwCl (wC cI cZ h F_43 (va_up V_44 0 0)) H := hP
                have hD : va_D A (wC cI cZ h F_43 (va_up V_44 0 0)) := hD
                obtain rfl : r_45 = 0 := hw_47
                exact hret 0 () H locs 95 ls rfl dX4_mirror_95 (by first | rfl | (simp [a_mirror, c_4, c_11, c_12, c_30]; done) | (exfalso; omega)) (hP.sub [] rfl) (hD.sub [] (by decide) rfl) hS
              · exact absurd c_39 (by decide)
            · exact absurd c_35 (by decide)
        · have c_30 : eqI p1 0 = true := decide_eq_true c_30
          refine lv_iconst (v := 1) hx hb dX4_mirror_36 (by decide) ?_
          refine lv_goto (tgt := 41) hx hb dX4_mirror_37 (by decide) ?_
          refine lv_istore_n (lv' := [(3, .int 1), (0, .ref (h 0)), (1, .int p0), (2, .int p1)]) hx hb dX4_mirror_41 rfl hl (by decide) rfl (fun ls hl => ?_)
          refine lv_iload_n hx hb dX4_mirror_42 rfl (lv_at hl 0 rfl) ?_
          refine lv_if_ne (tgt := 58) hx hb dX4_mirror_43 (by decide) (fun c_48 => ?_) (fun c_48 => ?_)
          · refine lv_aload_n hx hb dX4_mirror_58 rfl (lv_at hl 1 rfl) ?_
            refine lv_iconst (v := 4) hx hb dX4_mirror_59 (by decide) ?_
            refine cw_Vi (As := [.int 4]) (rest := []) (c_X4_refused l dC dI cI cZ cJ h F V 4) fx (cwV 1 hts gX4_mirror_X4_refused rfl rfl rfl (by decide +kernel) ⟨Nat.le_of_ble_eq_true rfl, Nat.le_of_ble_eq_true rfl⟩) hK hP hD hS hA 0 rfl rfl rfl rfl hl.1 rfl (Nat.le_of_ble_eq_true rfl) dX4_mirror_60 ⟨Nat.le_of_ble_eq_true rfl, Nat.le_of_ble_eq_true rfl⟩ (fun r_49 u_50 H locs hw_51 hP hD hS => ?_)
            have hP : va_P (dC, dI) vwCl (wC cI cZ h F (va_up V 0 4)) H := hP
            have hD : va_D A (wC cI cZ h F (va_up V 0 4)) := hD
            obtain rfl : r_49 = (-1) := hw_51
            exact hret (-1) () H locs 63 ls rfl dX4_mirror_63 (by first | rfl | (simp [a_mirror, c_4, c_11, c_12, c_30]; done) | (exfalso; omega)) (hP.sub [] rfl) (hD.sub [] (by decide) rfl) hS
          · exact absurd c_48 (by decide)
    · have c_11 : isW p1 0 14 = false := bI_f hw_10 c_11
      refine lv_aload_n hx hb dX4_mirror_20 rfl (lv_at hl 0 rfl) ?_
      refine lv_iconst (v := 2) hx hb dX4_mirror_21 (by decide) ?_
      refine cw_Vi (As := [.int 2]) (rest := []) (c_X4_refused l dC dI cI cZ cJ h F V 2) fx (cwV 1 hts gX4_mirror_X4_refused rfl rfl rfl (by decide +kernel) ⟨Nat.le_of_ble_eq_true rfl, Nat.le_of_ble_eq_true rfl⟩) hK hP hD hS hA 0 rfl rfl rfl rfl hl.1 rfl (Nat.le_of_ble_eq_true rfl) dX4_mirror_22 ⟨Nat.le_of_ble_eq_true rfl, Nat.le_of_ble_eq_true rfl⟩ (fun r_52 u_53 H locs hw_54 hP hD hS => ?_)
      have hP : va_P (dC, dI) vwCl (wC cI cZ h F (va_up V 0 2)) H := hP
      have hD : va_D A (wC cI cZ h F (va_up V 0 2)) := hD
      obtain rfl : r_52 = (-1) := hw_54
      exact hret (-1) () H locs 25 ls rfl dX4_mirror_25 (by first | rfl | (simp [a_mirror, c_4, c_11]; done) | (exfalso; omega)) (hP.sub [] rfl) (hD.sub [] (by decide) rfl) hS
def rm_X4_sun : Room := { frames := 2, cells := 0, slots := 0, locals := 42 }
set_option maxHeartbeats 4000000 in
set_option maxRecDepth 100000 in
theorem c_X4_sun (l : Launch) (dC : Nat → ClassId) (dI : Nat → Nat → Nat) (cI cZ cJ : ClassId) (h : Nat → Nat) (F : Nat → Nat → Int32) (V : Nat → Int32) (p0 p1 p2 p3 : Int32)  : CtI l (dC, dI) vwCl (tys3 cI cZ cJ) yX4_sun wsX4_sun rm_X4_sun [.ref (h 0), .int p0, .int p1, .int p2, .int p3] (wC cI cZ h F V) (S := Unit) (fun r _ => r = a_sun p0 p1 p2 p3) (fun _ => []) 0 0 := by
  refine ct_I (cc := cX4_sun) (maxL := 6) (ty := .boolean) (own := RX4) (by decide) rfl rfl (Nat.le_of_ble_eq_true rfl) (lv := [(0, .ref (h 0)), (1, .int p0), (2, .int p1), (3, .int p2), (4, .int p3)]) rfl ?_
  intro p e s m args below meth c A Q ls fx hK hP hD hA hl hret
  obtain ⟨hx, hb, hml, hown, hts⟩ := id fx
  have hS : va_S A s.heap s.heap [] := va_S.rf
  have hw0 := hts (.fieldLink RX4 10 "MirrorTower" "field" "LMirrorTower$Field;") (by decide +kernel)
  have hin_X4 : ∀ w ∈ u_ws RX4 TX4 5, w ∈ wsX4_sun := by decide +kernel
  obtain ⟨H, hH⟩ : ∃ H, H = s.heap := ⟨_, rfl⟩
  rw [← hH] at hP ⊢
  have hS : va_S A s.heap H [] := by rw [hH]; exact hS
  generalize ([] : List Loc) = locs at hS ⊢
  refine lv_iload_n hx hb dX4_sun_0 rfl (lv_at hl 2 rfl) ?_
  refine lv_bipush (v := (-2)) hx hb dX4_sun_1 (by decide) ?_
  refine lv_iconst (v := 2) hx hb dX4_sun_3 (by decide) ?_
  refine cw_Si (As := [.int p1, .int (-2), .int 2]) (rest := []) (c_X4_isWithin l dC dI cI cZ cJ (wC cI cZ h F V) p1 (-2) 2) fx (va_cwS 3 hts gX4_sun_X4_isWithin rfl rfl rfl (by decide +kernel) ⟨Nat.le_of_ble_eq_true rfl, Nat.le_of_ble_eq_true rfl⟩) hK hP hD hS hA rfl hl.1 rfl (Nat.le_of_ble_eq_true rfl) dX4_sun_4 ⟨Nat.le_of_ble_eq_true rfl, Nat.le_of_ble_eq_true rfl⟩ (fun r_1 u_2 H locs hw_3 hP hD hS => ?_)
  have hP : va_P (dC, dI) vwCl (wC cI cZ h F V) H := hP
  have hD : va_D A (wC cI cZ h F V) := hD
  have hw_3 : r_1 = bI (isW p1 (-2) 2) := hw_3
  refine lv_if_eq (tgt := 32) hx hb dX4_sun_7 (by decide) (fun c_4 => ?_) (fun c_4 => ?_)
  · have c_4 : isW p1 (-2) 2 = false := bI_f hw_3 c_4
    refine lv_iconst (v := 0) hx hb dX4_sun_32 (by decide) ?_
    refine lv_istore (lv' := [(5, .int 0), (0, .ref (h 0)), (1, .int p0), (2, .int p1), (3, .int p2), (4, .int p3)]) hx hb dX4_sun_33 hl (by decide) rfl (fun ls hl => ?_)
    refine lv_iload_n hx hb dX4_sun_35 rfl (lv_at hl 2 rfl) ?_
    refine cw_Si (As := [.int p0]) (rest := []) (c_X4_isHour l dC dI cI cZ cJ (wC cI cZ h F V) p0) fx (va_cwS 1 hts gX4_sun_X4_isHour rfl rfl rfl (by decide +kernel) ⟨Nat.le_of_ble_eq_true rfl, Nat.le_of_ble_eq_true rfl⟩) hK hP hD hS hA rfl hl.1 rfl (Nat.le_of_ble_eq_true rfl) dX4_sun_36 ⟨Nat.le_of_ble_eq_true rfl, Nat.le_of_ble_eq_true rfl⟩ (fun r_5 u_6 H locs hw_7 hP hD hS => ?_)
    have hP : va_P (dC, dI) vwCl (wC cI cZ h F V) H := hP
    have hD : va_D A (wC cI cZ h F V) := hD
    have hw_7 : r_5 = bI (isW p0 0 23) := hw_7
    refine lv_if_eq (tgt := 58) hx hb dX4_sun_39 (by decide) (fun c_8 => ?_) (fun c_8 => ?_)
    · have c_8 : isW p0 0 23 = false := bI_f hw_7 c_8
      refine lv_aload_n hx hb dX4_sun_58 rfl (lv_at hl 1 rfl) ?_
      refine lv_iconst (v := 2) hx hb dX4_sun_59 (by decide) ?_
      refine cw_Vi (As := [.int 2]) (rest := []) (c_X4_denied l dC dI cI cZ cJ h F V 2) fx (cwV 1 hts gX4_sun_X4_denied rfl rfl rfl (by decide +kernel) ⟨Nat.le_of_ble_eq_true rfl, Nat.le_of_ble_eq_true rfl⟩) hK hP hD hS hA 0 rfl rfl rfl rfl hl.1 rfl (Nat.le_of_ble_eq_true rfl) dX4_sun_60 ⟨Nat.le_of_ble_eq_true rfl, Nat.le_of_ble_eq_true rfl⟩ (fun r_9 u_10 H locs hw_11 hP hD hS => ?_)
      have hP : va_P (dC, dI) vwCl (wC cI cZ h F (va_up V 0 2)) H := hP
      have hD : va_D A (wC cI cZ h F (va_up V 0 2)) := hD
      obtain rfl : r_9 = 0 := hw_11
      exact hret 0 () H locs 63 ls rfl dX4_sun_63 (by first | rfl | (simp [a_sun, c_4, c_8]; done) | (exfalso; omega)) (hP.sub [] rfl) (hD.sub [] (by decide) rfl) hS
    · have c_8 : isW p0 0 23 = true := bI_t hw_7 c_8
      refine lv_iload hx hb dX4_sun_42 (lv_at hl 0 rfl) ?_
      refine lv_if_eq (tgt := 58) hx hb dX4_sun_44 (by decide) (fun c_12 => ?_) (fun c_12 => ?_)
      · refine lv_aload_n hx hb dX4_sun_58 rfl (lv_at hl 1 rfl) ?_
        refine lv_iconst (v := 2) hx hb dX4_sun_59 (by decide) ?_
        refine cw_Vi (As := [.int 2]) (rest := []) (c_X4_denied l dC dI cI cZ cJ h F V 2) fx (cwV 1 hts gX4_sun_X4_denied rfl rfl rfl (by decide +kernel) ⟨Nat.le_of_ble_eq_true rfl, Nat.le_of_ble_eq_true rfl⟩) hK hP hD hS hA 0 rfl rfl rfl rfl hl.1 rfl (Nat.le_of_ble_eq_true rfl) dX4_sun_60 ⟨Nat.le_of_ble_eq_true rfl, Nat.le_of_ble_eq_true rfl⟩ (fun r_13 u_14 H locs hw_15 hP hD hS => ?_)
        have hP : va_P (dC, dI) vwCl (wC cI cZ h F (va_up V 0 2)) H := hP
        have hD : va_D A (wC cI cZ h F (va_up V 0 2)) := hD
        obtain rfl : r_13 = 0 := hw_15
        exact hret 0 () H locs 63 ls rfl dX4_sun_63 (by first | rfl | (simp [a_sun, c_4, c_8]; done) | (exfalso; omega)) (hP.sub [] rfl) (hD.sub [] (by decide) rfl) hS
      · exact absurd c_12 (by decide)
  · have c_4 : isW p1 (-2) 2 = true := bI_t hw_3 c_4
    refine lv_iload_n hx hb dX4_sun_10 rfl (lv_at hl 3 rfl) ?_
    refine lv_bipush (v := (-2)) hx hb dX4_sun_11 (by decide) ?_
    refine lv_iconst (v := 2) hx hb dX4_sun_13 (by decide) ?_
    refine cw_Si (As := [.int p2, .int (-2), .int 2]) (rest := []) (c_X4_isWithin l dC dI cI cZ cJ (wC cI cZ h F V) p2 (-2) 2) fx (va_cwS 3 hts gX4_sun_X4_isWithin rfl rfl rfl (by decide +kernel) ⟨Nat.le_of_ble_eq_true rfl, Nat.le_of_ble_eq_true rfl⟩) hK hP hD hS hA rfl hl.1 rfl (Nat.le_of_ble_eq_true rfl) dX4_sun_14 ⟨Nat.le_of_ble_eq_true rfl, Nat.le_of_ble_eq_true rfl⟩ (fun r_16 u_17 H locs hw_18 hP hD hS => ?_)
    have hP : va_P (dC, dI) vwCl (wC cI cZ h F V) H := hP
    have hD : va_D A (wC cI cZ h F V) := hD
    have hw_18 : r_16 = bI (isW p2 (-2) 2) := hw_18
    refine lv_if_eq (tgt := 32) hx hb dX4_sun_17 (by decide) (fun c_19 => ?_) (fun c_19 => ?_)
    · have c_19 : isW p2 (-2) 2 = false := bI_f hw_18 c_19
      refine lv_iconst (v := 0) hx hb dX4_sun_32 (by decide) ?_
      refine lv_istore (lv' := [(5, .int 0), (0, .ref (h 0)), (1, .int p0), (2, .int p1), (3, .int p2), (4, .int p3)]) hx hb dX4_sun_33 hl (by decide) rfl (fun ls hl => ?_)
      refine lv_iload_n hx hb dX4_sun_35 rfl (lv_at hl 2 rfl) ?_
      refine cw_Si (As := [.int p0]) (rest := []) (c_X4_isHour l dC dI cI cZ cJ (wC cI cZ h F V) p0) fx (va_cwS 1 hts gX4_sun_X4_isHour rfl rfl rfl (by decide +kernel) ⟨Nat.le_of_ble_eq_true rfl, Nat.le_of_ble_eq_true rfl⟩) hK hP hD hS hA rfl hl.1 rfl (Nat.le_of_ble_eq_true rfl) dX4_sun_36 ⟨Nat.le_of_ble_eq_true rfl, Nat.le_of_ble_eq_true rfl⟩ (fun r_20 u_21 H locs hw_22 hP hD hS => ?_)
      have hP : va_P (dC, dI) vwCl (wC cI cZ h F V) H := hP
      have hD : va_D A (wC cI cZ h F V) := hD
      have hw_22 : r_20 = bI (isW p0 0 23) := hw_22
      refine lv_if_eq (tgt := 58) hx hb dX4_sun_39 (by decide) (fun c_23 => ?_) (fun c_23 => ?_)
      · have c_23 : isW p0 0 23 = false := bI_f hw_22 c_23
        refine lv_aload_n hx hb dX4_sun_58 rfl (lv_at hl 1 rfl) ?_
        refine lv_iconst (v := 2) hx hb dX4_sun_59 (by decide) ?_
        refine cw_Vi (As := [.int 2]) (rest := []) (c_X4_denied l dC dI cI cZ cJ h F V 2) fx (cwV 1 hts gX4_sun_X4_denied rfl rfl rfl (by decide +kernel) ⟨Nat.le_of_ble_eq_true rfl, Nat.le_of_ble_eq_true rfl⟩) hK hP hD hS hA 0 rfl rfl rfl rfl hl.1 rfl (Nat.le_of_ble_eq_true rfl) dX4_sun_60 ⟨Nat.le_of_ble_eq_true rfl, Nat.le_of_ble_eq_true rfl⟩ (fun r_24 u_25 H locs hw_26 hP hD hS => ?_)
        have hP : va_P (dC, dI) vwCl (wC cI cZ h F (va_up V 0 2)) H := hP
        have hD : va_D A (wC cI cZ h F (va_up V 0 2)) := hD
        obtain rfl : r_24 = 0 := hw_26
        exact hret 0 () H locs 63 ls rfl dX4_sun_63 (by first | rfl | (simp [a_sun, c_4, c_19, c_23]; done) | (exfalso; omega)) (hP.sub [] rfl) (hD.sub [] (by decide) rfl) hS
      · have c_23 : isW p0 0 23 = true := bI_t hw_22 c_23
        refine lv_iload hx hb dX4_sun_42 (lv_at hl 0 rfl) ?_
        refine lv_if_eq (tgt := 58) hx hb dX4_sun_44 (by decide) (fun c_27 => ?_) (fun c_27 => ?_)
        · refine lv_aload_n hx hb dX4_sun_58 rfl (lv_at hl 1 rfl) ?_
          refine lv_iconst (v := 2) hx hb dX4_sun_59 (by decide) ?_
          refine cw_Vi (As := [.int 2]) (rest := []) (c_X4_denied l dC dI cI cZ cJ h F V 2) fx (cwV 1 hts gX4_sun_X4_denied rfl rfl rfl (by decide +kernel) ⟨Nat.le_of_ble_eq_true rfl, Nat.le_of_ble_eq_true rfl⟩) hK hP hD hS hA 0 rfl rfl rfl rfl hl.1 rfl (Nat.le_of_ble_eq_true rfl) dX4_sun_60 ⟨Nat.le_of_ble_eq_true rfl, Nat.le_of_ble_eq_true rfl⟩ (fun r_28 u_29 H locs hw_30 hP hD hS => ?_)
          have hP : va_P (dC, dI) vwCl (wC cI cZ h F (va_up V 0 2)) H := hP
          have hD : va_D A (wC cI cZ h F (va_up V 0 2)) := hD
          obtain rfl : r_28 = 0 := hw_30
          exact hret 0 () H locs 63 ls rfl dX4_sun_63 (by first | rfl | (simp [a_sun, c_4, c_19, c_23]; done) | (exfalso; omega)) (hP.sub [] rfl) (hD.sub [] (by decide) rfl) hS
        · exact absurd c_27 (by decide)
    · have c_19 : isW p2 (-2) 2 = true := bI_t hw_18 c_19
      refine lv_iload_n hx hb dX4_sun_20 rfl (lv_at hl 2 rfl) ?_
      refine lv_if_ne (tgt := 28) hx hb dX4_sun_21 (by decide) (fun c_31 => ?_) (fun c_31 => ?_)
      · have c_31 : eqI p1 0 = false := decide_eq_false c_31
        refine lv_iconst (v := 1) hx hb dX4_sun_28 (by decide) ?_
        refine lv_goto (tgt := 33) hx hb dX4_sun_29 (by decide) ?_
        refine lv_istore (lv' := [(5, .int 1), (0, .ref (h 0)), (1, .int p0), (2, .int p1), (3, .int p2), (4, .int p3)]) hx hb dX4_sun_33 hl (by decide) rfl (fun ls hl => ?_)
        refine lv_iload_n hx hb dX4_sun_35 rfl (lv_at hl 2 rfl) ?_
        refine cw_Si (As := [.int p0]) (rest := []) (c_X4_isHour l dC dI cI cZ cJ (wC cI cZ h F V) p0) fx (va_cwS 1 hts gX4_sun_X4_isHour rfl rfl rfl (by decide +kernel) ⟨Nat.le_of_ble_eq_true rfl, Nat.le_of_ble_eq_true rfl⟩) hK hP hD hS hA rfl hl.1 rfl (Nat.le_of_ble_eq_true rfl) dX4_sun_36 ⟨Nat.le_of_ble_eq_true rfl, Nat.le_of_ble_eq_true rfl⟩ (fun r_32 u_33 H locs hw_34 hP hD hS => ?_)
        have hP : va_P (dC, dI) vwCl (wC cI cZ h F V) H := hP
        have hD : va_D A (wC cI cZ h F V) := hD
        have hw_34 : r_32 = bI (isW p0 0 23) := hw_34
        refine lv_if_eq (tgt := 58) hx hb dX4_sun_39 (by decide) (fun c_35 => ?_) (fun c_35 => ?_)
        · have c_35 : isW p0 0 23 = false := bI_f hw_34 c_35
          refine lv_aload_n hx hb dX4_sun_58 rfl (lv_at hl 1 rfl) ?_
          refine lv_iconst (v := 2) hx hb dX4_sun_59 (by decide) ?_
          refine cw_Vi (As := [.int 2]) (rest := []) (c_X4_denied l dC dI cI cZ cJ h F V 2) fx (cwV 1 hts gX4_sun_X4_denied rfl rfl rfl (by decide +kernel) ⟨Nat.le_of_ble_eq_true rfl, Nat.le_of_ble_eq_true rfl⟩) hK hP hD hS hA 0 rfl rfl rfl rfl hl.1 rfl (Nat.le_of_ble_eq_true rfl) dX4_sun_60 ⟨Nat.le_of_ble_eq_true rfl, Nat.le_of_ble_eq_true rfl⟩ (fun r_36 u_37 H locs hw_38 hP hD hS => ?_)
          have hP : va_P (dC, dI) vwCl (wC cI cZ h F (va_up V 0 2)) H := hP
          have hD : va_D A (wC cI cZ h F (va_up V 0 2)) := hD
          obtain rfl : r_36 = 0 := hw_38
          exact hret 0 () H locs 63 ls rfl dX4_sun_63 (by first | rfl | (simp [a_sun, c_4, c_19, c_31, c_35]; done) | (exfalso; omega)) (hP.sub [] rfl) (hD.sub [] (by decide) rfl) hS
        · have c_35 : isW p0 0 23 = true := bI_t hw_34 c_35
          refine lv_iload hx hb dX4_sun_42 (lv_at hl 0 rfl) ?_
          refine lv_if_eq (tgt := 58) hx hb dX4_sun_44 (by decide) (fun c_39 => ?_) (fun c_39 => ?_)
          · exact absurd c_39 (by decide)
          · refine lv_iload hx hb dX4_sun_47 (lv_at hl 5 rfl) ?_
            refine lv_iconst (v := 0) hx hb dX4_sun_49 (by decide) ?_
            refine lv_bipush (v := 9) hx hb dX4_sun_50 (by decide) ?_
            refine cw_Si (As := [.int p3, .int 0, .int 9]) (rest := []) (c_X4_isWithin l dC dI cI cZ cJ (wC cI cZ h F V) p3 0 9) fx (va_cwS 3 hts gX4_sun_X4_isWithin rfl rfl rfl (by decide +kernel) ⟨Nat.le_of_ble_eq_true rfl, Nat.le_of_ble_eq_true rfl⟩) hK hP hD hS hA rfl hl.1 rfl (Nat.le_of_ble_eq_true rfl) dX4_sun_52 ⟨Nat.le_of_ble_eq_true rfl, Nat.le_of_ble_eq_true rfl⟩ (fun r_40 u_41 H locs hw_42 hP hD hS => ?_)
            have hP : va_P (dC, dI) vwCl (wC cI cZ h F V) H := hP
            have hD : va_D A (wC cI cZ h F V) := hD
            have hw_42 : r_40 = bI (isW p3 0 9) := hw_42
            refine lv_if_ne (tgt := 64) hx hb dX4_sun_55 (by decide) (fun c_43 => ?_) (fun c_43 => ?_)
            · have c_43 : isW p3 0 9 = true := bI_t hw_42 c_43
              refine lv_aload_n hx hb dX4_sun_64 rfl (lv_at hl 1 rfl) ?_
              refine va_get (D := (dC, dI)) (ci := 4) (v := .ref (h 1)) (C := RX4) (T := TX4) (N := 5) hx hb hts hin_X4 hown hK hP 0 rfl rfl 0 (by decide) hw0 (fun _ h9 => h9) rfl dX4_sun_65 ?_
              refine lv_iload_n hx hb dX4_sun_68 rfl (lv_at hl 2 rfl) ?_
              refine lv_iload_n hx hb dX4_sun_69 rfl (lv_at hl 3 rfl) ?_
              refine lv_iload_n hx hb dX4_sun_70 rfl (lv_at hl 4 rfl) ?_
              refine lv_iload hx hb dX4_sun_71 (lv_at hl 5 rfl) ?_
              obtain ⟨k0, hk0, rfl⟩ := isW_nat (M := 23) (n := 23) (by decide) c_35
              refine cw_Vv (As := [.int (nI k0), .int p1, .int p2, .int p3]) (rest := []) (c_X1_setSun l dC dI cI cZ cJ h F V k0 p1 p2 p3 (by omega)) fx (cwV 4 hts gX4_sun_X1_setSun rfl rfl rfl (by decide +kernel) ⟨Nat.le_of_ble_eq_true rfl, Nat.le_of_ble_eq_true rfl⟩) hK hP hD hS hA 1 rfl rfl rfl rfl hl.1 rfl (Nat.le_of_ble_eq_true rfl) dX4_sun_73 ⟨Nat.le_of_ble_eq_true rfl, Nat.le_of_ble_eq_true rfl⟩ (fun u_45 H locs hw_46 hP hD hS => ?_)
              obtain ⟨F_47, V_48⟩ := u_45
              have hP : va_P (dC, dI) vwCl (wC cI cZ h F_47 V_48) H := hP
              have hD : va_D A (wC cI cZ h F_47 V_48) := hD
              refine lv_aload_n hx hb dX4_sun_76 rfl (lv_at hl 1 rfl) ?_
              refine cw_Vi (As := []) (rest := []) (c_X4_allowed l dC dI cI cZ cJ h F_47 V_48) fx (cwV 0 hts gX4_sun_X4_allowed rfl rfl rfl (by decide +kernel) ⟨Nat.le_of_ble_eq_true rfl, Nat.le_of_ble_eq_true rfl⟩) hK hP hD hS hA 0 rfl rfl rfl rfl hl.1 rfl (Nat.le_of_ble_eq_true rfl) dX4_sun_77 ⟨Nat.le_of_ble_eq_true rfl, Nat.le_of_ble_eq_true rfl⟩ (fun r_49 u_50 H locs hw_51 hP hD hS => ?_)
              have hP : va_P (dC, dI) vwCl (wC cI cZ h F_47 (va_up V_48 0 0)) H := hP
              have hD : va_D A (wC cI cZ h F_47 (va_up V_48 0 0)) := hD
              obtain rfl : r_49 = 1 := hw_51
              exact hret 1 () H locs 80 ls rfl dX4_sun_80 (by first | rfl | (simp [a_sun, c_4, c_19, c_31, c_35, c_43]; done) | (exfalso; omega)) (hP.sub [] rfl) (hD.sub [] (by decide) rfl) hS
            · have c_43 : isW p3 0 9 = false := bI_f hw_42 c_43
              refine lv_aload_n hx hb dX4_sun_58 rfl (lv_at hl 1 rfl) ?_
              refine lv_iconst (v := 2) hx hb dX4_sun_59 (by decide) ?_
              refine cw_Vi (As := [.int 2]) (rest := []) (c_X4_denied l dC dI cI cZ cJ h F V 2) fx (cwV 1 hts gX4_sun_X4_denied rfl rfl rfl (by decide +kernel) ⟨Nat.le_of_ble_eq_true rfl, Nat.le_of_ble_eq_true rfl⟩) hK hP hD hS hA 0 rfl rfl rfl rfl hl.1 rfl (Nat.le_of_ble_eq_true rfl) dX4_sun_60 ⟨Nat.le_of_ble_eq_true rfl, Nat.le_of_ble_eq_true rfl⟩ (fun r_52 u_53 H locs hw_54 hP hD hS => ?_)
              have hP : va_P (dC, dI) vwCl (wC cI cZ h F (va_up V 0 2)) H := hP
              have hD : va_D A (wC cI cZ h F (va_up V 0 2)) := hD
              obtain rfl : r_52 = 0 := hw_54
              exact hret 0 () H locs 63 ls rfl dX4_sun_63 (by first | rfl | (simp [a_sun, c_4, c_19, c_31, c_35, c_43]; done) | (exfalso; omega)) (hP.sub [] rfl) (hD.sub [] (by decide) rfl) hS
      · have c_31 : eqI p1 0 = true := decide_eq_true c_31
        refine lv_iload_n hx hb dX4_sun_24 rfl (lv_at hl 3 rfl) ?_
        refine lv_if_eq (tgt := 32) hx hb dX4_sun_25 (by decide) (fun c_55 => ?_) (fun c_55 => ?_)
        · have c_55 : eqI p2 0 = true := decide_eq_true c_55
          refine lv_iconst (v := 0) hx hb dX4_sun_32 (by decide) ?_
          refine lv_istore (lv' := [(5, .int 0), (0, .ref (h 0)), (1, .int p0), (2, .int p1), (3, .int p2), (4, .int p3)]) hx hb dX4_sun_33 hl (by decide) rfl (fun ls hl => ?_)
          refine lv_iload_n hx hb dX4_sun_35 rfl (lv_at hl 2 rfl) ?_
          refine cw_Si (As := [.int p0]) (rest := []) (c_X4_isHour l dC dI cI cZ cJ (wC cI cZ h F V) p0) fx (va_cwS 1 hts gX4_sun_X4_isHour rfl rfl rfl (by decide +kernel) ⟨Nat.le_of_ble_eq_true rfl, Nat.le_of_ble_eq_true rfl⟩) hK hP hD hS hA rfl hl.1 rfl (Nat.le_of_ble_eq_true rfl) dX4_sun_36 ⟨Nat.le_of_ble_eq_true rfl, Nat.le_of_ble_eq_true rfl⟩ (fun r_56 u_57 H locs hw_58 hP hD hS => ?_)
          have hP : va_P (dC, dI) vwCl (wC cI cZ h F V) H := hP
          have hD : va_D A (wC cI cZ h F V) := hD
          have hw_58 : r_56 = bI (isW p0 0 23) := hw_58
          refine lv_if_eq (tgt := 58) hx hb dX4_sun_39 (by decide) (fun c_59 => ?_) (fun c_59 => ?_)
          · have c_59 : isW p0 0 23 = false := bI_f hw_58 c_59
            refine lv_aload_n hx hb dX4_sun_58 rfl (lv_at hl 1 rfl) ?_
            refine lv_iconst (v := 2) hx hb dX4_sun_59 (by decide) ?_
            refine cw_Vi (As := [.int 2]) (rest := []) (c_X4_denied l dC dI cI cZ cJ h F V 2) fx (cwV 1 hts gX4_sun_X4_denied rfl rfl rfl (by decide +kernel) ⟨Nat.le_of_ble_eq_true rfl, Nat.le_of_ble_eq_true rfl⟩) hK hP hD hS hA 0 rfl rfl rfl rfl hl.1 rfl (Nat.le_of_ble_eq_true rfl) dX4_sun_60 ⟨Nat.le_of_ble_eq_true rfl, Nat.le_of_ble_eq_true rfl⟩ (fun r_60 u_61 H locs hw_62 hP hD hS => ?_)
            have hP : va_P (dC, dI) vwCl (wC cI cZ h F (va_up V 0 2)) H := hP
            have hD : va_D A (wC cI cZ h F (va_up V 0 2)) := hD
            obtain rfl : r_60 = 0 := hw_62
            exact hret 0 () H locs 63 ls rfl dX4_sun_63 (by first | rfl | (simp [a_sun, c_4, c_19, c_31, c_55, c_59]; done) | (exfalso; omega)) (hP.sub [] rfl) (hD.sub [] (by decide) rfl) hS
          · have c_59 : isW p0 0 23 = true := bI_t hw_58 c_59
            refine lv_iload hx hb dX4_sun_42 (lv_at hl 0 rfl) ?_
            refine lv_if_eq (tgt := 58) hx hb dX4_sun_44 (by decide) (fun c_63 => ?_) (fun c_63 => ?_)
            · refine lv_aload_n hx hb dX4_sun_58 rfl (lv_at hl 1 rfl) ?_
              refine lv_iconst (v := 2) hx hb dX4_sun_59 (by decide) ?_
              refine cw_Vi (As := [.int 2]) (rest := []) (c_X4_denied l dC dI cI cZ cJ h F V 2) fx (cwV 1 hts gX4_sun_X4_denied rfl rfl rfl (by decide +kernel) ⟨Nat.le_of_ble_eq_true rfl, Nat.le_of_ble_eq_true rfl⟩) hK hP hD hS hA 0 rfl rfl rfl rfl hl.1 rfl (Nat.le_of_ble_eq_true rfl) dX4_sun_60 ⟨Nat.le_of_ble_eq_true rfl, Nat.le_of_ble_eq_true rfl⟩ (fun r_64 u_65 H locs hw_66 hP hD hS => ?_)
              have hP : va_P (dC, dI) vwCl (wC cI cZ h F (va_up V 0 2)) H := hP
              have hD : va_D A (wC cI cZ h F (va_up V 0 2)) := hD
              obtain rfl : r_64 = 0 := hw_66
              exact hret 0 () H locs 63 ls rfl dX4_sun_63 (by first | rfl | (simp [a_sun, c_4, c_19, c_31, c_55, c_59]; done) | (exfalso; omega)) (hP.sub [] rfl) (hD.sub [] (by decide) rfl) hS
            · exact absurd c_63 (by decide)
        · have c_55 : eqI p2 0 = false := decide_eq_false c_55
          refine lv_iconst (v := 1) hx hb dX4_sun_28 (by decide) ?_
          refine lv_goto (tgt := 33) hx hb dX4_sun_29 (by decide) ?_
          refine lv_istore (lv' := [(5, .int 1), (0, .ref (h 0)), (1, .int p0), (2, .int p1), (3, .int p2), (4, .int p3)]) hx hb dX4_sun_33 hl (by decide) rfl (fun ls hl => ?_)
          refine lv_iload_n hx hb dX4_sun_35 rfl (lv_at hl 2 rfl) ?_
          refine cw_Si (As := [.int p0]) (rest := []) (c_X4_isHour l dC dI cI cZ cJ (wC cI cZ h F V) p0) fx (va_cwS 1 hts gX4_sun_X4_isHour rfl rfl rfl (by decide +kernel) ⟨Nat.le_of_ble_eq_true rfl, Nat.le_of_ble_eq_true rfl⟩) hK hP hD hS hA rfl hl.1 rfl (Nat.le_of_ble_eq_true rfl) dX4_sun_36 ⟨Nat.le_of_ble_eq_true rfl, Nat.le_of_ble_eq_true rfl⟩ (fun r_67 u_68 H locs hw_69 hP hD hS => ?_)
          have hP : va_P (dC, dI) vwCl (wC cI cZ h F V) H := hP
          have hD : va_D A (wC cI cZ h F V) := hD
          have hw_69 : r_67 = bI (isW p0 0 23) := hw_69
          refine lv_if_eq (tgt := 58) hx hb dX4_sun_39 (by decide) (fun c_70 => ?_) (fun c_70 => ?_)
          · have c_70 : isW p0 0 23 = false := bI_f hw_69 c_70
            refine lv_aload_n hx hb dX4_sun_58 rfl (lv_at hl 1 rfl) ?_
            refine lv_iconst (v := 2) hx hb dX4_sun_59 (by decide) ?_
            refine cw_Vi (As := [.int 2]) (rest := []) (c_X4_denied l dC dI cI cZ cJ h F V 2) fx (cwV 1 hts gX4_sun_X4_denied rfl rfl rfl (by decide +kernel) ⟨Nat.le_of_ble_eq_true rfl, Nat.le_of_ble_eq_true rfl⟩) hK hP hD hS hA 0 rfl rfl rfl rfl hl.1 rfl (Nat.le_of_ble_eq_true rfl) dX4_sun_60 ⟨Nat.le_of_ble_eq_true rfl, Nat.le_of_ble_eq_true rfl⟩ (fun r_71 u_72 H locs hw_73 hP hD hS => ?_)
            have hP : va_P (dC, dI) vwCl (wC cI cZ h F (va_up V 0 2)) H := hP
            have hD : va_D A (wC cI cZ h F (va_up V 0 2)) := hD
            obtain rfl : r_71 = 0 := hw_73
            exact hret 0 () H locs 63 ls rfl dX4_sun_63 (by first | rfl | (simp [a_sun, c_4, c_19, c_31, c_55, c_70]; done) | (exfalso; omega)) (hP.sub [] rfl) (hD.sub [] (by decide) rfl) hS
          · have c_70 : isW p0 0 23 = true := bI_t hw_69 c_70
            refine lv_iload hx hb dX4_sun_42 (lv_at hl 0 rfl) ?_
            refine lv_if_eq (tgt := 58) hx hb dX4_sun_44 (by decide) (fun c_74 => ?_) (fun c_74 => ?_)
            · exact absurd c_74 (by decide)
            · refine lv_iload hx hb dX4_sun_47 (lv_at hl 5 rfl) ?_
              refine lv_iconst (v := 0) hx hb dX4_sun_49 (by decide) ?_
              refine lv_bipush (v := 9) hx hb dX4_sun_50 (by decide) ?_
              refine cw_Si (As := [.int p3, .int 0, .int 9]) (rest := []) (c_X4_isWithin l dC dI cI cZ cJ (wC cI cZ h F V) p3 0 9) fx (va_cwS 3 hts gX4_sun_X4_isWithin rfl rfl rfl (by decide +kernel) ⟨Nat.le_of_ble_eq_true rfl, Nat.le_of_ble_eq_true rfl⟩) hK hP hD hS hA rfl hl.1 rfl (Nat.le_of_ble_eq_true rfl) dX4_sun_52 ⟨Nat.le_of_ble_eq_true rfl, Nat.le_of_ble_eq_true rfl⟩ (fun r_75 u_76 H locs hw_77 hP hD hS => ?_)
              have hP : va_P (dC, dI) vwCl (wC cI cZ h F V) H := hP
              have hD : va_D A (wC cI cZ h F V) := hD
              have hw_77 : r_75 = bI (isW p3 0 9) := hw_77
              refine lv_if_ne (tgt := 64) hx hb dX4_sun_55 (by decide) (fun c_78 => ?_) (fun c_78 => ?_)
              · have c_78 : isW p3 0 9 = true := bI_t hw_77 c_78
                refine lv_aload_n hx hb dX4_sun_64 rfl (lv_at hl 1 rfl) ?_
                refine va_get (D := (dC, dI)) (ci := 4) (v := .ref (h 1)) (C := RX4) (T := TX4) (N := 5) hx hb hts hin_X4 hown hK hP 0 rfl rfl 0 (by decide) hw0 (fun _ h9 => h9) rfl dX4_sun_65 ?_
                refine lv_iload_n hx hb dX4_sun_68 rfl (lv_at hl 2 rfl) ?_
                refine lv_iload_n hx hb dX4_sun_69 rfl (lv_at hl 3 rfl) ?_
                refine lv_iload_n hx hb dX4_sun_70 rfl (lv_at hl 4 rfl) ?_
                refine lv_iload hx hb dX4_sun_71 (lv_at hl 5 rfl) ?_
                obtain ⟨k0, hk0, rfl⟩ := isW_nat (M := 23) (n := 23) (by decide) c_70
                refine cw_Vv (As := [.int (nI k0), .int p1, .int p2, .int p3]) (rest := []) (c_X1_setSun l dC dI cI cZ cJ h F V k0 p1 p2 p3 (by omega)) fx (cwV 4 hts gX4_sun_X1_setSun rfl rfl rfl (by decide +kernel) ⟨Nat.le_of_ble_eq_true rfl, Nat.le_of_ble_eq_true rfl⟩) hK hP hD hS hA 1 rfl rfl rfl rfl hl.1 rfl (Nat.le_of_ble_eq_true rfl) dX4_sun_73 ⟨Nat.le_of_ble_eq_true rfl, Nat.le_of_ble_eq_true rfl⟩ (fun u_80 H locs hw_81 hP hD hS => ?_)
                obtain ⟨F_82, V_83⟩ := u_80
                have hP : va_P (dC, dI) vwCl (wC cI cZ h F_82 V_83) H := hP
                have hD : va_D A (wC cI cZ h F_82 V_83) := hD
                refine lv_aload_n hx hb dX4_sun_76 rfl (lv_at hl 1 rfl) ?_
                refine cw_Vi (As := []) (rest := []) (c_X4_allowed l dC dI cI cZ cJ h F_82 V_83) fx (cwV 0 hts gX4_sun_X4_allowed rfl rfl rfl (by decide +kernel) ⟨Nat.le_of_ble_eq_true rfl, Nat.le_of_ble_eq_true rfl⟩) hK hP hD hS hA 0 rfl rfl rfl rfl hl.1 rfl (Nat.le_of_ble_eq_true rfl) dX4_sun_77 ⟨Nat.le_of_ble_eq_true rfl, Nat.le_of_ble_eq_true rfl⟩ (fun r_84 u_85 H locs hw_86 hP hD hS => ?_)
                have hP : va_P (dC, dI) vwCl (wC cI cZ h F_82 (va_up V_83 0 0)) H := hP
                have hD : va_D A (wC cI cZ h F_82 (va_up V_83 0 0)) := hD
                obtain rfl : r_84 = 1 := hw_86
                exact hret 1 () H locs 80 ls rfl dX4_sun_80 (by first | rfl | (simp [a_sun, c_4, c_19, c_31, c_55, c_70, c_78]; done) | (exfalso; omega)) (hP.sub [] rfl) (hD.sub [] (by decide) rfl) hS
              · have c_78 : isW p3 0 9 = false := bI_f hw_77 c_78
                refine lv_aload_n hx hb dX4_sun_58 rfl (lv_at hl 1 rfl) ?_
                refine lv_iconst (v := 2) hx hb dX4_sun_59 (by decide) ?_
                refine cw_Vi (As := [.int 2]) (rest := []) (c_X4_denied l dC dI cI cZ cJ h F V 2) fx (cwV 1 hts gX4_sun_X4_denied rfl rfl rfl (by decide +kernel) ⟨Nat.le_of_ble_eq_true rfl, Nat.le_of_ble_eq_true rfl⟩) hK hP hD hS hA 0 rfl rfl rfl rfl hl.1 rfl (Nat.le_of_ble_eq_true rfl) dX4_sun_60 ⟨Nat.le_of_ble_eq_true rfl, Nat.le_of_ble_eq_true rfl⟩ (fun r_87 u_88 H locs hw_89 hP hD hS => ?_)
                have hP : va_P (dC, dI) vwCl (wC cI cZ h F (va_up V 0 2)) H := hP
                have hD : va_D A (wC cI cZ h F (va_up V 0 2)) := hD
                obtain rfl : r_87 = 0 := hw_89
                exact hret 0 () H locs 63 ls rfl dX4_sun_63 (by first | rfl | (simp [a_sun, c_4, c_19, c_31, c_55, c_70, c_78]; done) | (exfalso; omega)) (hP.sub [] rfl) (hD.sub [] (by decide) rfl) hS
def rm_X4_limit : Room := { frames := 2, cells := 0, slots := 0, locals := 42 }
set_option maxHeartbeats 4000000 in
set_option maxRecDepth 100000 in
theorem c_X4_limit (l : Launch) (dC : Nat → ClassId) (dI : Nat → Nat → Nat) (cI cZ cJ : ClassId) (h : Nat → Nat) (F : Nat → Nat → Int32) (V : Nat → Int32) (p0 p1 : Int32)  : CtI l (dC, dI) vwCl (tys3 cI cZ cJ) yX4_limit wsX4_limit rm_X4_limit [.ref (h 0), .int p0, .int p1] (wC cI cZ h F V) (S := Unit) (fun r _ => r = a_in2 p0 3 p1 10000) (fun _ => []) 0 0 := by
  refine ct_I (cc := cX4_limit) (maxL := 3) (ty := .boolean) (own := RX4) (by decide) rfl rfl (Nat.le_of_ble_eq_true rfl) (lv := [(0, .ref (h 0)), (1, .int p0), (2, .int p1)]) rfl ?_
  intro p e s m args below meth c A Q ls fx hK hP hD hA hl hret
  obtain ⟨hx, hb, hml, hown, hts⟩ := id fx
  have hS : va_S A s.heap s.heap [] := va_S.rf
  have hw0 := hts (.fieldLink RX4 21 "MirrorTower" "cells" "LMirrorTower$Face;") (by decide +kernel)
  have hin_X4 : ∀ w ∈ u_ws RX4 TX4 5, w ∈ wsX4_limit := by decide +kernel
  obtain ⟨H, hH⟩ : ∃ H, H = s.heap := ⟨_, rfl⟩
  rw [← hH] at hP ⊢
  have hS : va_S A s.heap H [] := by rw [hH]; exact hS
  generalize ([] : List Loc) = locs at hS ⊢
  refine lv_iload_n hx hb dX4_limit_0 rfl (lv_at hl 1 rfl) ?_
  refine cw_Si (As := [.int p0]) (rest := []) (c_X4_isCell l dC dI cI cZ cJ (wC cI cZ h F V) p0) fx (va_cwS 1 hts gX4_limit_X4_isCell rfl rfl rfl (by decide +kernel) ⟨Nat.le_of_ble_eq_true rfl, Nat.le_of_ble_eq_true rfl⟩) hK hP hD hS hA rfl hl.1 rfl (Nat.le_of_ble_eq_true rfl) dX4_limit_1 ⟨Nat.le_of_ble_eq_true rfl, Nat.le_of_ble_eq_true rfl⟩ (fun r_1 u_2 H locs hw_3 hP hD hS => ?_)
  have hP : va_P (dC, dI) vwCl (wC cI cZ h F V) H := hP
  have hD : va_D A (wC cI cZ h F V) := hD
  have hw_3 : r_1 = bI (isW p0 0 3) := hw_3
  refine lv_if_ne (tgt := 13) hx hb dX4_limit_4 (by decide) (fun c_4 => ?_) (fun c_4 => ?_)
  · have c_4 : isW p0 0 3 = true := bI_t hw_3 c_4
    refine lv_iload_n hx hb dX4_limit_13 rfl (lv_at hl 2 rfl) ?_
    refine lv_iconst (v := 0) hx hb dX4_limit_14 (by decide) ?_
    refine lv_sipush (v := 10000) hx hb dX4_limit_15 (by decide) ?_
    refine cw_Si (As := [.int p1, .int 0, .int 10000]) (rest := []) (c_X4_isWithin l dC dI cI cZ cJ (wC cI cZ h F V) p1 0 10000) fx (va_cwS 3 hts gX4_limit_X4_isWithin rfl rfl rfl (by decide +kernel) ⟨Nat.le_of_ble_eq_true rfl, Nat.le_of_ble_eq_true rfl⟩) hK hP hD hS hA rfl hl.1 rfl (Nat.le_of_ble_eq_true rfl) dX4_limit_18 ⟨Nat.le_of_ble_eq_true rfl, Nat.le_of_ble_eq_true rfl⟩ (fun r_5 u_6 H locs hw_7 hP hD hS => ?_)
    have hP : va_P (dC, dI) vwCl (wC cI cZ h F V) H := hP
    have hD : va_D A (wC cI cZ h F V) := hD
    have hw_7 : r_5 = bI (isW p1 0 10000) := hw_7
    refine lv_if_ne (tgt := 30) hx hb dX4_limit_21 (by decide) (fun c_8 => ?_) (fun c_8 => ?_)
    · have c_8 : isW p1 0 10000 = true := bI_t hw_7 c_8
      refine lv_aload_n hx hb dX4_limit_30 rfl (lv_at hl 0 rfl) ?_
      refine va_get (D := (dC, dI)) (ci := 4) (v := .ref (h 2)) (C := RX4) (T := TX4) (N := 5) hx hb hts hin_X4 hown hK hP 0 rfl rfl 1 (by decide) hw0 (fun _ h9 => h9) rfl dX4_limit_31 ?_
      refine lv_iload_n hx hb dX4_limit_34 rfl (lv_at hl 1 rfl) ?_
      refine lv_iload_n hx hb dX4_limit_35 rfl (lv_at hl 2 rfl) ?_
      obtain ⟨k0, hk0, rfl⟩ := isW_nat (M := 3) (n := 3) (by decide) c_4
      refine cw_Vv (As := [.int (nI k0), .int p1]) (rest := []) (c_X0_setLimit l dC dI cI cZ cJ h F V k0 p1 (by omega)) fx (cwV 2 hts gX4_limit_X0_setLimit rfl rfl rfl (by decide +kernel) ⟨Nat.le_of_ble_eq_true rfl, Nat.le_of_ble_eq_true rfl⟩) hK hP hD hS hA 2 rfl rfl rfl rfl hl.1 rfl (Nat.le_of_ble_eq_true rfl) dX4_limit_36 ⟨Nat.le_of_ble_eq_true rfl, Nat.le_of_ble_eq_true rfl⟩ (fun u_10 H locs hw_11 hP hD hS => ?_)
      obtain ⟨F_12, V_13⟩ := u_10
      have hP : va_P (dC, dI) vwCl (wC cI cZ h F_12 V_13) H := hP
      have hD : va_D A (wC cI cZ h F_12 V_13) := hD
      refine lv_aload_n hx hb dX4_limit_39 rfl (lv_at hl 0 rfl) ?_
      refine cw_Vi (As := []) (rest := []) (c_X4_allowed l dC dI cI cZ cJ h F_12 V_13) fx (cwV 0 hts gX4_limit_X4_allowed rfl rfl rfl (by decide +kernel) ⟨Nat.le_of_ble_eq_true rfl, Nat.le_of_ble_eq_true rfl⟩) hK hP hD hS hA 0 rfl rfl rfl rfl hl.1 rfl (Nat.le_of_ble_eq_true rfl) dX4_limit_40 ⟨Nat.le_of_ble_eq_true rfl, Nat.le_of_ble_eq_true rfl⟩ (fun r_14 u_15 H locs hw_16 hP hD hS => ?_)
      have hP : va_P (dC, dI) vwCl (wC cI cZ h F_12 (va_up V_13 0 0)) H := hP
      have hD : va_D A (wC cI cZ h F_12 (va_up V_13 0 0)) := hD
      obtain rfl : r_14 = 1 := hw_16
      exact hret 1 () H locs 43 ls rfl dX4_limit_43 (by first | rfl | (simp [a_in2, c_4, c_8]; done) | (exfalso; omega)) (hP.sub [] rfl) (hD.sub [] (by decide) rfl) hS
    · have c_8 : isW p1 0 10000 = false := bI_f hw_7 c_8
      refine lv_aload_n hx hb dX4_limit_24 rfl (lv_at hl 0 rfl) ?_
      refine lv_iconst (v := 2) hx hb dX4_limit_25 (by decide) ?_
      refine cw_Vi (As := [.int 2]) (rest := []) (c_X4_denied l dC dI cI cZ cJ h F V 2) fx (cwV 1 hts gX4_limit_X4_denied rfl rfl rfl (by decide +kernel) ⟨Nat.le_of_ble_eq_true rfl, Nat.le_of_ble_eq_true rfl⟩) hK hP hD hS hA 0 rfl rfl rfl rfl hl.1 rfl (Nat.le_of_ble_eq_true rfl) dX4_limit_26 ⟨Nat.le_of_ble_eq_true rfl, Nat.le_of_ble_eq_true rfl⟩ (fun r_17 u_18 H locs hw_19 hP hD hS => ?_)
      have hP : va_P (dC, dI) vwCl (wC cI cZ h F (va_up V 0 2)) H := hP
      have hD : va_D A (wC cI cZ h F (va_up V 0 2)) := hD
      obtain rfl : r_17 = 0 := hw_19
      exact hret 0 () H locs 29 ls rfl dX4_limit_29 (by first | rfl | (simp [a_in2, c_4, c_8]; done) | (exfalso; omega)) (hP.sub [] rfl) (hD.sub [] (by decide) rfl) hS
  · have c_4 : isW p0 0 3 = false := bI_f hw_3 c_4
    refine lv_aload_n hx hb dX4_limit_7 rfl (lv_at hl 0 rfl) ?_
    refine lv_iconst (v := 1) hx hb dX4_limit_8 (by decide) ?_
    refine cw_Vi (As := [.int 1]) (rest := []) (c_X4_denied l dC dI cI cZ cJ h F V 1) fx (cwV 1 hts gX4_limit_X4_denied rfl rfl rfl (by decide +kernel) ⟨Nat.le_of_ble_eq_true rfl, Nat.le_of_ble_eq_true rfl⟩) hK hP hD hS hA 0 rfl rfl rfl rfl hl.1 rfl (Nat.le_of_ble_eq_true rfl) dX4_limit_9 ⟨Nat.le_of_ble_eq_true rfl, Nat.le_of_ble_eq_true rfl⟩ (fun r_20 u_21 H locs hw_22 hP hD hS => ?_)
    have hP : va_P (dC, dI) vwCl (wC cI cZ h F (va_up V 0 1)) H := hP
    have hD : va_D A (wC cI cZ h F (va_up V 0 1)) := hD
    obtain rfl : r_20 = 0 := hw_22
    exact hret 0 () H locs 12 ls rfl dX4_limit_12 (by first | rfl | (simp [a_in2, c_4]; done) | (exfalso; omega)) (hP.sub [] rfl) (hD.sub [] (by decide) rfl) hS
def rm_X4_wind : Room := { frames := 2, cells := 0, slots := 0, locals := 42 }
set_option maxHeartbeats 4000000 in
set_option maxRecDepth 100000 in
theorem c_X4_wind (l : Launch) (dC : Nat → ClassId) (dI : Nat → Nat → Nat) (cI cZ cJ : ClassId) (h : Nat → Nat) (F : Nat → Nat → Int32) (V : Nat → Int32) (p0 p1 : Int32)  : CtI l (dC, dI) vwCl (tys3 cI cZ cJ) yX4_wind wsX4_wind rm_X4_wind [.ref (h 0), .int p0, .int p1] (wC cI cZ h F V) (S := Unit) (fun r _ => r = a_in2 p0 23 p1 99) (fun _ => []) 0 0 := by
  refine ct_I (cc := cX4_wind) (maxL := 3) (ty := .boolean) (own := RX4) (by decide) rfl rfl (Nat.le_of_ble_eq_true rfl) (lv := [(0, .ref (h 0)), (1, .int p0), (2, .int p1)]) rfl ?_
  intro p e s m args below meth c A Q ls fx hK hP hD hA hl hret
  obtain ⟨hx, hb, hml, hown, hts⟩ := id fx
  have hS : va_S A s.heap s.heap [] := va_S.rf
  have hw0 := hts (.fieldLink RX4 10 "MirrorTower" "field" "LMirrorTower$Field;") (by decide +kernel)
  have hin_X4 : ∀ w ∈ u_ws RX4 TX4 5, w ∈ wsX4_wind := by decide +kernel
  obtain ⟨H, hH⟩ : ∃ H, H = s.heap := ⟨_, rfl⟩
  rw [← hH] at hP ⊢
  have hS : va_S A s.heap H [] := by rw [hH]; exact hS
  generalize ([] : List Loc) = locs at hS ⊢
  refine lv_iload_n hx hb dX4_wind_0 rfl (lv_at hl 1 rfl) ?_
  refine cw_Si (As := [.int p0]) (rest := []) (c_X4_isHour l dC dI cI cZ cJ (wC cI cZ h F V) p0) fx (va_cwS 1 hts gX4_wind_X4_isHour rfl rfl rfl (by decide +kernel) ⟨Nat.le_of_ble_eq_true rfl, Nat.le_of_ble_eq_true rfl⟩) hK hP hD hS hA rfl hl.1 rfl (Nat.le_of_ble_eq_true rfl) dX4_wind_1 ⟨Nat.le_of_ble_eq_true rfl, Nat.le_of_ble_eq_true rfl⟩ (fun r_1 u_2 H locs hw_3 hP hD hS => ?_)
  have hP : va_P (dC, dI) vwCl (wC cI cZ h F V) H := hP
  have hD : va_D A (wC cI cZ h F V) := hD
  have hw_3 : r_1 = bI (isW p0 0 23) := hw_3
  refine lv_if_eq (tgt := 17) hx hb dX4_wind_4 (by decide) (fun c_4 => ?_) (fun c_4 => ?_)
  · have c_4 : isW p0 0 23 = false := bI_f hw_3 c_4
    refine lv_aload_n hx hb dX4_wind_17 rfl (lv_at hl 0 rfl) ?_
    refine lv_iconst (v := 2) hx hb dX4_wind_18 (by decide) ?_
    refine cw_Vi (As := [.int 2]) (rest := []) (c_X4_denied l dC dI cI cZ cJ h F V 2) fx (cwV 1 hts gX4_wind_X4_denied rfl rfl rfl (by decide +kernel) ⟨Nat.le_of_ble_eq_true rfl, Nat.le_of_ble_eq_true rfl⟩) hK hP hD hS hA 0 rfl rfl rfl rfl hl.1 rfl (Nat.le_of_ble_eq_true rfl) dX4_wind_19 ⟨Nat.le_of_ble_eq_true rfl, Nat.le_of_ble_eq_true rfl⟩ (fun r_5 u_6 H locs hw_7 hP hD hS => ?_)
    have hP : va_P (dC, dI) vwCl (wC cI cZ h F (va_up V 0 2)) H := hP
    have hD : va_D A (wC cI cZ h F (va_up V 0 2)) := hD
    obtain rfl : r_5 = 0 := hw_7
    exact hret 0 () H locs 22 ls rfl dX4_wind_22 (by first | rfl | (simp [a_in2, c_4]; done) | (exfalso; omega)) (hP.sub [] rfl) (hD.sub [] (by decide) rfl) hS
  · have c_4 : isW p0 0 23 = true := bI_t hw_3 c_4
    refine lv_iload_n hx hb dX4_wind_7 rfl (lv_at hl 2 rfl) ?_
    refine lv_iconst (v := 0) hx hb dX4_wind_8 (by decide) ?_
    refine lv_bipush (v := 99) hx hb dX4_wind_9 (by decide) ?_
    refine cw_Si (As := [.int p1, .int 0, .int 99]) (rest := []) (c_X4_isWithin l dC dI cI cZ cJ (wC cI cZ h F V) p1 0 99) fx (va_cwS 3 hts gX4_wind_X4_isWithin rfl rfl rfl (by decide +kernel) ⟨Nat.le_of_ble_eq_true rfl, Nat.le_of_ble_eq_true rfl⟩) hK hP hD hS hA rfl hl.1 rfl (Nat.le_of_ble_eq_true rfl) dX4_wind_11 ⟨Nat.le_of_ble_eq_true rfl, Nat.le_of_ble_eq_true rfl⟩ (fun r_8 u_9 H locs hw_10 hP hD hS => ?_)
    have hP : va_P (dC, dI) vwCl (wC cI cZ h F V) H := hP
    have hD : va_D A (wC cI cZ h F V) := hD
    have hw_10 : r_8 = bI (isW p1 0 99) := hw_10
    refine lv_if_ne (tgt := 23) hx hb dX4_wind_14 (by decide) (fun c_11 => ?_) (fun c_11 => ?_)
    · have c_11 : isW p1 0 99 = true := bI_t hw_10 c_11
      refine lv_aload_n hx hb dX4_wind_23 rfl (lv_at hl 0 rfl) ?_
      refine va_get (D := (dC, dI)) (ci := 4) (v := .ref (h 1)) (C := RX4) (T := TX4) (N := 5) hx hb hts hin_X4 hown hK hP 0 rfl rfl 0 (by decide) hw0 (fun _ h9 => h9) rfl dX4_wind_24 ?_
      refine lv_iload_n hx hb dX4_wind_27 rfl (lv_at hl 1 rfl) ?_
      refine lv_iload_n hx hb dX4_wind_28 rfl (lv_at hl 2 rfl) ?_
      obtain ⟨k0, hk0, rfl⟩ := isW_nat (M := 23) (n := 23) (by decide) c_4
      refine cw_Vv (As := [.int (nI k0), .int p1]) (rest := []) (c_X1_setWind l dC dI cI cZ cJ h F V k0 p1 (by omega)) fx (cwV 2 hts gX4_wind_X1_setWind rfl rfl rfl (by decide +kernel) ⟨Nat.le_of_ble_eq_true rfl, Nat.le_of_ble_eq_true rfl⟩) hK hP hD hS hA 1 rfl rfl rfl rfl hl.1 rfl (Nat.le_of_ble_eq_true rfl) dX4_wind_29 ⟨Nat.le_of_ble_eq_true rfl, Nat.le_of_ble_eq_true rfl⟩ (fun u_13 H locs hw_14 hP hD hS => ?_)
      obtain ⟨F_15, V_16⟩ := u_13
      have hP : va_P (dC, dI) vwCl (wC cI cZ h F_15 V_16) H := hP
      have hD : va_D A (wC cI cZ h F_15 V_16) := hD
      refine lv_aload_n hx hb dX4_wind_32 rfl (lv_at hl 0 rfl) ?_
      refine cw_Vi (As := []) (rest := []) (c_X4_allowed l dC dI cI cZ cJ h F_15 V_16) fx (cwV 0 hts gX4_wind_X4_allowed rfl rfl rfl (by decide +kernel) ⟨Nat.le_of_ble_eq_true rfl, Nat.le_of_ble_eq_true rfl⟩) hK hP hD hS hA 0 rfl rfl rfl rfl hl.1 rfl (Nat.le_of_ble_eq_true rfl) dX4_wind_33 ⟨Nat.le_of_ble_eq_true rfl, Nat.le_of_ble_eq_true rfl⟩ (fun r_17 u_18 H locs hw_19 hP hD hS => ?_)
      have hP : va_P (dC, dI) vwCl (wC cI cZ h F_15 (va_up V_16 0 0)) H := hP
      have hD : va_D A (wC cI cZ h F_15 (va_up V_16 0 0)) := hD
      obtain rfl : r_17 = 1 := hw_19
      exact hret 1 () H locs 36 ls rfl dX4_wind_36 (by first | rfl | (simp [a_in2, c_4, c_11]; done) | (exfalso; omega)) (hP.sub [] rfl) (hD.sub [] (by decide) rfl) hS
    · have c_11 : isW p1 0 99 = false := bI_f hw_10 c_11
      refine lv_aload_n hx hb dX4_wind_17 rfl (lv_at hl 0 rfl) ?_
      refine lv_iconst (v := 2) hx hb dX4_wind_18 (by decide) ?_
      refine cw_Vi (As := [.int 2]) (rest := []) (c_X4_denied l dC dI cI cZ cJ h F V 2) fx (cwV 1 hts gX4_wind_X4_denied rfl rfl rfl (by decide +kernel) ⟨Nat.le_of_ble_eq_true rfl, Nat.le_of_ble_eq_true rfl⟩) hK hP hD hS hA 0 rfl rfl rfl rfl hl.1 rfl (Nat.le_of_ble_eq_true rfl) dX4_wind_19 ⟨Nat.le_of_ble_eq_true rfl, Nat.le_of_ble_eq_true rfl⟩ (fun r_20 u_21 H locs hw_22 hP hD hS => ?_)
      have hP : va_P (dC, dI) vwCl (wC cI cZ h F (va_up V 0 2)) H := hP
      have hD : va_D A (wC cI cZ h F (va_up V 0 2)) := hD
      obtain rfl : r_20 = 0 := hw_22
      exact hret 0 () H locs 22 ls rfl dX4_wind_22 (by first | rfl | (simp [a_in2, c_4, c_11]; done) | (exfalso; omega)) (hP.sub [] rfl) (hD.sub [] (by decide) rfl) hS
def rm_X4_price : Room := { frames := 2, cells := 0, slots := 0, locals := 42 }
set_option maxHeartbeats 4000000 in
set_option maxRecDepth 100000 in
theorem c_X4_price (l : Launch) (dC : Nat → ClassId) (dI : Nat → Nat → Nat) (cI cZ cJ : ClassId) (h : Nat → Nat) (F : Nat → Nat → Int32) (V : Nat → Int32) (p0 p1 : Int32)  : CtI l (dC, dI) vwCl (tys3 cI cZ cJ) yX4_price wsX4_price rm_X4_price [.ref (h 0), .int p0, .int p1] (wC cI cZ h F V) (S := Unit) (fun r _ => r = a_in2 p0 23 p1 999) (fun _ => []) 0 0 := by
  refine ct_I (cc := cX4_price) (maxL := 3) (ty := .boolean) (own := RX4) (by decide) rfl rfl (Nat.le_of_ble_eq_true rfl) (lv := [(0, .ref (h 0)), (1, .int p0), (2, .int p1)]) rfl ?_
  intro p e s m args below meth c A Q ls fx hK hP hD hA hl hret
  obtain ⟨hx, hb, hml, hown, hts⟩ := id fx
  have hS : va_S A s.heap s.heap [] := va_S.rf
  have hw0 := hts (.fieldLink RX4 30 "MirrorTower" "store" "LMirrorTower$Store;") (by decide +kernel)
  have hin_X4 : ∀ w ∈ u_ws RX4 TX4 5, w ∈ wsX4_price := by decide +kernel
  obtain ⟨H, hH⟩ : ∃ H, H = s.heap := ⟨_, rfl⟩
  rw [← hH] at hP ⊢
  have hS : va_S A s.heap H [] := by rw [hH]; exact hS
  generalize ([] : List Loc) = locs at hS ⊢
  refine lv_iload_n hx hb dX4_price_0 rfl (lv_at hl 1 rfl) ?_
  refine cw_Si (As := [.int p0]) (rest := []) (c_X4_isHour l dC dI cI cZ cJ (wC cI cZ h F V) p0) fx (va_cwS 1 hts gX4_price_X4_isHour rfl rfl rfl (by decide +kernel) ⟨Nat.le_of_ble_eq_true rfl, Nat.le_of_ble_eq_true rfl⟩) hK hP hD hS hA rfl hl.1 rfl (Nat.le_of_ble_eq_true rfl) dX4_price_1 ⟨Nat.le_of_ble_eq_true rfl, Nat.le_of_ble_eq_true rfl⟩ (fun r_1 u_2 H locs hw_3 hP hD hS => ?_)
  have hP : va_P (dC, dI) vwCl (wC cI cZ h F V) H := hP
  have hD : va_D A (wC cI cZ h F V) := hD
  have hw_3 : r_1 = bI (isW p0 0 23) := hw_3
  refine lv_if_eq (tgt := 18) hx hb dX4_price_4 (by decide) (fun c_4 => ?_) (fun c_4 => ?_)
  · have c_4 : isW p0 0 23 = false := bI_f hw_3 c_4
    refine lv_aload_n hx hb dX4_price_18 rfl (lv_at hl 0 rfl) ?_
    refine lv_iconst (v := 2) hx hb dX4_price_19 (by decide) ?_
    refine cw_Vi (As := [.int 2]) (rest := []) (c_X4_denied l dC dI cI cZ cJ h F V 2) fx (cwV 1 hts gX4_price_X4_denied rfl rfl rfl (by decide +kernel) ⟨Nat.le_of_ble_eq_true rfl, Nat.le_of_ble_eq_true rfl⟩) hK hP hD hS hA 0 rfl rfl rfl rfl hl.1 rfl (Nat.le_of_ble_eq_true rfl) dX4_price_20 ⟨Nat.le_of_ble_eq_true rfl, Nat.le_of_ble_eq_true rfl⟩ (fun r_5 u_6 H locs hw_7 hP hD hS => ?_)
    have hP : va_P (dC, dI) vwCl (wC cI cZ h F (va_up V 0 2)) H := hP
    have hD : va_D A (wC cI cZ h F (va_up V 0 2)) := hD
    obtain rfl : r_5 = 0 := hw_7
    exact hret 0 () H locs 23 ls rfl dX4_price_23 (by first | rfl | (simp [a_in2, c_4]; done) | (exfalso; omega)) (hP.sub [] rfl) (hD.sub [] (by decide) rfl) hS
  · have c_4 : isW p0 0 23 = true := bI_t hw_3 c_4
    refine lv_iload_n hx hb dX4_price_7 rfl (lv_at hl 2 rfl) ?_
    refine lv_iconst (v := 0) hx hb dX4_price_8 (by decide) ?_
    refine lv_sipush (v := 999) hx hb dX4_price_9 (by decide) ?_
    refine cw_Si (As := [.int p1, .int 0, .int 999]) (rest := []) (c_X4_isWithin l dC dI cI cZ cJ (wC cI cZ h F V) p1 0 999) fx (va_cwS 3 hts gX4_price_X4_isWithin rfl rfl rfl (by decide +kernel) ⟨Nat.le_of_ble_eq_true rfl, Nat.le_of_ble_eq_true rfl⟩) hK hP hD hS hA rfl hl.1 rfl (Nat.le_of_ble_eq_true rfl) dX4_price_12 ⟨Nat.le_of_ble_eq_true rfl, Nat.le_of_ble_eq_true rfl⟩ (fun r_8 u_9 H locs hw_10 hP hD hS => ?_)
    have hP : va_P (dC, dI) vwCl (wC cI cZ h F V) H := hP
    have hD : va_D A (wC cI cZ h F V) := hD
    have hw_10 : r_8 = bI (isW p1 0 999) := hw_10
    refine lv_if_ne (tgt := 24) hx hb dX4_price_15 (by decide) (fun c_11 => ?_) (fun c_11 => ?_)
    · have c_11 : isW p1 0 999 = true := bI_t hw_10 c_11
      refine lv_aload_n hx hb dX4_price_24 rfl (lv_at hl 0 rfl) ?_
      refine va_get (D := (dC, dI)) (ci := 4) (v := .ref (h 3)) (C := RX4) (T := TX4) (N := 5) hx hb hts hin_X4 hown hK hP 0 rfl rfl 2 (by decide) hw0 (fun _ h9 => h9) rfl dX4_price_25 ?_
      refine lv_iload_n hx hb dX4_price_28 rfl (lv_at hl 1 rfl) ?_
      refine lv_iload_n hx hb dX4_price_29 rfl (lv_at hl 2 rfl) ?_
      obtain ⟨k0, hk0, rfl⟩ := isW_nat (M := 23) (n := 23) (by decide) c_4
      refine cw_Vv (As := [.int (nI k0), .int p1]) (rest := []) (c_X3_setPrice l dC dI cI cZ cJ h F V k0 p1 (by omega)) fx (cwV 2 hts gX4_price_X3_setPrice rfl rfl rfl (by decide +kernel) ⟨Nat.le_of_ble_eq_true rfl, Nat.le_of_ble_eq_true rfl⟩) hK hP hD hS hA 3 rfl rfl rfl rfl hl.1 rfl (Nat.le_of_ble_eq_true rfl) dX4_price_30 ⟨Nat.le_of_ble_eq_true rfl, Nat.le_of_ble_eq_true rfl⟩ (fun u_13 H locs hw_14 hP hD hS => ?_)
      obtain ⟨F_15, V_16⟩ := u_13
      have hP : va_P (dC, dI) vwCl (wC cI cZ h F_15 V_16) H := hP
      have hD : va_D A (wC cI cZ h F_15 V_16) := hD
      refine lv_aload_n hx hb dX4_price_33 rfl (lv_at hl 0 rfl) ?_
      refine cw_Vi (As := []) (rest := []) (c_X4_allowed l dC dI cI cZ cJ h F_15 V_16) fx (cwV 0 hts gX4_price_X4_allowed rfl rfl rfl (by decide +kernel) ⟨Nat.le_of_ble_eq_true rfl, Nat.le_of_ble_eq_true rfl⟩) hK hP hD hS hA 0 rfl rfl rfl rfl hl.1 rfl (Nat.le_of_ble_eq_true rfl) dX4_price_34 ⟨Nat.le_of_ble_eq_true rfl, Nat.le_of_ble_eq_true rfl⟩ (fun r_17 u_18 H locs hw_19 hP hD hS => ?_)
      have hP : va_P (dC, dI) vwCl (wC cI cZ h F_15 (va_up V_16 0 0)) H := hP
      have hD : va_D A (wC cI cZ h F_15 (va_up V_16 0 0)) := hD
      obtain rfl : r_17 = 1 := hw_19
      exact hret 1 () H locs 37 ls rfl dX4_price_37 (by first | rfl | (simp [a_in2, c_4, c_11]; done) | (exfalso; omega)) (hP.sub [] rfl) (hD.sub [] (by decide) rfl) hS
    · have c_11 : isW p1 0 999 = false := bI_f hw_10 c_11
      refine lv_aload_n hx hb dX4_price_18 rfl (lv_at hl 0 rfl) ?_
      refine lv_iconst (v := 2) hx hb dX4_price_19 (by decide) ?_
      refine cw_Vi (As := [.int 2]) (rest := []) (c_X4_denied l dC dI cI cZ cJ h F V 2) fx (cwV 1 hts gX4_price_X4_denied rfl rfl rfl (by decide +kernel) ⟨Nat.le_of_ble_eq_true rfl, Nat.le_of_ble_eq_true rfl⟩) hK hP hD hS hA 0 rfl rfl rfl rfl hl.1 rfl (Nat.le_of_ble_eq_true rfl) dX4_price_20 ⟨Nat.le_of_ble_eq_true rfl, Nat.le_of_ble_eq_true rfl⟩ (fun r_20 u_21 H locs hw_22 hP hD hS => ?_)
      have hP : va_P (dC, dI) vwCl (wC cI cZ h F (va_up V 0 2)) H := hP
      have hD : va_D A (wC cI cZ h F (va_up V 0 2)) := hD
      obtain rfl : r_20 = 0 := hw_22
      exact hret 0 () H locs 23 ls rfl dX4_price_23 (by first | rfl | (simp [a_in2, c_4, c_11]; done) | (exfalso; omega)) (hP.sub [] rfl) (hD.sub [] (by decide) rfl) hS
def rm_X4_dust : Room := { frames := 1, cells := 0, slots := 0, locals := 22 }
set_option maxHeartbeats 4000000 in
set_option maxRecDepth 100000 in
theorem c_X4_dust (l : Launch) (dC : Nat → ClassId) (dI : Nat → Nat → Nat) (cI cZ cJ : ClassId) (h : Nat → Nat) (F : Nat → Nat → Int32) (V : Nat → Int32) (p0 : Int32)  : CtI l (dC, dI) vwCl (tys3 cI cZ cJ) yX4_dust wsX4_dust rm_X4_dust [.ref (h 0), .int p0] (wC cI cZ h F V) (S := Unit) (fun r _ => r = if isW p0 0 20 then 1 else 0) (fun _ => []) 0 0 := by
  refine ct_I (cc := cX4_dust) (maxL := 2) (ty := .boolean) (own := RX4) (by decide) rfl rfl (Nat.le_of_ble_eq_true rfl) (lv := [(0, .ref (h 0)), (1, .int p0)]) rfl ?_
  intro p e s m args below meth c A Q ls fx hK hP hD hA hl hret
  obtain ⟨hx, hb, hml, hown, hts⟩ := id fx
  have hS : va_S A s.heap s.heap [] := va_S.rf
  have hw0 := hts (.fieldLink RX4 10 "MirrorTower" "field" "LMirrorTower$Field;") (by decide +kernel)
  have hin_X4 : ∀ w ∈ u_ws RX4 TX4 5, w ∈ wsX4_dust := by decide +kernel
  obtain ⟨H, hH⟩ : ∃ H, H = s.heap := ⟨_, rfl⟩
  rw [← hH] at hP ⊢
  have hS : va_S A s.heap H [] := by rw [hH]; exact hS
  generalize ([] : List Loc) = locs at hS ⊢
  refine lv_iload_n hx hb dX4_dust_0 rfl (lv_at hl 1 rfl) ?_
  refine lv_iconst (v := 0) hx hb dX4_dust_1 (by decide) ?_
  refine lv_bipush (v := 20) hx hb dX4_dust_2 (by decide) ?_
  refine cw_Si (As := [.int p0, .int 0, .int 20]) (rest := []) (c_X4_isWithin l dC dI cI cZ cJ (wC cI cZ h F V) p0 0 20) fx (va_cwS 3 hts gX4_dust_X4_isWithin rfl rfl rfl (by decide +kernel) ⟨Nat.le_of_ble_eq_true rfl, Nat.le_of_ble_eq_true rfl⟩) hK hP hD hS hA rfl hl.1 rfl (Nat.le_of_ble_eq_true rfl) dX4_dust_4 ⟨Nat.le_of_ble_eq_true rfl, Nat.le_of_ble_eq_true rfl⟩ (fun r_1 u_2 H locs hw_3 hP hD hS => ?_)
  have hP : va_P (dC, dI) vwCl (wC cI cZ h F V) H := hP
  have hD : va_D A (wC cI cZ h F V) := hD
  have hw_3 : r_1 = bI (isW p0 0 20) := hw_3
  refine lv_if_ne (tgt := 16) hx hb dX4_dust_7 (by decide) (fun c_4 => ?_) (fun c_4 => ?_)
  · have c_4 : isW p0 0 20 = true := bI_t hw_3 c_4
    refine lv_aload_n hx hb dX4_dust_16 rfl (lv_at hl 0 rfl) ?_
    refine va_get (D := (dC, dI)) (ci := 4) (v := .ref (h 1)) (C := RX4) (T := TX4) (N := 5) hx hb hts hin_X4 hown hK hP 0 rfl rfl 0 (by decide) hw0 (fun _ h9 => h9) rfl dX4_dust_17 ?_
    refine lv_iload_n hx hb dX4_dust_20 rfl (lv_at hl 1 rfl) ?_
    refine cw_Vv (As := [.int p0]) (rest := []) (c_X1_setDust l dC dI cI cZ cJ h F V p0) fx (cwV 1 hts gX4_dust_X1_setDust rfl rfl rfl (by decide +kernel) ⟨Nat.le_of_ble_eq_true rfl, Nat.le_of_ble_eq_true rfl⟩) hK hP hD hS hA 1 rfl rfl rfl rfl hl.1 rfl (Nat.le_of_ble_eq_true rfl) dX4_dust_21 ⟨Nat.le_of_ble_eq_true rfl, Nat.le_of_ble_eq_true rfl⟩ (fun u_6 H locs hw_7 hP hD hS => ?_)
    obtain ⟨F_8, V_9⟩ := u_6
    have hP : va_P (dC, dI) vwCl (wC cI cZ h F_8 V_9) H := hP
    have hD : va_D A (wC cI cZ h F_8 V_9) := hD
    refine lv_aload_n hx hb dX4_dust_24 rfl (lv_at hl 0 rfl) ?_
    refine cw_Vi (As := []) (rest := []) (c_X4_allowed l dC dI cI cZ cJ h F_8 V_9) fx (cwV 0 hts gX4_dust_X4_allowed rfl rfl rfl (by decide +kernel) ⟨Nat.le_of_ble_eq_true rfl, Nat.le_of_ble_eq_true rfl⟩) hK hP hD hS hA 0 rfl rfl rfl rfl hl.1 rfl (Nat.le_of_ble_eq_true rfl) dX4_dust_25 ⟨Nat.le_of_ble_eq_true rfl, Nat.le_of_ble_eq_true rfl⟩ (fun r_10 u_11 H locs hw_12 hP hD hS => ?_)
    have hP : va_P (dC, dI) vwCl (wC cI cZ h F_8 (va_up V_9 0 0)) H := hP
    have hD : va_D A (wC cI cZ h F_8 (va_up V_9 0 0)) := hD
    obtain rfl : r_10 = 1 := hw_12
    exact hret 1 () H locs 28 ls rfl dX4_dust_28 (by first | rfl | (simp [c_4]; done) | (exfalso; omega)) (hP.sub [] rfl) (hD.sub [] (by decide) rfl) hS
  · have c_4 : isW p0 0 20 = false := bI_f hw_3 c_4
    refine lv_aload_n hx hb dX4_dust_10 rfl (lv_at hl 0 rfl) ?_
    refine lv_iconst (v := 2) hx hb dX4_dust_11 (by decide) ?_
    refine cw_Vi (As := [.int 2]) (rest := []) (c_X4_denied l dC dI cI cZ cJ h F V 2) fx (cwV 1 hts gX4_dust_X4_denied rfl rfl rfl (by decide +kernel) ⟨Nat.le_of_ble_eq_true rfl, Nat.le_of_ble_eq_true rfl⟩) hK hP hD hS hA 0 rfl rfl rfl rfl hl.1 rfl (Nat.le_of_ble_eq_true rfl) dX4_dust_12 ⟨Nat.le_of_ble_eq_true rfl, Nat.le_of_ble_eq_true rfl⟩ (fun r_13 u_14 H locs hw_15 hP hD hS => ?_)
    have hP : va_P (dC, dI) vwCl (wC cI cZ h F (va_up V 0 2)) H := hP
    have hD : va_D A (wC cI cZ h F (va_up V 0 2)) := hD
    obtain rfl : r_13 = 0 := hw_15
    exact hret 0 () H locs 15 ls rfl dX4_dust_15 (by first | rfl | (simp [c_4]; done) | (exfalso; omega)) (hP.sub [] rfl) (hD.sub [] (by decide) rfl) hS
def rm_X4_isMirror : Room := { frames := 1, cells := 0, slots := 0, locals := 22 }
set_option maxHeartbeats 4000000 in
set_option maxRecDepth 100000 in
theorem c_X4_isMirror (l : Launch) (dC : Nat → ClassId) (dI : Nat → Nat → Nat) (cI cZ cJ : ClassId) (h : Nat → Nat) (F : Nat → Nat → Int32) (V : Nat → Int32) (p0 : Int32) (hV1 : V 1 = 0) : CtI l (dC, dI) vwCl (tys3 cI cZ cJ) yX4_isMirror wsX4_isMirror rm_X4_isMirror [.ref (h 0), .int p0] (wC cI cZ h F V) (S := Unit) (fun r _ => r = 0) (fun _ => wC cI cZ h F V) 0 0 := by
  refine ct_I (cc := cX4_isMirror) (maxL := 2) (ty := .boolean) (own := RX4) (by decide) rfl rfl (Nat.le_of_ble_eq_true rfl) (lv := [(0, .ref (h 0)), (1, .int p0)]) rfl ?_
  intro p e s m args below meth c A Q ls fx hK hP hD hA hl hret
  obtain ⟨hx, hb, hml, hown, hts⟩ := id fx
  have hS : va_S A s.heap s.heap [] := va_S.rf
  have hw0 := hts (.fieldLink RX4 10 "MirrorTower" "field" "LMirrorTower$Field;") (by decide +kernel)
  have hin_X4 : ∀ w ∈ u_ws RX4 TX4 5, w ∈ wsX4_isMirror := by decide +kernel
  obtain ⟨H, hH⟩ : ∃ H, H = s.heap := ⟨_, rfl⟩
  rw [← hH] at hP ⊢
  have hS : va_S A s.heap H [] := by rw [hH]; exact hS
  generalize ([] : List Loc) = locs at hS ⊢
  refine lv_iload_n hx hb dX4_isMirror_0 rfl (lv_at hl 1 rfl) ?_
  refine lv_iconst (v := 0) hx hb dX4_isMirror_1 (by decide) ?_
  refine lv_aload_n hx hb dX4_isMirror_2 rfl (lv_at hl 0 rfl) ?_
  refine va_get (D := (dC, dI)) (ci := 4) (v := .ref (h 1)) (C := RX4) (T := TX4) (N := 5) hx hb hts hin_X4 hown hK hP 0 rfl rfl 0 (by decide) hw0 (fun _ h9 => h9) rfl dX4_isMirror_3 ?_
  refine cw_Vi (As := []) (rest := [.int 0, .int p0]) (c_X1_size l dC dI cI cZ cJ h F V) fx (cwV 0 hts gX4_isMirror_X1_size rfl rfl rfl (by decide +kernel) ⟨Nat.le_of_ble_eq_true rfl, Nat.le_of_ble_eq_true rfl⟩) hK hP hD hS hA 1 rfl rfl rfl rfl hl.1 rfl (Nat.le_of_ble_eq_true rfl) dX4_isMirror_6 ⟨Nat.le_of_ble_eq_true rfl, Nat.le_of_ble_eq_true rfl⟩ (fun r_1 u_2 H locs hw_3 hP hD hS => ?_)
  have hP : va_P (dC, dI) vwCl (wC cI cZ h F V) H := hP
  have hD : va_D A (wC cI cZ h F V) := hD
  obtain rfl : r_1 = 0 := Eq.trans hw_3 hV1
  refine lv_iconst (v := 1) hx hb dX4_isMirror_9 (by decide) ?_
  refine lv_isub hx hb dX4_isMirror_10 ?_
  refine lv_topi (fun x_4 ex_4 => ?_)
  obtain rfl : x_4 = (-1) := ex_4.trans (by decide)
  refine cw_Si (As := [.int p0, .int 0, .int (-1)]) (rest := []) (c_X4_isWithin l dC dI cI cZ cJ (wC cI cZ h F V) p0 0 (-1)) fx (va_cwS 3 hts gX4_isMirror_X4_isWithin rfl rfl rfl (by decide +kernel) ⟨Nat.le_of_ble_eq_true rfl, Nat.le_of_ble_eq_true rfl⟩) hK hP hD hS hA rfl hl.1 rfl (Nat.le_of_ble_eq_true rfl) dX4_isMirror_11 ⟨Nat.le_of_ble_eq_true rfl, Nat.le_of_ble_eq_true rfl⟩ (fun r_5 u_6 H locs hw_7 hP hD hS => ?_)
  have hP : va_P (dC, dI) vwCl (wC cI cZ h F V) H := hP
  have hD : va_D A (wC cI cZ h F V) := hD
  have hw_7 : r_5 = bI (isW p0 0 (-1)) := hw_7
  exact hret r_5 () H locs 14 ls (by rw [hw_7]; exact bI_narrow _) dX4_isMirror_14 (by rw [hw_7, isW_none]; rfl) (hP) (hD) hS
def rm_X4_shaded : Room := { frames := 2, cells := 0, slots := 0, locals := 43 }
set_option maxHeartbeats 4000000 in
set_option maxRecDepth 100000 in
theorem c_X4_shaded (l : Launch) (dC : Nat → ClassId) (dI : Nat → Nat → Nat) (cI cZ cJ : ClassId) (h : Nat → Nat) (F : Nat → Nat → Int32) (V : Nat → Int32) (p0 p1 p2 : Int32) (hV1 : V 1 = 0) : CtI l (dC, dI) vwCl (tys3 cI cZ cJ) yX4_shaded wsX4_shaded rm_X4_shaded [.ref (h 0), .int p0, .int p1, .int p2] (wC cI cZ h F V) (S := Unit) (fun r _ => r = (-1)) (fun _ => []) 0 0 := by
  refine ct_I (cc := cX4_shaded) (maxL := 4) (ty := .int) (own := RX4) (by decide) rfl rfl (Nat.le_of_ble_eq_true rfl) (lv := [(0, .ref (h 0)), (1, .int p0), (2, .int p1), (3, .int p2)]) rfl ?_
  intro p e s m args below meth c A Q ls fx hK hP hD hA hl hret
  obtain ⟨hx, hb, hml, hown, hts⟩ := id fx
  have hS : va_S A s.heap s.heap [] := va_S.rf
  obtain ⟨H, hH⟩ : ∃ H, H = s.heap := ⟨_, rfl⟩
  rw [← hH] at hP ⊢
  have hS : va_S A s.heap H [] := by rw [hH]; exact hS
  generalize ([] : List Loc) = locs at hS ⊢
  refine lv_aload_n hx hb dX4_shaded_0 rfl (lv_at hl 0 rfl) ?_
  refine lv_iload_n hx hb dX4_shaded_1 rfl (lv_at hl 1 rfl) ?_
  refine cw_Vi (As := [.int p0]) (rest := []) (c_X4_isMirror l dC dI cI cZ cJ h F V p0 hV1) fx (cwV 1 hts gX4_shaded_X4_isMirror rfl rfl rfl (by decide +kernel) ⟨Nat.le_of_ble_eq_true rfl, Nat.le_of_ble_eq_true rfl⟩) hK hP hD hS hA 0 rfl rfl rfl rfl hl.1 rfl (Nat.le_of_ble_eq_true rfl) dX4_shaded_2 ⟨Nat.le_of_ble_eq_true rfl, Nat.le_of_ble_eq_true rfl⟩ (fun r_1 u_2 H locs hw_3 hP hD hS => ?_)
  have hP : va_P (dC, dI) vwCl (wC cI cZ h F V) H := hP
  have hD : va_D A (wC cI cZ h F V) := hD
  obtain rfl : r_1 = 0 := hw_3
  refine lv_if_eq (tgt := 15) hx hb dX4_shaded_5 (by decide) (fun c_4 => ?_) (fun c_4 => ?_)
  · refine lv_iconst (v := (-1)) hx hb dX4_shaded_15 (by decide) ?_
    exact hret (-1) () H locs 16 ls rfl dX4_shaded_16 (by first | rfl | (simp []; done) | (exfalso; omega)) (hP.sub [] rfl) (hD.sub [] (by decide) rfl) hS
  · exact absurd c_4 (by decide)
def rm_X4_power : Room := { frames := 2, cells := 0, slots := 0, locals := 43 }
set_option maxHeartbeats 4000000 in
set_option maxRecDepth 100000 in
theorem c_X4_power (l : Launch) (dC : Nat → ClassId) (dI : Nat → Nat → Nat) (cI cZ cJ : ClassId) (h : Nat → Nat) (F : Nat → Nat → Int32) (V : Nat → Int32) (p0 p1 : Int32) (hV1 : V 1 = 0) : CtI l (dC, dI) vwCl (tys3 cI cZ cJ) yX4_power wsX4_power rm_X4_power [.ref (h 0), .int p0, .int p1] (wC cI cZ h F V) (S := Unit) (fun r _ => r = (-1)) (fun _ => []) 0 0 := by
  refine ct_I (cc := cX4_power) (maxL := 3) (ty := .int) (own := RX4) (by decide) rfl rfl (Nat.le_of_ble_eq_true rfl) (lv := [(0, .ref (h 0)), (1, .int p0), (2, .int p1)]) rfl ?_
  intro p e s m args below meth c A Q ls fx hK hP hD hA hl hret
  obtain ⟨hx, hb, hml, hown, hts⟩ := id fx
  have hS : va_S A s.heap s.heap [] := va_S.rf
  obtain ⟨H, hH⟩ : ∃ H, H = s.heap := ⟨_, rfl⟩
  rw [← hH] at hP ⊢
  have hS : va_S A s.heap H [] := by rw [hH]; exact hS
  generalize ([] : List Loc) = locs at hS ⊢
  refine lv_aload_n hx hb dX4_power_0 rfl (lv_at hl 0 rfl) ?_
  refine lv_iload_n hx hb dX4_power_1 rfl (lv_at hl 1 rfl) ?_
  refine cw_Vi (As := [.int p0]) (rest := []) (c_X4_isMirror l dC dI cI cZ cJ h F V p0 hV1) fx (cwV 1 hts gX4_power_X4_isMirror rfl rfl rfl (by decide +kernel) ⟨Nat.le_of_ble_eq_true rfl, Nat.le_of_ble_eq_true rfl⟩) hK hP hD hS hA 0 rfl rfl rfl rfl hl.1 rfl (Nat.le_of_ble_eq_true rfl) dX4_power_2 ⟨Nat.le_of_ble_eq_true rfl, Nat.le_of_ble_eq_true rfl⟩ (fun r_1 u_2 H locs hw_3 hP hD hS => ?_)
  have hP : va_P (dC, dI) vwCl (wC cI cZ h F V) H := hP
  have hD : va_D A (wC cI cZ h F V) := hD
  obtain rfl : r_1 = 0 := hw_3
  refine lv_if_eq (tgt := 15) hx hb dX4_power_5 (by decide) (fun c_4 => ?_) (fun c_4 => ?_)
  · refine lv_iconst (v := (-1)) hx hb dX4_power_15 (by decide) ?_
    exact hret (-1) () H locs 16 ls rfl dX4_power_16 (by first | rfl | (simp []; done) | (exfalso; omega)) (hP.sub [] rfl) (hD.sub [] (by decide) rfl) hS
  · exact absurd c_4 (by decide)
def rm_X4_stowed : Room := { frames := 2, cells := 0, slots := 0, locals := 42 }
set_option maxHeartbeats 4000000 in
set_option maxRecDepth 100000 in
theorem c_X4_stowed (l : Launch) (dC : Nat → ClassId) (dI : Nat → Nat → Nat) (cI cZ cJ : ClassId) (h : Nat → Nat) (F : Nat → Nat → Int32) (V : Nat → Int32) (p0 : Int32)  (hF13 : ∀ i, i < 24 → F 13 i = 0) : CtI l (dC, dI) vwCl (tys3 cI cZ cJ) yX4_stowed wsX4_stowed rm_X4_stowed [.ref (h 0), .int p0] (wC cI cZ h F V) (S := Unit) (fun r _ => r = a_0 p0 0 23) (fun _ => []) 0 0 := by
  refine ct_I (cc := cX4_stowed) (maxL := 2) (ty := .int) (own := RX4) (by decide) rfl rfl (Nat.le_of_ble_eq_true rfl) (lv := [(0, .ref (h 0)), (1, .int p0)]) rfl ?_
  intro p e s m args below meth c A Q ls fx hK hP hD hA hl hret
  obtain ⟨hx, hb, hml, hown, hts⟩ := id fx
  have hS : va_S A s.heap s.heap [] := va_S.rf
  have hw0 := hts (.fieldLink RX4 10 "MirrorTower" "field" "LMirrorTower$Field;") (by decide +kernel)
  have hin_X4 : ∀ w ∈ u_ws RX4 TX4 5, w ∈ wsX4_stowed := by decide +kernel
  obtain ⟨H, hH⟩ : ∃ H, H = s.heap := ⟨_, rfl⟩
  rw [← hH] at hP ⊢
  have hS : va_S A s.heap H [] := by rw [hH]; exact hS
  generalize ([] : List Loc) = locs at hS ⊢
  refine lv_iload_n hx hb dX4_stowed_0 rfl (lv_at hl 1 rfl) ?_
  refine cw_Si (As := [.int p0]) (rest := []) (c_X4_isHour l dC dI cI cZ cJ (wC cI cZ h F V) p0) fx (va_cwS 1 hts gX4_stowed_X4_isHour rfl rfl rfl (by decide +kernel) ⟨Nat.le_of_ble_eq_true rfl, Nat.le_of_ble_eq_true rfl⟩) hK hP hD hS hA rfl hl.1 rfl (Nat.le_of_ble_eq_true rfl) dX4_stowed_1 ⟨Nat.le_of_ble_eq_true rfl, Nat.le_of_ble_eq_true rfl⟩ (fun r_1 u_2 H locs hw_3 hP hD hS => ?_)
  have hP : va_P (dC, dI) vwCl (wC cI cZ h F V) H := hP
  have hD : va_D A (wC cI cZ h F V) := hD
  have hw_3 : r_1 = bI (isW p0 0 23) := hw_3
  refine lv_if_ne (tgt := 9) hx hb dX4_stowed_4 (by decide) (fun c_4 => ?_) (fun c_4 => ?_)
  · have c_4 : isW p0 0 23 = true := bI_t hw_3 c_4
    refine lv_aload_n hx hb dX4_stowed_9 rfl (lv_at hl 0 rfl) ?_
    refine va_get (D := (dC, dI)) (ci := 4) (v := .ref (h 1)) (C := RX4) (T := TX4) (N := 5) hx hb hts hin_X4 hown hK hP 0 rfl rfl 0 (by decide) hw0 (fun _ h9 => h9) rfl dX4_stowed_10 ?_
    refine lv_iload_n hx hb dX4_stowed_13 rfl (lv_at hl 1 rfl) ?_
    obtain ⟨k0, hk0, rfl⟩ := isW_nat (M := 23) (n := 23) (by decide) c_4
    refine cw_Vi (As := [.int (nI k0)]) (rest := []) (c_X1_isStowed l dC dI cI cZ cJ h F V k0 (by omega) hF13) fx (cwV 1 hts gX4_stowed_X1_isStowed rfl rfl rfl (by decide +kernel) ⟨Nat.le_of_ble_eq_true rfl, Nat.le_of_ble_eq_true rfl⟩) hK hP hD hS hA 1 rfl rfl rfl rfl hl.1 rfl (Nat.le_of_ble_eq_true rfl) dX4_stowed_14 ⟨Nat.le_of_ble_eq_true rfl, Nat.le_of_ble_eq_true rfl⟩ (fun r_5 u_6 H locs hw_7 hP hD hS => ?_)
    have hP : va_P (dC, dI) vwCl (wC cI cZ h F V) H := hP
    have hD : va_D A (wC cI cZ h F V) := hD
    obtain rfl : r_5 = 0 := hw_7
    refine lv_if_eq (tgt := 24) hx hb dX4_stowed_17 (by decide) (fun c_8 => ?_) (fun c_8 => ?_)
    · refine lv_iconst (v := 0) hx hb dX4_stowed_24 (by decide) ?_
      exact hret 0 () H locs 25 ls rfl dX4_stowed_25 (by first | rfl | (simp [a_0, c_4]; done) | (exfalso; omega)) (hP.sub [] rfl) (hD.sub [] (by decide) rfl) hS
    · exact absurd c_8 (by decide)
  · have c_4 : isW p0 0 23 = false := bI_f hw_3 c_4
    refine lv_iconst (v := (-1)) hx hb dX4_stowed_7 (by decide) ?_
    exact hret (-1) () H locs 8 ls rfl dX4_stowed_8 (by first | rfl | (simp [a_0, c_4]; done) | (exfalso; omega)) (hP.sub [] rfl) (hD.sub [] (by decide) rfl) hS
def rm_X4_soil : Room := { frames := 2, cells := 0, slots := 0, locals := 43 }
set_option maxHeartbeats 4000000 in
set_option maxRecDepth 100000 in
theorem c_X4_soil (l : Launch) (dC : Nat → ClassId) (dI : Nat → Nat → Nat) (cI cZ cJ : ClassId) (h : Nat → Nat) (F : Nat → Nat → Int32) (V : Nat → Int32) (p0 : Int32) (hV1 : V 1 = 0) : CtI l (dC, dI) vwCl (tys3 cI cZ cJ) yX4_soil wsX4_soil rm_X4_soil [.ref (h 0), .int p0] (wC cI cZ h F V) (S := Unit) (fun r _ => r = (-1)) (fun _ => []) 0 0 := by
  refine ct_I (cc := cX4_soil) (maxL := 2) (ty := .int) (own := RX4) (by decide) rfl rfl (Nat.le_of_ble_eq_true rfl) (lv := [(0, .ref (h 0)), (1, .int p0)]) rfl ?_
  intro p e s m args below meth c A Q ls fx hK hP hD hA hl hret
  obtain ⟨hx, hb, hml, hown, hts⟩ := id fx
  have hS : va_S A s.heap s.heap [] := va_S.rf
  obtain ⟨H, hH⟩ : ∃ H, H = s.heap := ⟨_, rfl⟩
  rw [← hH] at hP ⊢
  have hS : va_S A s.heap H [] := by rw [hH]; exact hS
  generalize ([] : List Loc) = locs at hS ⊢
  refine lv_aload_n hx hb dX4_soil_0 rfl (lv_at hl 0 rfl) ?_
  refine lv_iload_n hx hb dX4_soil_1 rfl (lv_at hl 1 rfl) ?_
  refine cw_Vi (As := [.int p0]) (rest := []) (c_X4_isMirror l dC dI cI cZ cJ h F V p0 hV1) fx (cwV 1 hts gX4_soil_X4_isMirror rfl rfl rfl (by decide +kernel) ⟨Nat.le_of_ble_eq_true rfl, Nat.le_of_ble_eq_true rfl⟩) hK hP hD hS hA 0 rfl rfl rfl rfl hl.1 rfl (Nat.le_of_ble_eq_true rfl) dX4_soil_2 ⟨Nat.le_of_ble_eq_true rfl, Nat.le_of_ble_eq_true rfl⟩ (fun r_1 u_2 H locs hw_3 hP hD hS => ?_)
  have hP : va_P (dC, dI) vwCl (wC cI cZ h F V) H := hP
  have hD : va_D A (wC cI cZ h F V) := hD
  obtain rfl : r_1 = 0 := hw_3
  refine lv_if_eq (tgt := 20) hx hb dX4_soil_5 (by decide) (fun c_4 => ?_) (fun c_4 => ?_)
  · refine lv_iconst (v := (-1)) hx hb dX4_soil_20 (by decide) ?_
    exact hret (-1) () H locs 21 ls rfl dX4_soil_21 (by first | rfl | (simp []; done) | (exfalso; omega)) (hP.sub [] rfl) (hD.sub [] (by decide) rfl) hS
  · exact absurd c_4 (by decide)
def rm_X4_wash : Room := { frames := 2, cells := 0, slots := 0, locals := 37 }
set_option maxHeartbeats 4000000 in
set_option maxRecDepth 100000 in
theorem c_X4_wash (l : Launch) (dC : Nat → ClassId) (dI : Nat → Nat → Nat) (cI cZ cJ : ClassId) (h : Nat → Nat) (F : Nat → Nat → Int32) (V : Nat → Int32) (p0 : Int32) (hV1 : V 1 = 0) : CtI l (dC, dI) vwCl (tys3 cI cZ cJ) yX4_wash wsX4_wash rm_X4_wash [.ref (h 0), .int p0] (wC cI cZ h F V) (S := Unit) (fun r _ => r = a_0 p0 1 40) (fun _ => []) 0 0 := by
  refine ct_I (cc := cX4_wash) (maxL := 2) (ty := .int) (own := RX4) (by decide) rfl rfl (Nat.le_of_ble_eq_true rfl) (lv := [(0, .ref (h 0)), (1, .int p0)]) rfl ?_
  intro p e s m args below meth c A Q ls fx hK hP hD hA hl hret
  obtain ⟨hx, hb, hml, hown, hts⟩ := id fx
  have hS : va_S A s.heap s.heap [] := va_S.rf
  have hw0 := hts (.fieldLink RX4 10 "MirrorTower" "field" "LMirrorTower$Field;") (by decide +kernel)
  have hin_X4 : ∀ w ∈ u_ws RX4 TX4 5, w ∈ wsX4_wash := by decide +kernel
  obtain ⟨H, hH⟩ : ∃ H, H = s.heap := ⟨_, rfl⟩
  rw [← hH] at hP ⊢
  have hS : va_S A s.heap H [] := by rw [hH]; exact hS
  generalize ([] : List Loc) = locs at hS ⊢
  refine lv_iload_n hx hb dX4_wash_0 rfl (lv_at hl 1 rfl) ?_
  refine lv_iconst (v := 1) hx hb dX4_wash_1 (by decide) ?_
  refine lv_bipush (v := 40) hx hb dX4_wash_2 (by decide) ?_
  refine cw_Si (As := [.int p0, .int 1, .int 40]) (rest := []) (c_X4_isWithin l dC dI cI cZ cJ (wC cI cZ h F V) p0 1 40) fx (va_cwS 3 hts gX4_wash_X4_isWithin rfl rfl rfl (by decide +kernel) ⟨Nat.le_of_ble_eq_true rfl, Nat.le_of_ble_eq_true rfl⟩) hK hP hD hS hA rfl hl.1 rfl (Nat.le_of_ble_eq_true rfl) dX4_wash_4 ⟨Nat.le_of_ble_eq_true rfl, Nat.le_of_ble_eq_true rfl⟩ (fun r_1 u_2 H locs hw_3 hP hD hS => ?_)
  have hP : va_P (dC, dI) vwCl (wC cI cZ h F V) H := hP
  have hD : va_D A (wC cI cZ h F V) := hD
  have hw_3 : r_1 = bI (isW p0 1 40) := hw_3
  refine lv_if_ne (tgt := 16) hx hb dX4_wash_7 (by decide) (fun c_4 => ?_) (fun c_4 => ?_)
  · have c_4 : isW p0 1 40 = true := bI_t hw_3 c_4
    refine lv_aload_n hx hb dX4_wash_16 rfl (lv_at hl 0 rfl) ?_
    refine lv_aload_n hx hb dX4_wash_17 rfl (lv_at hl 0 rfl) ?_
    refine va_get (D := (dC, dI)) (ci := 4) (v := .ref (h 1)) (C := RX4) (T := TX4) (N := 5) hx hb hts hin_X4 hown hK hP 0 rfl rfl 0 (by decide) hw0 (fun _ h9 => h9) rfl dX4_wash_18 ?_
    refine lv_iload_n hx hb dX4_wash_21 rfl (lv_at hl 1 rfl) ?_
    obtain ⟨k0, hk0, rfl⟩ := isW_nat1 (M := 40) (n := 40) (by decide) c_4
    refine cw_Vi (As := [.int (nI k0)]) (rest := [.ref (h 0)]) (c_X1_washMost l dC dI cI cZ cJ h F V k0 (by omega) hV1) fx (cwV 1 hts gX4_wash_X1_washMost rfl rfl rfl (by decide +kernel) ⟨Nat.le_of_ble_eq_true rfl, Nat.le_of_ble_eq_true rfl⟩) hK hP hD hS hA 1 rfl rfl rfl rfl hl.1 rfl (Nat.le_of_ble_eq_true rfl) dX4_wash_22 ⟨Nat.le_of_ble_eq_true rfl, Nat.le_of_ble_eq_true rfl⟩ (fun r_5 u_6 H locs hw_7 hP hD hS => ?_)
    have hP : va_P (dC, dI) vwCl (wC cI cZ h F V) H := hP
    have hD : va_D A (wC cI cZ h F V) := hD
    obtain rfl : r_5 = 0 := hw_7
    refine cw_Vi (As := [.int 0]) (rest := []) (c_X4_granted l dC dI cI cZ cJ h F V 0) fx (cwV 1 hts gX4_wash_X4_granted rfl rfl rfl (by decide +kernel) ⟨Nat.le_of_ble_eq_true rfl, Nat.le_of_ble_eq_true rfl⟩) hK hP hD hS hA 0 rfl rfl rfl rfl hl.1 rfl (Nat.le_of_ble_eq_true rfl) dX4_wash_25 ⟨Nat.le_of_ble_eq_true rfl, Nat.le_of_ble_eq_true rfl⟩ (fun r_8 u_9 H locs hw_10 hP hD hS => ?_)
    have hP : va_P (dC, dI) vwCl (wC cI cZ h F (va_up V 0 0)) H := hP
    have hD : va_D A (wC cI cZ h F (va_up V 0 0)) := hD
    obtain rfl : r_8 = 0 := hw_10
    exact hret 0 () H locs 28 ls rfl dX4_wash_28 (by first | rfl | (simp [a_0, c_4]; done) | (exfalso; omega)) (hP.sub [] rfl) (hD.sub [] (by decide) rfl) hS
  · have c_4 : isW p0 1 40 = false := bI_f hw_3 c_4
    refine lv_aload_n hx hb dX4_wash_10 rfl (lv_at hl 0 rfl) ?_
    refine lv_iconst (v := 2) hx hb dX4_wash_11 (by decide) ?_
    refine cw_Vi (As := [.int 2]) (rest := []) (c_X4_refused l dC dI cI cZ cJ h F V 2) fx (cwV 1 hts gX4_wash_X4_refused rfl rfl rfl (by decide +kernel) ⟨Nat.le_of_ble_eq_true rfl, Nat.le_of_ble_eq_true rfl⟩) hK hP hD hS hA 0 rfl rfl rfl rfl hl.1 rfl (Nat.le_of_ble_eq_true rfl) dX4_wash_12 ⟨Nat.le_of_ble_eq_true rfl, Nat.le_of_ble_eq_true rfl⟩ (fun r_11 u_12 H locs hw_13 hP hD hS => ?_)
    have hP : va_P (dC, dI) vwCl (wC cI cZ h F (va_up V 0 2)) H := hP
    have hD : va_D A (wC cI cZ h F (va_up V 0 2)) := hD
    obtain rfl : r_11 = (-1) := hw_13
    exact hret (-1) () H locs 15 ls rfl dX4_wash_15 (by first | rfl | (simp [a_0, c_4]; done) | (exfalso; omega)) (hP.sub [] rfl) (hD.sub [] (by decide) rfl) hS
def rm_X4_aim : Room := { frames := 4, cells := 0, slots := 0, locals := 92 }
set_option maxHeartbeats 4000000 in
set_option maxRecDepth 100000 in
theorem c_X4_aim (l : Launch) (dC : Nat → ClassId) (dI : Nat → Nat → Nat) (cI cZ cJ : ClassId) (h : Nat → Nat) (F : Nat → Nat → Int32) (V : Nat → Int32) (p0 : Int32) (hV1 : V 1 = 0) : CtI l (dC, dI) vwCl (tys3 cI cZ cJ) yX4_aim wsX4_aim rm_X4_aim [.ref (h 0), .int p0] (wC cI cZ h F V) (S := Unit) (fun r _ => r = a_0 p0 0 23) (fun _ => []) 0 0 := by
  refine ct_I (cc := cX4_aim) (maxL := 2) (ty := .int) (own := RX4) (by decide) rfl rfl (Nat.le_of_ble_eq_true rfl) (lv := [(0, .ref (h 0)), (1, .int p0)]) rfl ?_
  intro p e s m args below meth c A Q ls fx hK hP hD hA hl hret
  obtain ⟨hx, hb, hml, hown, hts⟩ := id fx
  have hS : va_S A s.heap s.heap [] := va_S.rf
  have hw0 := hts (.fieldLink RX4 21 "MirrorTower" "cells" "LMirrorTower$Face;") (by decide +kernel)
  have hin_X4 : ∀ w ∈ u_ws RX4 TX4 5, w ∈ wsX4_aim := by decide +kernel
  obtain ⟨H, hH⟩ : ∃ H, H = s.heap := ⟨_, rfl⟩
  rw [← hH] at hP ⊢
  have hS : va_S A s.heap H [] := by rw [hH]; exact hS
  generalize ([] : List Loc) = locs at hS ⊢
  refine lv_iload_n hx hb dX4_aim_0 rfl (lv_at hl 1 rfl) ?_
  refine cw_Si (As := [.int p0]) (rest := []) (c_X4_isHour l dC dI cI cZ cJ (wC cI cZ h F V) p0) fx (va_cwS 1 hts gX4_aim_X4_isHour rfl rfl rfl (by decide +kernel) ⟨Nat.le_of_ble_eq_true rfl, Nat.le_of_ble_eq_true rfl⟩) hK hP hD hS hA rfl hl.1 rfl (Nat.le_of_ble_eq_true rfl) dX4_aim_1 ⟨Nat.le_of_ble_eq_true rfl, Nat.le_of_ble_eq_true rfl⟩ (fun r_1 u_2 H locs hw_3 hP hD hS => ?_)
  have hP : va_P (dC, dI) vwCl (wC cI cZ h F V) H := hP
  have hD : va_D A (wC cI cZ h F V) := hD
  have hw_3 : r_1 = bI (isW p0 0 23) := hw_3
  refine lv_if_ne (tgt := 13) hx hb dX4_aim_4 (by decide) (fun c_4 => ?_) (fun c_4 => ?_)
  · have c_4 : isW p0 0 23 = true := bI_t hw_3 c_4
    refine lv_aload_n hx hb dX4_aim_13 rfl (lv_at hl 0 rfl) ?_
    refine lv_aload_n hx hb dX4_aim_14 rfl (lv_at hl 0 rfl) ?_
    refine va_get (D := (dC, dI)) (ci := 4) (v := .ref (h 2)) (C := RX4) (T := TX4) (N := 5) hx hb hts hin_X4 hown hK hP 0 rfl rfl 1 (by decide) hw0 (fun _ h9 => h9) rfl dX4_aim_15 ?_
    refine lv_iload_n hx hb dX4_aim_18 rfl (lv_at hl 1 rfl) ?_
    refine cw_Vi (As := [.int p0]) (rest := [.ref (h 0)]) (c_X0_keepAims l dC dI cI cZ cJ h F V p0 hV1) fx (cwV 1 hts gX4_aim_X0_keepAims rfl rfl rfl (by decide +kernel) ⟨Nat.le_of_ble_eq_true rfl, Nat.le_of_ble_eq_true rfl⟩) hK hP hD hS hA 2 rfl rfl rfl rfl hl.1 rfl (Nat.le_of_ble_eq_true rfl) dX4_aim_19 ⟨Nat.le_of_ble_eq_true rfl, Nat.le_of_ble_eq_true rfl⟩ (fun r_5 u_6 H locs hw_7 hP hD hS => ?_)
    obtain ⟨F_8, V_9⟩ := u_6
    have hP : va_P (dC, dI) vwCl (wC cI cZ h F_8 V_9) H := hP
    have hD : va_D A (wC cI cZ h F_8 V_9) := hD
    obtain rfl : r_5 = 0 := hw_7
    refine cw_Vi (As := [.int 0]) (rest := []) (c_X4_granted l dC dI cI cZ cJ h F_8 V_9 0) fx (cwV 1 hts gX4_aim_X4_granted rfl rfl rfl (by decide +kernel) ⟨Nat.le_of_ble_eq_true rfl, Nat.le_of_ble_eq_true rfl⟩) hK hP hD hS hA 0 rfl rfl rfl rfl hl.1 rfl (Nat.le_of_ble_eq_true rfl) dX4_aim_22 ⟨Nat.le_of_ble_eq_true rfl, Nat.le_of_ble_eq_true rfl⟩ (fun r_10 u_11 H locs hw_12 hP hD hS => ?_)
    have hP : va_P (dC, dI) vwCl (wC cI cZ h F_8 (va_up V_9 0 0)) H := hP
    have hD : va_D A (wC cI cZ h F_8 (va_up V_9 0 0)) := hD
    obtain rfl : r_10 = 0 := hw_12
    exact hret 0 () H locs 25 ls rfl dX4_aim_25 (by first | rfl | (simp [a_0, c_4]; done) | (exfalso; omega)) (hP.sub [] rfl) (hD.sub [] (by decide) rfl) hS
  · have c_4 : isW p0 0 23 = false := bI_f hw_3 c_4
    refine lv_aload_n hx hb dX4_aim_7 rfl (lv_at hl 0 rfl) ?_
    refine lv_iconst (v := 2) hx hb dX4_aim_8 (by decide) ?_
    refine cw_Vi (As := [.int 2]) (rest := []) (c_X4_refused l dC dI cI cZ cJ h F V 2) fx (cwV 1 hts gX4_aim_X4_refused rfl rfl rfl (by decide +kernel) ⟨Nat.le_of_ble_eq_true rfl, Nat.le_of_ble_eq_true rfl⟩) hK hP hD hS hA 0 rfl rfl rfl rfl hl.1 rfl (Nat.le_of_ble_eq_true rfl) dX4_aim_9 ⟨Nat.le_of_ble_eq_true rfl, Nat.le_of_ble_eq_true rfl⟩ (fun r_13 u_14 H locs hw_15 hP hD hS => ?_)
    have hP : va_P (dC, dI) vwCl (wC cI cZ h F (va_up V 0 2)) H := hP
    have hD : va_D A (wC cI cZ h F (va_up V 0 2)) := hD
    obtain rfl : r_13 = (-1) := hw_15
    exact hret (-1) () H locs 12 ls rfl dX4_aim_12 (by first | rfl | (simp [a_0, c_4]; done) | (exfalso; omega)) (hP.sub [] rfl) (hD.sub [] (by decide) rfl) hS
def rm_X4_aimed : Room := { frames := 2, cells := 0, slots := 0, locals := 43 }
set_option maxHeartbeats 4000000 in
set_option maxRecDepth 100000 in
theorem c_X4_aimed (l : Launch) (dC : Nat → ClassId) (dI : Nat → Nat → Nat) (cI cZ cJ : ClassId) (h : Nat → Nat) (F : Nat → Nat → Int32) (V : Nat → Int32) (p0 : Int32) (hV1 : V 1 = 0) : CtI l (dC, dI) vwCl (tys3 cI cZ cJ) yX4_aimed wsX4_aimed rm_X4_aimed [.ref (h 0), .int p0] (wC cI cZ h F V) (S := Unit) (fun r _ => r = (-1)) (fun _ => []) 0 0 := by
  refine ct_I (cc := cX4_aimed) (maxL := 2) (ty := .int) (own := RX4) (by decide) rfl rfl (Nat.le_of_ble_eq_true rfl) (lv := [(0, .ref (h 0)), (1, .int p0)]) rfl ?_
  intro p e s m args below meth c A Q ls fx hK hP hD hA hl hret
  obtain ⟨hx, hb, hml, hown, hts⟩ := id fx
  have hS : va_S A s.heap s.heap [] := va_S.rf
  obtain ⟨H, hH⟩ : ∃ H, H = s.heap := ⟨_, rfl⟩
  rw [← hH] at hP ⊢
  have hS : va_S A s.heap H [] := by rw [hH]; exact hS
  generalize ([] : List Loc) = locs at hS ⊢
  refine lv_aload_n hx hb dX4_aimed_0 rfl (lv_at hl 0 rfl) ?_
  refine lv_iload_n hx hb dX4_aimed_1 rfl (lv_at hl 1 rfl) ?_
  refine cw_Vi (As := [.int p0]) (rest := []) (c_X4_isMirror l dC dI cI cZ cJ h F V p0 hV1) fx (cwV 1 hts gX4_aimed_X4_isMirror rfl rfl rfl (by decide +kernel) ⟨Nat.le_of_ble_eq_true rfl, Nat.le_of_ble_eq_true rfl⟩) hK hP hD hS hA 0 rfl rfl rfl rfl hl.1 rfl (Nat.le_of_ble_eq_true rfl) dX4_aimed_2 ⟨Nat.le_of_ble_eq_true rfl, Nat.le_of_ble_eq_true rfl⟩ (fun r_1 u_2 H locs hw_3 hP hD hS => ?_)
  have hP : va_P (dC, dI) vwCl (wC cI cZ h F V) H := hP
  have hD : va_D A (wC cI cZ h F V) := hD
  obtain rfl : r_1 = 0 := hw_3
  refine lv_if_eq (tgt := 19) hx hb dX4_aimed_5 (by decide) (fun c_4 => ?_) (fun c_4 => ?_)
  · refine lv_iconst (v := (-1)) hx hb dX4_aimed_19 (by decide) ?_
    exact hret (-1) () H locs 20 ls rfl dX4_aimed_20 (by first | rfl | (simp []; done) | (exfalso; omega)) (hP.sub [] rfl) (hD.sub [] (by decide) rfl) hS
  · exact absurd c_4 (by decide)
def rm_X4_face : Room := { frames := 2, cells := 0, slots := 0, locals := 42 }
set_option maxHeartbeats 4000000 in
set_option maxRecDepth 100000 in
theorem c_X4_face (l : Launch) (dC : Nat → ClassId) (dI : Nat → Nat → Nat) (cI cZ cJ : ClassId) (h : Nat → Nat) (F : Nat → Nat → Int32) (V : Nat → Int32) (p0 : Int32)  (hF20 : ∀ i, i < 4 → F 20 i = 0) : CtI l (dC, dI) vwCl (tys3 cI cZ cJ) yX4_face wsX4_face rm_X4_face [.ref (h 0), .int p0] (wC cI cZ h F V) (S := Unit) (fun r _ => r = a_0 p0 0 3) (fun _ => []) 0 0 := by
  refine ct_I (cc := cX4_face) (maxL := 2) (ty := .int) (own := RX4) (by decide) rfl rfl (Nat.le_of_ble_eq_true rfl) (lv := [(0, .ref (h 0)), (1, .int p0)]) rfl ?_
  intro p e s m args below meth c A Q ls fx hK hP hD hA hl hret
  obtain ⟨hx, hb, hml, hown, hts⟩ := id fx
  have hS : va_S A s.heap s.heap [] := va_S.rf
  have hw0 := hts (.fieldLink RX4 21 "MirrorTower" "cells" "LMirrorTower$Face;") (by decide +kernel)
  have hin_X4 : ∀ w ∈ u_ws RX4 TX4 5, w ∈ wsX4_face := by decide +kernel
  obtain ⟨H, hH⟩ : ∃ H, H = s.heap := ⟨_, rfl⟩
  rw [← hH] at hP ⊢
  have hS : va_S A s.heap H [] := by rw [hH]; exact hS
  generalize ([] : List Loc) = locs at hS ⊢
  refine lv_iload_n hx hb dX4_face_0 rfl (lv_at hl 1 rfl) ?_
  refine cw_Si (As := [.int p0]) (rest := []) (c_X4_isCell l dC dI cI cZ cJ (wC cI cZ h F V) p0) fx (va_cwS 1 hts gX4_face_X4_isCell rfl rfl rfl (by decide +kernel) ⟨Nat.le_of_ble_eq_true rfl, Nat.le_of_ble_eq_true rfl⟩) hK hP hD hS hA rfl hl.1 rfl (Nat.le_of_ble_eq_true rfl) dX4_face_1 ⟨Nat.le_of_ble_eq_true rfl, Nat.le_of_ble_eq_true rfl⟩ (fun r_1 u_2 H locs hw_3 hP hD hS => ?_)
  have hP : va_P (dC, dI) vwCl (wC cI cZ h F V) H := hP
  have hD : va_D A (wC cI cZ h F V) := hD
  have hw_3 : r_1 = bI (isW p0 0 3) := hw_3
  refine lv_if_eq (tgt := 18) hx hb dX4_face_4 (by decide) (fun c_4 => ?_) (fun c_4 => ?_)
  · have c_4 : isW p0 0 3 = false := bI_f hw_3 c_4
    refine lv_iconst (v := (-1)) hx hb dX4_face_18 (by decide) ?_
    exact hret (-1) () H locs 19 ls rfl dX4_face_19 (by first | rfl | (simp [a_0, c_4]; done) | (exfalso; omega)) (hP.sub [] rfl) (hD.sub [] (by decide) rfl) hS
  · have c_4 : isW p0 0 3 = true := bI_t hw_3 c_4
    refine lv_aload_n hx hb dX4_face_7 rfl (lv_at hl 0 rfl) ?_
    refine va_get (D := (dC, dI)) (ci := 4) (v := .ref (h 2)) (C := RX4) (T := TX4) (N := 5) hx hb hts hin_X4 hown hK hP 0 rfl rfl 1 (by decide) hw0 (fun _ h9 => h9) rfl dX4_face_8 ?_
    refine lv_iload_n hx hb dX4_face_11 rfl (lv_at hl 1 rfl) ?_
    obtain ⟨k0, hk0, rfl⟩ := isW_nat (M := 3) (n := 3) (by decide) c_4
    refine cw_Vi (As := [.int (nI k0)]) (rest := []) (c_X0_keptPowerAt l dC dI cI cZ cJ h F V k0 (by omega) hF20) fx (cwV 1 hts gX4_face_X0_keptPowerAt rfl rfl rfl (by decide +kernel) ⟨Nat.le_of_ble_eq_true rfl, Nat.le_of_ble_eq_true rfl⟩) hK hP hD hS hA 2 rfl rfl rfl rfl hl.1 rfl (Nat.le_of_ble_eq_true rfl) dX4_face_12 ⟨Nat.le_of_ble_eq_true rfl, Nat.le_of_ble_eq_true rfl⟩ (fun r_5 u_6 H locs hw_7 hP hD hS => ?_)
    have hP : va_P (dC, dI) vwCl (wC cI cZ h F V) H := hP
    have hD : va_D A (wC cI cZ h F V) := hD
    obtain rfl : r_5 = 0 := hw_7
    refine lv_goto (tgt := 19) hx hb dX4_face_15 (by decide) ?_
    exact hret 0 () H locs 19 ls rfl dX4_face_19 (by first | rfl | (simp [a_0, c_4]; done) | (exfalso; omega)) (hP.sub [] rfl) (hD.sub [] (by decide) rfl) hS
def rm_X4_best : Room := { frames := 3, cells := 0, slots := 0, locals := 68 }
set_option maxHeartbeats 4000000 in
set_option maxRecDepth 100000 in
theorem c_X4_best (l : Launch) (dC : Nat → ClassId) (dI : Nat → Nat → Nat) (cI cZ cJ : ClassId) (h : Nat → Nat) (F : Nat → Nat → Int32) (V : Nat → Int32) (p0 : Int32) (hV1 : V 1 = 0) : CtI l (dC, dI) vwCl (tys3 cI cZ cJ) yX4_best wsX4_best rm_X4_best [.ref (h 0), .int p0] (wC cI cZ h F V) (S := Unit) (fun r _ => r = a_0 p0 0 23) (fun _ => []) 0 0 := by
  refine ct_I (cc := cX4_best) (maxL := 2) (ty := .int) (own := RX4) (by decide) rfl rfl (Nat.le_of_ble_eq_true rfl) (lv := [(0, .ref (h 0)), (1, .int p0)]) rfl ?_
  intro p e s m args below meth c A Q ls fx hK hP hD hA hl hret
  obtain ⟨hx, hb, hml, hown, hts⟩ := id fx
  have hS : va_S A s.heap s.heap [] := va_S.rf
  have hw0 := hts (.fieldLink RX4 21 "MirrorTower" "cells" "LMirrorTower$Face;") (by decide +kernel)
  have hin_X4 : ∀ w ∈ u_ws RX4 TX4 5, w ∈ wsX4_best := by decide +kernel
  obtain ⟨H, hH⟩ : ∃ H, H = s.heap := ⟨_, rfl⟩
  rw [← hH] at hP ⊢
  have hS : va_S A s.heap H [] := by rw [hH]; exact hS
  generalize ([] : List Loc) = locs at hS ⊢
  refine lv_iload_n hx hb dX4_best_0 rfl (lv_at hl 1 rfl) ?_
  refine cw_Si (As := [.int p0]) (rest := []) (c_X4_isHour l dC dI cI cZ cJ (wC cI cZ h F V) p0) fx (va_cwS 1 hts gX4_best_X4_isHour rfl rfl rfl (by decide +kernel) ⟨Nat.le_of_ble_eq_true rfl, Nat.le_of_ble_eq_true rfl⟩) hK hP hD hS hA rfl hl.1 rfl (Nat.le_of_ble_eq_true rfl) dX4_best_1 ⟨Nat.le_of_ble_eq_true rfl, Nat.le_of_ble_eq_true rfl⟩ (fun r_1 u_2 H locs hw_3 hP hD hS => ?_)
  have hP : va_P (dC, dI) vwCl (wC cI cZ h F V) H := hP
  have hD : va_D A (wC cI cZ h F V) := hD
  have hw_3 : r_1 = bI (isW p0 0 23) := hw_3
  refine lv_if_ne (tgt := 13) hx hb dX4_best_4 (by decide) (fun c_4 => ?_) (fun c_4 => ?_)
  · have c_4 : isW p0 0 23 = true := bI_t hw_3 c_4
    refine lv_aload_n hx hb dX4_best_13 rfl (lv_at hl 0 rfl) ?_
    refine lv_aload_n hx hb dX4_best_14 rfl (lv_at hl 0 rfl) ?_
    refine va_get (D := (dC, dI)) (ci := 4) (v := .ref (h 2)) (C := RX4) (T := TX4) (N := 5) hx hb hts hin_X4 hown hK hP 0 rfl rfl 1 (by decide) hw0 (fun _ h9 => h9) rfl dX4_best_15 ?_
    refine lv_iload_n hx hb dX4_best_18 rfl (lv_at hl 1 rfl) ?_
    refine cw_Vi (As := [.int p0]) (rest := [.ref (h 0)]) (c_X0_bestHeat l dC dI cI cZ cJ h F V p0 hV1) fx (cwV 1 hts gX4_best_X0_bestHeat rfl rfl rfl (by decide +kernel) ⟨Nat.le_of_ble_eq_true rfl, Nat.le_of_ble_eq_true rfl⟩) hK hP hD hS hA 2 rfl rfl rfl rfl hl.1 rfl (Nat.le_of_ble_eq_true rfl) dX4_best_19 ⟨Nat.le_of_ble_eq_true rfl, Nat.le_of_ble_eq_true rfl⟩ (fun r_5 u_6 H locs hw_7 hP hD hS => ?_)
    obtain ⟨F_8, rfl⟩ : ∃ z, z = u_6 := ⟨_, rfl⟩
    have hP : va_P (dC, dI) vwCl (wC cI cZ h F_8 V) H := hP
    have hD : va_D A (wC cI cZ h F_8 V) := hD
    obtain rfl : r_5 = 0 := hw_7
    refine cw_Vi (As := [.int 0]) (rest := []) (c_X4_granted l dC dI cI cZ cJ h F_8 V 0) fx (cwV 1 hts gX4_best_X4_granted rfl rfl rfl (by decide +kernel) ⟨Nat.le_of_ble_eq_true rfl, Nat.le_of_ble_eq_true rfl⟩) hK hP hD hS hA 0 rfl rfl rfl rfl hl.1 rfl (Nat.le_of_ble_eq_true rfl) dX4_best_22 ⟨Nat.le_of_ble_eq_true rfl, Nat.le_of_ble_eq_true rfl⟩ (fun r_9 u_10 H locs hw_11 hP hD hS => ?_)
    have hP : va_P (dC, dI) vwCl (wC cI cZ h F_8 (va_up V 0 0)) H := hP
    have hD : va_D A (wC cI cZ h F_8 (va_up V 0 0)) := hD
    obtain rfl : r_9 = 0 := hw_11
    exact hret 0 () H locs 25 ls rfl dX4_best_25 (by first | rfl | (simp [a_0, c_4]; done) | (exfalso; omega)) (hP.sub [] rfl) (hD.sub [] (by decide) rfl) hS
  · have c_4 : isW p0 0 23 = false := bI_f hw_3 c_4
    refine lv_aload_n hx hb dX4_best_7 rfl (lv_at hl 0 rfl) ?_
    refine lv_iconst (v := 2) hx hb dX4_best_8 (by decide) ?_
    refine cw_Vi (As := [.int 2]) (rest := []) (c_X4_refused l dC dI cI cZ cJ h F V 2) fx (cwV 1 hts gX4_best_X4_refused rfl rfl rfl (by decide +kernel) ⟨Nat.le_of_ble_eq_true rfl, Nat.le_of_ble_eq_true rfl⟩) hK hP hD hS hA 0 rfl rfl rfl rfl hl.1 rfl (Nat.le_of_ble_eq_true rfl) dX4_best_9 ⟨Nat.le_of_ble_eq_true rfl, Nat.le_of_ble_eq_true rfl⟩ (fun r_12 u_13 H locs hw_14 hP hD hS => ?_)
    have hP : va_P (dC, dI) vwCl (wC cI cZ h F (va_up V 0 2)) H := hP
    have hD : va_D A (wC cI cZ h F (va_up V 0 2)) := hD
    obtain rfl : r_12 = (-1) := hw_14
    exact hret (-1) () H locs 12 ls rfl dX4_best_12 (by first | rfl | (simp [a_0, c_4]; done) | (exfalso; omega)) (hP.sub [] rfl) (hD.sub [] (by decide) rfl) hS
def rm_X4_comes : Room := { frames := 3, cells := 0, slots := 0, locals := 69 }
set_option maxHeartbeats 4000000 in
set_option maxRecDepth 100000 in
theorem c_X4_comes (l : Launch) (dC : Nat → ClassId) (dI : Nat → Nat → Nat) (cI cZ cJ : ClassId) (h : Nat → Nat) (F : Nat → Nat → Int32) (V : Nat → Int32) (p0 : Int32) (hV1 : V 1 = 0) (hV4 : V 4 = 0) : CtI l (dC, dI) vwCl (tys3 cI cZ cJ) yX4_comes wsX4_comes rm_X4_comes [.ref (h 0), .int p0] (wC cI cZ h F V) (S := Unit) (fun r _ => r = a_0 p0 0 23) (fun _ => []) 0 0 := by
  refine ct_I (cc := cX4_comes) (maxL := 3) (ty := .int) (own := RX4) (by decide) rfl rfl (Nat.le_of_ble_eq_true rfl) (lv := [(0, .ref (h 0)), (1, .int p0)]) rfl ?_
  intro p e s m args below meth c A Q ls fx hK hP hD hA hl hret
  obtain ⟨hx, hb, hml, hown, hts⟩ := id fx
  have hS : va_S A s.heap s.heap [] := va_S.rf
  have hw0 := hts (.fieldLink RX4 30 "MirrorTower" "store" "LMirrorTower$Store;") (by decide +kernel)
  have hin_X4 : ∀ w ∈ u_ws RX4 TX4 5, w ∈ wsX4_comes := by decide +kernel
  have hw2 := hts (.fieldLink RX4 21 "MirrorTower" "cells" "LMirrorTower$Face;") (by decide +kernel)
  obtain ⟨H, hH⟩ : ∃ H, H = s.heap := ⟨_, rfl⟩
  rw [← hH] at hP ⊢
  have hS : va_S A s.heap H [] := by rw [hH]; exact hS
  generalize ([] : List Loc) = locs at hS ⊢
  refine lv_aload_n hx hb dX4_comes_0 rfl (lv_at hl 0 rfl) ?_
  refine va_get (D := (dC, dI)) (ci := 4) (v := .ref (h 3)) (C := RX4) (T := TX4) (N := 5) hx hb hts hin_X4 hown hK hP 0 rfl rfl 2 (by decide) hw0 (fun _ h9 => h9) rfl dX4_comes_1 ?_
  refine cw_Vi (As := []) (rest := []) (c_X3_hourNow l dC dI cI cZ cJ h F V) fx (cwV 0 hts gX4_comes_X3_hourNow rfl rfl rfl (by decide +kernel) ⟨Nat.le_of_ble_eq_true rfl, Nat.le_of_ble_eq_true rfl⟩) hK hP hD hS hA 3 rfl rfl rfl rfl hl.1 rfl (Nat.le_of_ble_eq_true rfl) dX4_comes_4 ⟨Nat.le_of_ble_eq_true rfl, Nat.le_of_ble_eq_true rfl⟩ (fun r_1 u_2 H locs hw_3 hP hD hS => ?_)
  have hP : va_P (dC, dI) vwCl (wC cI cZ h F V) H := hP
  have hD : va_D A (wC cI cZ h F V) := hD
  obtain rfl : r_1 = 0 := Eq.trans hw_3 hV4
  refine lv_istore_n (lv' := [(2, .int 0), (0, .ref (h 0)), (1, .int p0)]) hx hb dX4_comes_7 rfl hl (by decide) rfl (fun ls hl => ?_)
  refine lv_iload_n hx hb dX4_comes_8 rfl (lv_at hl 2 rfl) ?_
  refine lv_iload_n hx hb dX4_comes_9 rfl (lv_at hl 0 rfl) ?_
  refine lv_bipush (v := 23) hx hb dX4_comes_10 (by decide) ?_
  refine cw_Si (As := [.int p0, .int 0, .int 23]) (rest := []) (c_X4_isWithin l dC dI cI cZ cJ (wC cI cZ h F V) p0 0 23) fx (va_cwS 3 hts gX4_comes_X4_isWithin rfl rfl rfl (by decide +kernel) ⟨Nat.le_of_ble_eq_true rfl, Nat.le_of_ble_eq_true rfl⟩) hK hP hD hS hA rfl hl.1 rfl (Nat.le_of_ble_eq_true rfl) dX4_comes_12 ⟨Nat.le_of_ble_eq_true rfl, Nat.le_of_ble_eq_true rfl⟩ (fun r_4 u_5 H locs hw_6 hP hD hS => ?_)
  have hP : va_P (dC, dI) vwCl (wC cI cZ h F V) H := hP
  have hD : va_D A (wC cI cZ h F V) := hD
  have hw_6 : r_4 = bI (isW p0 0 23) := hw_6
  refine lv_if_ne (tgt := 20) hx hb dX4_comes_15 (by decide) (fun c_7 => ?_) (fun c_7 => ?_)
  · have c_7 : isW p0 0 23 = true := bI_t hw_6 c_7
    refine lv_aload_n hx hb dX4_comes_20 rfl (lv_at hl 1 rfl) ?_
    refine va_get (D := (dC, dI)) (ci := 4) (v := .ref (h 2)) (C := RX4) (T := TX4) (N := 5) hx hb hts hin_X4 hown hK hP 0 rfl rfl 1 (by decide) hw2 (fun _ h9 => h9) rfl dX4_comes_21 ?_
    refine lv_iload_n hx hb dX4_comes_24 rfl (lv_at hl 2 rfl) ?_
    refine lv_iload_n hx hb dX4_comes_25 rfl (lv_at hl 2 rfl) ?_
    refine lv_iload_n hx hb dX4_comes_26 rfl (lv_at hl 0 rfl) ?_
    refine lv_isub hx hb dX4_comes_27 ?_
    refine cw_Vi (As := [.int p0, .int (p0 - 0)]) (rest := []) (c_X0_aimAll l dC dI cI cZ cJ h F V p0 (p0 - 0) hV1) fx (cwV 2 hts gX4_comes_X0_aimAll rfl rfl rfl (by decide +kernel) ⟨Nat.le_of_ble_eq_true rfl, Nat.le_of_ble_eq_true rfl⟩) hK hP hD hS hA 2 rfl rfl rfl rfl hl.1 rfl (Nat.le_of_ble_eq_true rfl) dX4_comes_28 ⟨Nat.le_of_ble_eq_true rfl, Nat.le_of_ble_eq_true rfl⟩ (fun r_8 u_9 H locs hw_10 hP hD hS => ?_)
    obtain ⟨F_11, rfl⟩ : ∃ z, z = u_9 := ⟨_, rfl⟩
    have hP : va_P (dC, dI) vwCl (wC cI cZ h F_11 V) H := hP
    have hD : va_D A (wC cI cZ h F_11 V) := hD
    obtain rfl : r_8 = 0 := hw_10.1
    exact hret 0 () H locs 31 ls rfl dX4_comes_31 (by first | rfl | (simp [a_0, c_7]; done) | (exfalso; omega)) (hP.sub [] rfl) (hD.sub [] (by decide) rfl) hS
  · have c_7 : isW p0 0 23 = false := bI_f hw_6 c_7
    refine lv_iconst (v := (-1)) hx hb dX4_comes_18 (by decide) ?_
    exact hret (-1) () H locs 19 ls rfl dX4_comes_19 (by first | rfl | (simp [a_0, c_7]; done) | (exfalso; omega)) (hP.sub [] rfl) (hD.sub [] (by decide) rfl) hS
def rm_X4_plan : Room := { frames := 5, cells := 0, slots := 0, locals := 113 }
set_option maxHeartbeats 4000000 in
set_option maxRecDepth 100000 in
theorem c_X4_plan (l : Launch) (dC : Nat → ClassId) (dI : Nat → Nat → Nat) (cI cZ cJ : ClassId) (h : Nat → Nat) (F : Nat → Nat → Int32) (V : Nat → Int32)  (hV1 : V 1 = 0) (hV4 : V 4 = 0) (hV5 : V 5 = 0) (hV6 : V 6 = 0) : CtI l (dC, dI) vwCl (tys3 cI cZ cJ) yX4_plan wsX4_plan rm_X4_plan [.ref (h 0)] (wC cI cZ h F V) (S := Unit) (fun r _ => r = 0) (fun _ => []) 0 0 := by
  refine ct_I (cc := cX4_plan) (maxL := 1) (ty := .int) (own := RX4) (by decide) rfl rfl (Nat.le_of_ble_eq_true rfl) (lv := [(0, .ref (h 0))]) rfl ?_
  intro p e s m args below meth c A Q ls fx hK hP hD hA hl hret
  obtain ⟨hx, hb, hml, hown, hts⟩ := id fx
  have hS : va_S A s.heap s.heap [] := va_S.rf
  have hw0 := hts (.fieldLink RX4 30 "MirrorTower" "store" "LMirrorTower$Store;") (by decide +kernel)
  have hin_X4 : ∀ w ∈ u_ws RX4 TX4 5, w ∈ wsX4_plan := by decide +kernel
  obtain ⟨H, hH⟩ : ∃ H, H = s.heap := ⟨_, rfl⟩
  rw [← hH] at hP ⊢
  have hS : va_S A s.heap H [] := by rw [hH]; exact hS
  generalize ([] : List Loc) = locs at hS ⊢
  refine lv_aload_n hx hb dX4_plan_0 rfl (lv_at hl 0 rfl) ?_
  refine va_get (D := (dC, dI)) (ci := 4) (v := .ref (h 3)) (C := RX4) (T := TX4) (N := 5) hx hb hts hin_X4 hown hK hP 0 rfl rfl 2 (by decide) hw0 (fun _ h9 => h9) rfl dX4_plan_1 ?_
  refine cw_Vi (As := []) (rest := []) (c_X3_layPlan l dC dI cI cZ cJ h F V hV1 hV4 hV5 hV6) fx (cwV 0 hts gX4_plan_X3_layPlan rfl rfl rfl (by decide +kernel) ⟨Nat.le_of_ble_eq_true rfl, Nat.le_of_ble_eq_true rfl⟩) hK hP hD hS hA 3 rfl rfl rfl rfl hl.1 rfl (Nat.le_of_ble_eq_true rfl) dX4_plan_4 ⟨Nat.le_of_ble_eq_true rfl, Nat.le_of_ble_eq_true rfl⟩ (fun r_1 u_2 H locs hw_3 hP hD hS => ?_)
  obtain rfl : r_1 = 0 := hw_3
  exact hret 0 () H locs 7 ls rfl dX4_plan_7 (by first | rfl | (simp []; done) | (exfalso; omega)) (hP.sub [] rfl) (hD.sub [] (by decide) rfl) hS
def rm_X4_runs : Room := { frames := 2, cells := 0, slots := 0, locals := 42 }
set_option maxHeartbeats 4000000 in
set_option maxRecDepth 100000 in
theorem c_X4_runs (l : Launch) (dC : Nat → ClassId) (dI : Nat → Nat → Nat) (cI cZ cJ : ClassId) (h : Nat → Nat) (F : Nat → Nat → Int32) (V : Nat → Int32) (p0 : Int32) (hV9 : V 9 = 24) : CtI l (dC, dI) vwCl (tys3 cI cZ cJ) yX4_runs wsX4_runs rm_X4_runs [.ref (h 0), .int p0] (wC cI cZ h F V) (S := Unit) (fun r _ => r = (-1)) (fun _ => []) 0 0 := by
  refine ct_I (cc := cX4_runs) (maxL := 2) (ty := .int) (own := RX4) (by decide) rfl rfl (Nat.le_of_ble_eq_true rfl) (lv := [(0, .ref (h 0)), (1, .int p0)]) rfl ?_
  intro p e s m args below meth c A Q ls fx hK hP hD hA hl hret
  obtain ⟨hx, hb, hml, hown, hts⟩ := id fx
  have hS : va_S A s.heap s.heap [] := va_S.rf
  have hw0 := hts (.fieldLink RX4 30 "MirrorTower" "store" "LMirrorTower$Store;") (by decide +kernel)
  have hin_X4 : ∀ w ∈ u_ws RX4 TX4 5, w ∈ wsX4_runs := by decide +kernel
  obtain ⟨H, hH⟩ : ∃ H, H = s.heap := ⟨_, rfl⟩
  rw [← hH] at hP ⊢
  have hS : va_S A s.heap H [] := by rw [hH]; exact hS
  generalize ([] : List Loc) = locs at hS ⊢
  refine lv_iload_n hx hb dX4_runs_0 rfl (lv_at hl 1 rfl) ?_
  refine cw_Si (As := [.int p0]) (rest := []) (c_X4_isHour l dC dI cI cZ cJ (wC cI cZ h F V) p0) fx (va_cwS 1 hts gX4_runs_X4_isHour rfl rfl rfl (by decide +kernel) ⟨Nat.le_of_ble_eq_true rfl, Nat.le_of_ble_eq_true rfl⟩) hK hP hD hS hA rfl hl.1 rfl (Nat.le_of_ble_eq_true rfl) dX4_runs_1 ⟨Nat.le_of_ble_eq_true rfl, Nat.le_of_ble_eq_true rfl⟩ (fun r_1 u_2 H locs hw_3 hP hD hS => ?_)
  have hP : va_P (dC, dI) vwCl (wC cI cZ h F V) H := hP
  have hD : va_D A (wC cI cZ h F V) := hD
  have hw_3 : r_1 = bI (isW p0 0 23) := hw_3
  refine lv_if_eq (tgt := 18) hx hb dX4_runs_4 (by decide) (fun c_4 => ?_) (fun c_4 => ?_)
  · have c_4 : isW p0 0 23 = false := bI_f hw_3 c_4
    refine lv_iconst (v := (-1)) hx hb dX4_runs_18 (by decide) ?_
    exact hret (-1) () H locs 19 ls rfl dX4_runs_19 (by first | rfl | (simp [c_4]; done) | (exfalso; omega)) (hP.sub [] rfl) (hD.sub [] (by decide) rfl) hS
  · have c_4 : isW p0 0 23 = true := bI_t hw_3 c_4
    refine lv_aload_n hx hb dX4_runs_7 rfl (lv_at hl 0 rfl) ?_
    refine va_get (D := (dC, dI)) (ci := 4) (v := .ref (h 3)) (C := RX4) (T := TX4) (N := 5) hx hb hts hin_X4 hown hK hP 0 rfl rfl 2 (by decide) hw0 (fun _ h9 => h9) rfl dX4_runs_8 ?_
    refine lv_iload_n hx hb dX4_runs_11 rfl (lv_at hl 1 rfl) ?_
    obtain ⟨k0, hk0, rfl⟩ := isW_nat (M := 23) (n := 23) (by decide) c_4
    refine cw_Vi (As := [.int (nI k0)]) (rest := []) (c_X3_plannedRun l dC dI cI cZ cJ h F V k0 (by omega) hV9) fx (cwV 1 hts gX4_runs_X3_plannedRun rfl rfl rfl (by decide +kernel) ⟨Nat.le_of_ble_eq_true rfl, Nat.le_of_ble_eq_true rfl⟩) hK hP hD hS hA 3 rfl rfl rfl rfl hl.1 rfl (Nat.le_of_ble_eq_true rfl) dX4_runs_12 ⟨Nat.le_of_ble_eq_true rfl, Nat.le_of_ble_eq_true rfl⟩ (fun r_5 u_6 H locs hw_7 hP hD hS => ?_)
    have hP : va_P (dC, dI) vwCl (wC cI cZ h F V) H := hP
    have hD : va_D A (wC cI cZ h F V) := hD
    obtain rfl : r_5 = (-1) := hw_7
    refine lv_goto (tgt := 19) hx hb dX4_runs_15 (by decide) ?_
    exact hret (-1) () H locs 19 ls rfl dX4_runs_19 (by first | rfl | (simp [c_4]; done) | (exfalso; omega)) (hP.sub [] rfl) (hD.sub [] (by decide) rfl) hS
def rm_X4_step0 : Room := { frames := 4, cells := 0, slots := 0, locals := 93 }
set_option maxHeartbeats 4000000 in
set_option maxRecDepth 100000 in
theorem c_X4_step0 (l : Launch) (dC : Nat → ClassId) (dI : Nat → Nat → Nat) (cI cZ cJ : ClassId) (h : Nat → Nat) (F : Nat → Nat → Int32) (V : Nat → Int32)  (hV1 : V 1 = 0) (hV4 : V 4 = 0) (hV5 : V 5 = 0) (hV6 : V 6 = 0) (hV7 : V 7 = 0) : CtI l (dC, dI) vwCl (tys3 cI cZ cJ) yX4_step wsX4_step rm_X4_step0 [.ref (h 0), .int 0] (wC cI cZ h F V) (S := Unit) (fun r _ => r = 0) (fun _ => []) 0 0 := by
  refine ct_I (cc := cX4_step) (maxL := 3) (ty := .int) (own := RX4) (by decide) rfl rfl (Nat.le_of_ble_eq_true rfl) (lv := [(0, .ref (h 0)), (1, .int 0)]) rfl ?_
  intro p e s m args below meth c A Q ls fx hK hP hD hA hl hret
  obtain ⟨hx, hb, hml, hown, hts⟩ := id fx
  have hS : va_S A s.heap s.heap [] := va_S.rf
  have hw0 := hts (.fieldLink RX4 30 "MirrorTower" "store" "LMirrorTower$Store;") (by decide +kernel)
  have hin_X4 : ∀ w ∈ u_ws RX4 TX4 5, w ∈ wsX4_step := by decide +kernel
  obtain ⟨H, hH⟩ : ∃ H, H = s.heap := ⟨_, rfl⟩
  rw [← hH] at hP ⊢
  have hS : va_S A s.heap H [] := by rw [hH]; exact hS
  generalize ([] : List Loc) = locs at hS ⊢
  refine lv_aload_n hx hb dX4_step_0 rfl (lv_at hl 0 rfl) ?_
  refine va_get (D := (dC, dI)) (ci := 4) (v := .ref (h 3)) (C := RX4) (T := TX4) (N := 5) hx hb hts hin_X4 hown hK hP 0 rfl rfl 2 (by decide) hw0 (fun _ h9 => h9) rfl dX4_step_1 ?_
  refine lv_iload_n hx hb dX4_step_4 rfl (lv_at hl 1 rfl) ?_
  refine cw_Vi (As := [.int 0]) (rest := []) (c_X3_passHour0 l dC dI cI cZ cJ h F V hV1 hV4 hV5 hV6 hV7) fx (cwV 1 hts gX4_step_X3_passHour rfl rfl rfl (by decide +kernel) ⟨Nat.le_of_ble_eq_true rfl, Nat.le_of_ble_eq_true rfl⟩) hK hP hD hS hA 3 rfl rfl rfl rfl hl.1 rfl (Nat.le_of_ble_eq_true rfl) dX4_step_5 ⟨Nat.le_of_ble_eq_true rfl, Nat.le_of_ble_eq_true rfl⟩ (fun r_1 u_2 H locs hw_3 hP hD hS => ?_)
  obtain ⟨F_4, V_5⟩ := u_2
  have hP : va_P (dC, dI) vwCl (wC cI cZ h F_4 V_5) H := hP
  have hD : va_D A (wC cI cZ h F_4 V_5) := hD
  obtain rfl : r_1 = 0 := hw_3
  refine lv_istore_n (lv' := [(2, .int 0), (0, .ref (h 0)), (1, .int 0)]) hx hb dX4_step_8 rfl hl (by decide) rfl (fun ls hl => ?_)
  refine lv_iload_n hx hb dX4_step_9 rfl (lv_at hl 0 rfl) ?_
  refine lv_iconst (v := (-1)) hx hb dX4_step_10 (by decide) ?_
  refine lv_icmp_ne (tgt := 22) hx hb dX4_step_11 (by decide) (fun c_6 => ?_) (fun c_6 => ?_)
  · refine lv_aload_n hx hb dX4_step_22 rfl (lv_at hl 1 rfl) ?_
    refine lv_iload_n hx hb dX4_step_23 rfl (lv_at hl 0 rfl) ?_
    refine cw_Vi (As := [.int 0]) (rest := []) (c_X4_granted l dC dI cI cZ cJ h F_4 V_5 0) fx (cwV 1 hts gX4_step_X4_granted rfl rfl rfl (by decide +kernel) ⟨Nat.le_of_ble_eq_true rfl, Nat.le_of_ble_eq_true rfl⟩) hK hP hD hS hA 0 rfl rfl rfl rfl hl.1 rfl (Nat.le_of_ble_eq_true rfl) dX4_step_24 ⟨Nat.le_of_ble_eq_true rfl, Nat.le_of_ble_eq_true rfl⟩ (fun r_7 u_8 H locs hw_9 hP hD hS => ?_)
    have hP : va_P (dC, dI) vwCl (wC cI cZ h F_4 (va_up V_5 0 0)) H := hP
    have hD : va_D A (wC cI cZ h F_4 (va_up V_5 0 0)) := hD
    obtain rfl : r_7 = 0 := hw_9
    exact hret 0 () H locs 27 ls rfl dX4_step_27 (by first | rfl | (simp []; done) | (exfalso; omega)) (hP.sub [] rfl) (hD.sub [] (by decide) rfl) hS
  · exact absurd c_6 (by decide)
def rm_X4_step1 : Room := { frames := 4, cells := 0, slots := 0, locals := 93 }
set_option maxHeartbeats 4000000 in
set_option maxRecDepth 100000 in
theorem c_X4_step1 (l : Launch) (dC : Nat → ClassId) (dI : Nat → Nat → Nat) (cI cZ cJ : ClassId) (h : Nat → Nat) (F : Nat → Nat → Int32) (V : Nat → Int32)  (hV1 : V 1 = 0) (hV4 : V 4 = 0) (hV5 : V 5 = 0) (hV6 : V 6 = 0) (hV7 : V 7 = 0) : CtI l (dC, dI) vwCl (tys3 cI cZ cJ) yX4_step wsX4_step rm_X4_step1 [.ref (h 0), .int 1] (wC cI cZ h F V) (S := Unit) (fun r _ => r = (-1)) (fun _ => []) 0 0 := by
  refine ct_I (cc := cX4_step) (maxL := 3) (ty := .int) (own := RX4) (by decide) rfl rfl (Nat.le_of_ble_eq_true rfl) (lv := [(0, .ref (h 0)), (1, .int 1)]) rfl ?_
  intro p e s m args below meth c A Q ls fx hK hP hD hA hl hret
  obtain ⟨hx, hb, hml, hown, hts⟩ := id fx
  have hS : va_S A s.heap s.heap [] := va_S.rf
  have hw0 := hts (.fieldLink RX4 30 "MirrorTower" "store" "LMirrorTower$Store;") (by decide +kernel)
  have hin_X4 : ∀ w ∈ u_ws RX4 TX4 5, w ∈ wsX4_step := by decide +kernel
  obtain ⟨H, hH⟩ : ∃ H, H = s.heap := ⟨_, rfl⟩
  rw [← hH] at hP ⊢
  have hS : va_S A s.heap H [] := by rw [hH]; exact hS
  generalize ([] : List Loc) = locs at hS ⊢
  refine lv_aload_n hx hb dX4_step_0 rfl (lv_at hl 0 rfl) ?_
  refine va_get (D := (dC, dI)) (ci := 4) (v := .ref (h 3)) (C := RX4) (T := TX4) (N := 5) hx hb hts hin_X4 hown hK hP 0 rfl rfl 2 (by decide) hw0 (fun _ h9 => h9) rfl dX4_step_1 ?_
  refine lv_iload_n hx hb dX4_step_4 rfl (lv_at hl 1 rfl) ?_
  refine cw_Vi (As := [.int 1]) (rest := []) (c_X3_passHour1 l dC dI cI cZ cJ h F V hV1 hV4 hV5 hV6 hV7) fx (cwV 1 hts gX4_step_X3_passHour rfl rfl rfl (by decide +kernel) ⟨Nat.le_of_ble_eq_true rfl, Nat.le_of_ble_eq_true rfl⟩) hK hP hD hS hA 3 rfl rfl rfl rfl hl.1 rfl (Nat.le_of_ble_eq_true rfl) dX4_step_5 ⟨Nat.le_of_ble_eq_true rfl, Nat.le_of_ble_eq_true rfl⟩ (fun r_1 u_2 H locs hw_3 hP hD hS => ?_)
  obtain ⟨F_4, V_5⟩ := u_2
  have hP : va_P (dC, dI) vwCl (wC cI cZ h F_4 V_5) H := hP
  have hD : va_D A (wC cI cZ h F_4 V_5) := hD
  obtain rfl : r_1 = (-1) := hw_3
  refine lv_istore_n (lv' := [(2, .int (-1)), (0, .ref (h 0)), (1, .int 1)]) hx hb dX4_step_8 rfl hl (by decide) rfl (fun ls hl => ?_)
  refine lv_iload_n hx hb dX4_step_9 rfl (lv_at hl 0 rfl) ?_
  refine lv_iconst (v := (-1)) hx hb dX4_step_10 (by decide) ?_
  refine lv_icmp_ne (tgt := 22) hx hb dX4_step_11 (by decide) (fun c_6 => ?_) (fun c_6 => ?_)
  · exact absurd c_6 (by decide)
  · refine lv_aload_n hx hb dX4_step_14 rfl (lv_at hl 1 rfl) ?_
    refine lv_iconst (v := 2) hx hb dX4_step_15 (by decide) ?_
    refine cw_Vi (As := [.int 2]) (rest := []) (c_X4_refused l dC dI cI cZ cJ h F_4 V_5 2) fx (cwV 1 hts gX4_step_X4_refused rfl rfl rfl (by decide +kernel) ⟨Nat.le_of_ble_eq_true rfl, Nat.le_of_ble_eq_true rfl⟩) hK hP hD hS hA 0 rfl rfl rfl rfl hl.1 rfl (Nat.le_of_ble_eq_true rfl) dX4_step_16 ⟨Nat.le_of_ble_eq_true rfl, Nat.le_of_ble_eq_true rfl⟩ (fun r_7 u_8 H locs hw_9 hP hD hS => ?_)
    have hP : va_P (dC, dI) vwCl (wC cI cZ h F_4 (va_up V_5 0 2)) H := hP
    have hD : va_D A (wC cI cZ h F_4 (va_up V_5 0 2)) := hD
    obtain rfl : r_7 = (-1) := hw_9
    refine lv_goto (tgt := 27) hx hb dX4_step_19 (by decide) ?_
    exact hret (-1) () H locs 27 ls rfl dX4_step_27 (by first | rfl | (simp []; done) | (exfalso; omega)) (hP.sub [] rfl) (hD.sub [] (by decide) rfl) hS
def rm_X4_earned : Room := { frames := 1, cells := 0, slots := 0, locals := 20 }
set_option maxHeartbeats 4000000 in
set_option maxRecDepth 100000 in
theorem c_X4_earned (l : Launch) (dC : Nat → ClassId) (dI : Nat → Nat → Nat) (cI cZ cJ : ClassId) (h : Nat → Nat) (F : Nat → Nat → Int32) (V : Nat → Int32)  (hV7 : V 7 = 0) : CtI l (dC, dI) vwCl (tys3 cI cZ cJ) yX4_earned wsX4_earned rm_X4_earned [.ref (h 0)] (wC cI cZ h F V) (S := Unit) (fun r _ => r = 0) (fun _ => []) 0 0 := by
  refine ct_I (cc := cX4_earned) (maxL := 1) (ty := .int) (own := RX4) (by decide) rfl rfl (Nat.le_of_ble_eq_true rfl) (lv := [(0, .ref (h 0))]) rfl ?_
  intro p e s m args below meth c A Q ls fx hK hP hD hA hl hret
  obtain ⟨hx, hb, hml, hown, hts⟩ := id fx
  have hS : va_S A s.heap s.heap [] := va_S.rf
  have hw0 := hts (.fieldLink RX4 30 "MirrorTower" "store" "LMirrorTower$Store;") (by decide +kernel)
  have hin_X4 : ∀ w ∈ u_ws RX4 TX4 5, w ∈ wsX4_earned := by decide +kernel
  obtain ⟨H, hH⟩ : ∃ H, H = s.heap := ⟨_, rfl⟩
  rw [← hH] at hP ⊢
  have hS : va_S A s.heap H [] := by rw [hH]; exact hS
  generalize ([] : List Loc) = locs at hS ⊢
  refine lv_aload_n hx hb dX4_earned_0 rfl (lv_at hl 0 rfl) ?_
  refine va_get (D := (dC, dI)) (ci := 4) (v := .ref (h 3)) (C := RX4) (T := TX4) (N := 5) hx hb hts hin_X4 hown hK hP 0 rfl rfl 2 (by decide) hw0 (fun _ h9 => h9) rfl dX4_earned_1 ?_
  refine cw_Vi (As := []) (rest := []) (c_X3_earnedInAll l dC dI cI cZ cJ h F V) fx (cwV 0 hts gX4_earned_X3_earnedInAll rfl rfl rfl (by decide +kernel) ⟨Nat.le_of_ble_eq_true rfl, Nat.le_of_ble_eq_true rfl⟩) hK hP hD hS hA 3 rfl rfl rfl rfl hl.1 rfl (Nat.le_of_ble_eq_true rfl) dX4_earned_4 ⟨Nat.le_of_ble_eq_true rfl, Nat.le_of_ble_eq_true rfl⟩ (fun r_1 u_2 H locs hw_3 hP hD hS => ?_)
  have hP : va_P (dC, dI) vwCl (wC cI cZ h F V) H := hP
  have hD : va_D A (wC cI cZ h F V) := hD
  obtain rfl : r_1 = 0 := Eq.trans hw_3 hV7
  exact hret 0 () H locs 7 ls rfl dX4_earned_7 (by first | rfl | (simp []; done) | (exfalso; omega)) (hP.sub [] rfl) (hD.sub [] (by decide) rfl) hS
def rm_X4_shot : Room := { frames := 1, cells := 0, slots := 0, locals := 22 }
set_option maxHeartbeats 4000000 in
set_option maxRecDepth 100000 in
theorem c_X4_shot (l : Launch) (dC : Nat → ClassId) (dI : Nat → Nat → Nat) (cI cZ cJ : ClassId) (h : Nat → Nat) (F : Nat → Nat → Int32) (V : Nat → Int32) (p0 p1 p2 : Int32) (hV1 : V 1 = 0) : CtI l (dC, dI) vwCl (tys3 cI cZ cJ) yX4_shot wsX4_shot rm_X4_shot [.ref (h 0), .int p0, .int p1, .int p2] (wC cI cZ h F V) (S := Unit) (fun r _ => r = (-1)) (fun _ => []) 0 0 := by
  refine ct_I (cc := cX4_shot) (maxL := 6) (ty := .int) (own := RX4) (by decide) rfl rfl (Nat.le_of_ble_eq_true rfl) (lv := [(0, .ref (h 0)), (1, .int p0), (2, .int p1), (3, .int p2)]) rfl ?_
  intro p e s m args below meth c A Q ls fx hK hP hD hA hl hret
  obtain ⟨hx, hb, hml, hown, hts⟩ := id fx
  have hS : va_S A s.heap s.heap [] := va_S.rf
  have hw0 := hts (.constantLong RX4 153 (4294967295)) (by decide +kernel)
  have hw1 := hts (.methodLink RX4 161 Lib.Math.min.name) (by decide +kernel)
  have hw2 := hts (.static Lib.Math.min.name) (by decide +kernel)
  have hw3 := hts (.initialized "java/lang/Math") (by decide +kernel)
  have hw4 := hts (.code Lib.Math.min.name Lib.Math.min.code 2 (some .int)) (by decide +kernel)
  have hw5 := hts (.fieldLink RX4 10 "MirrorTower" "field" "LMirrorTower$Field;") (by decide +kernel)
  have hin_X4 : ∀ w ∈ u_ws RX4 TX4 5, w ∈ wsX4_shot := by decide +kernel
  obtain ⟨H, hH⟩ : ∃ H, H = s.heap := ⟨_, rfl⟩
  rw [← hH] at hP ⊢
  have hS : va_S A s.heap H [] := by rw [hH]; exact hS
  generalize ([] : List Loc) = locs at hS ⊢
  refine lv_iload_n hx hb dX4_shot_0 rfl (lv_at hl 2 rfl) ?_
  refine lv_i2l hx hb dX4_shot_1 rfl ?_
  refine lv_bipush (v := 32) hx hb dX4_shot_2 (by decide) ?_
  refine lv_lshl hx hb dX4_shot_4 rfl ?_
  refine lv_topl (fun z_1 ez_1 => ?_)
  refine lv_iload_n hx hb dX4_shot_5 rfl (lv_at hl 1 rfl) ?_
  refine lv_i2l hx hb dX4_shot_6 rfl ?_
  refine lv_ldc2 hx hb hown hw0 dX4_shot_7 ?_
  refine lv_land hx hb dX4_shot_10 ?_
  refine lv_topl (fun z_2 ez_2 => ?_)
  refine lv_lor hx hb dX4_shot_11 ?_
  refine lv_topl (fun z_3 ez_3 => ?_)
  refine lv_lstore (lv' := [(4, .long z_3), (0, .ref (h 0)), (1, .int p0), (2, .int p1), (3, .int p2)]) hx hb dX4_shot_12 hl (by decide) rfl (fun ls hl => ?_)
  refine lv_iload_n hx hb dX4_shot_14 rfl (lv_at hl 4 rfl) ?_
  refine lv_iconst (v := 0) hx hb dX4_shot_15 (by decide) ?_
  refine lv_bipush (v := 40) hx hb dX4_shot_16 (by decide) ?_
  refine lv_lload hx hb dX4_shot_18 (lv_at hl 0 rfl) ?_
  refine cw_Si (As := [.long z_3]) (rest := [.int 40, .int 0, .int p2]) (c_J13_bitCount_95d88 l dC dI cI cZ cJ (wC cI cZ h F V) z_3) fx (va_cwS 1 hts gX4_shot_J13_bitCount_95d88 rfl rfl rfl (by decide +kernel) ⟨Nat.le_of_ble_eq_true rfl, Nat.le_of_ble_eq_true rfl⟩) hK hP hD hS hA rfl hl.1 rfl (Nat.le_of_ble_eq_true rfl) dX4_shot_20 ⟨Nat.le_of_ble_eq_true rfl, Nat.le_of_ble_eq_true rfl⟩ (fun r_4 u_5 H locs hw_6 hP hD hS => ?_)
  have hP : va_P (dC, dI) vwCl (wC cI cZ h F V) H := hP
  have hD : va_D A (wC cI cZ h F V) := hD
  refine va_mmin hx hb (hml.trans hl.1.symm) hown hw1 hw2 hw3 hw4 (Nat.le_of_ble_eq_true rfl) (Nat.le_of_ble_eq_true rfl) (Nat.le_of_ble_eq_true rfl) (Nat.le_of_ble_eq_true rfl) dX4_shot_23 ?_
  refine lv_topi (fun x_7 ex_7 => ?_)
  refine cw_Si (As := [.int p2, .int 0, .int x_7]) (rest := []) (c_X4_isWithin l dC dI cI cZ cJ (wC cI cZ h F V) p2 0 x_7) fx (va_cwS 3 hts gX4_shot_X4_isWithin rfl rfl rfl (by decide +kernel) ⟨Nat.le_of_ble_eq_true rfl, Nat.le_of_ble_eq_true rfl⟩) hK hP hD hS hA rfl hl.1 rfl (Nat.le_of_ble_eq_true rfl) dX4_shot_26 ⟨Nat.le_of_ble_eq_true rfl, Nat.le_of_ble_eq_true rfl⟩ (fun r_8 u_9 H locs hw_10 hP hD hS => ?_)
  have hP : va_P (dC, dI) vwCl (wC cI cZ h F V) H := hP
  have hD : va_D A (wC cI cZ h F V) := hD
  have hw_10 : r_8 = bI (isW p2 0 x_7) := hw_10
  refine lv_if_ne (tgt := 38) hx hb dX4_shot_29 (by decide) (fun c_11 => ?_) (fun c_11 => ?_)
  · have c_11 : isW p2 0 x_7 = true := bI_t hw_10 c_11
    refine lv_lload hx hb dX4_shot_38 (lv_at hl 0 rfl) ?_
    refine lv_lconst (v := 0) hx hb dX4_shot_40 (by decide) ?_
    refine W.lcmp hx hb dX4_shot_41 ?_
    refine lv_if_eq (tgt := 60) hx hb dX4_shot_42 (by decide) (fun c_12 => ?_) (fun c_12 => ?_)
    · have c_12 : eqI (lg_cmp z_3 0) 0 = true := decide_eq_true c_12
      refine lv_aload_n hx hb dX4_shot_60 rfl (lv_at hl 1 rfl) ?_
      refine lv_iconst (v := 4) hx hb dX4_shot_61 (by decide) ?_
      refine cw_Vi (As := [.int 4]) (rest := []) (c_X4_refused l dC dI cI cZ cJ h F V 4) fx (cwV 1 hts gX4_shot_X4_refused rfl rfl rfl (by decide +kernel) ⟨Nat.le_of_ble_eq_true rfl, Nat.le_of_ble_eq_true rfl⟩) hK hP hD hS hA 0 rfl rfl rfl rfl hl.1 rfl (Nat.le_of_ble_eq_true rfl) dX4_shot_62 ⟨Nat.le_of_ble_eq_true rfl, Nat.le_of_ble_eq_true rfl⟩ (fun r_13 u_14 H locs hw_15 hP hD hS => ?_)
      have hP : va_P (dC, dI) vwCl (wC cI cZ h F (va_up V 0 4)) H := hP
      have hD : va_D A (wC cI cZ h F (va_up V 0 4)) := hD
      obtain rfl : r_13 = (-1) := hw_15
      exact hret (-1) () H locs 65 ls rfl dX4_shot_65 (by first | rfl | (simp [c_11, c_12]; done) | (exfalso; omega)) (hP.sub [] rfl) (hD.sub [] (by decide) rfl) hS
    · have c_12 : eqI (lg_cmp z_3 0) 0 = false := decide_eq_false c_12
      refine lv_lload hx hb dX4_shot_45 (lv_at hl 0 rfl) ?_
      refine lv_aload_n hx hb dX4_shot_47 rfl (lv_at hl 1 rfl) ?_
      refine va_get (D := (dC, dI)) (ci := 4) (v := .ref (h 1)) (C := RX4) (T := TX4) (N := 5) hx hb hts hin_X4 hown hK hP 0 rfl rfl 0 (by decide) hw5 (fun _ h9 => h9) rfl dX4_shot_48 ?_
      refine cw_Vi (As := []) (rest := [.long z_3]) (c_X1_size l dC dI cI cZ cJ h F V) fx (cwV 0 hts gX4_shot_X1_size rfl rfl rfl (by decide +kernel) ⟨Nat.le_of_ble_eq_true rfl, Nat.le_of_ble_eq_true rfl⟩) hK hP hD hS hA 1 rfl rfl rfl rfl hl.1 rfl (Nat.le_of_ble_eq_true rfl) dX4_shot_51 ⟨Nat.le_of_ble_eq_true rfl, Nat.le_of_ble_eq_true rfl⟩ (fun r_16 u_17 H locs hw_18 hP hD hS => ?_)
      have hP : va_P (dC, dI) vwCl (wC cI cZ h F V) H := hP
      have hD : va_D A (wC cI cZ h F V) := hD
      obtain rfl : r_16 = 0 := Eq.trans hw_18 hV1
      refine lv_lushr hx hb dX4_shot_54 rfl ?_
      refine lv_topl (fun z_19 ez_19 => ?_)
      refine lv_lconst (v := 0) hx hb dX4_shot_55 (by decide) ?_
      refine W.lcmp hx hb dX4_shot_56 ?_
      refine lv_if_eq (tgt := 66) hx hb dX4_shot_57 (by decide) (fun c_20 => ?_) (fun c_20 => ?_)
      · exact absurd (show eqI (lg_cmp z_3 0) 0 = true from by rw [show z_3 = 0 from (sh0 z_3).symm.trans (ez_19.symm.trans (lg_eq0 c_20)), lg_self]; decide) (by rw [c_12]; decide)
      · have c_20 : eqI (lg_cmp z_19 0) 0 = false := decide_eq_false c_20
        refine lv_aload_n hx hb dX4_shot_60 rfl (lv_at hl 1 rfl) ?_
        refine lv_iconst (v := 4) hx hb dX4_shot_61 (by decide) ?_
        refine cw_Vi (As := [.int 4]) (rest := []) (c_X4_refused l dC dI cI cZ cJ h F V 4) fx (cwV 1 hts gX4_shot_X4_refused rfl rfl rfl (by decide +kernel) ⟨Nat.le_of_ble_eq_true rfl, Nat.le_of_ble_eq_true rfl⟩) hK hP hD hS hA 0 rfl rfl rfl rfl hl.1 rfl (Nat.le_of_ble_eq_true rfl) dX4_shot_62 ⟨Nat.le_of_ble_eq_true rfl, Nat.le_of_ble_eq_true rfl⟩ (fun r_21 u_22 H locs hw_23 hP hD hS => ?_)
        have hP : va_P (dC, dI) vwCl (wC cI cZ h F (va_up V 0 4)) H := hP
        have hD : va_D A (wC cI cZ h F (va_up V 0 4)) := hD
        obtain rfl : r_21 = (-1) := hw_23
        exact hret (-1) () H locs 65 ls rfl dX4_shot_65 (by first | rfl | (simp [c_11, c_12, c_20]; done) | (exfalso; omega)) (hP.sub [] rfl) (hD.sub [] (by decide) rfl) hS
  · have c_11 : isW p2 0 x_7 = false := bI_f hw_10 c_11
    refine lv_aload_n hx hb dX4_shot_32 rfl (lv_at hl 1 rfl) ?_
    refine lv_iconst (v := 2) hx hb dX4_shot_33 (by decide) ?_
    refine cw_Vi (As := [.int 2]) (rest := []) (c_X4_refused l dC dI cI cZ cJ h F V 2) fx (cwV 1 hts gX4_shot_X4_refused rfl rfl rfl (by decide +kernel) ⟨Nat.le_of_ble_eq_true rfl, Nat.le_of_ble_eq_true rfl⟩) hK hP hD hS hA 0 rfl rfl rfl rfl hl.1 rfl (Nat.le_of_ble_eq_true rfl) dX4_shot_34 ⟨Nat.le_of_ble_eq_true rfl, Nat.le_of_ble_eq_true rfl⟩ (fun r_24 u_25 H locs hw_26 hP hD hS => ?_)
    have hP : va_P (dC, dI) vwCl (wC cI cZ h F (va_up V 0 2)) H := hP
    have hD : va_D A (wC cI cZ h F (va_up V 0 2)) := hD
    obtain rfl : r_24 = (-1) := hw_26
    exact hret (-1) () H locs 37 ls rfl dX4_shot_37 (by first | rfl | (simp [c_11]; done) | (exfalso; omega)) (hP.sub [] rfl) (hD.sub [] (by decide) rfl) hS
def rm_X4_forget : Room := { frames := 2, cells := 0, slots := 0, locals := 44 }
set_option maxHeartbeats 4000000 in
set_option maxRecDepth 100000 in
theorem c_X4_forget (l : Launch) (dC : Nat → ClassId) (dI : Nat → Nat → Nat) (cI cZ cJ : ClassId) (h : Nat → Nat) (F : Nat → Nat → Int32) (V : Nat → Int32)  (hV11 : V 11 = 0) : CtI l (dC, dI) vwCl (tys3 cI cZ cJ) yX4_forget wsX4_forget rm_X4_forget [.ref (h 0)] (wC cI cZ h F V) (S := Unit) (fun r _ => r = 0) (fun _ => []) 0 0 := by
  refine ct_I (cc := cX4_forget) (maxL := 1) (ty := .int) (own := RX4) (by decide) rfl rfl (Nat.le_of_ble_eq_true rfl) (lv := [(0, .ref (h 0))]) rfl ?_
  intro p e s m args below meth c A Q ls fx hK hP hD hA hl hret
  obtain ⟨hx, hb, hml, hown, hts⟩ := id fx
  have hS : va_S A s.heap s.heap [] := va_S.rf
  have hw0 := hts (.fieldLink RX4 37 "MirrorTower" "shots" "LMirrorTower$Shots;") (by decide +kernel)
  have hin_X4 : ∀ w ∈ u_ws RX4 TX4 5, w ∈ wsX4_forget := by decide +kernel
  obtain ⟨H, hH⟩ : ∃ H, H = s.heap := ⟨_, rfl⟩
  rw [← hH] at hP ⊢
  have hS : va_S A s.heap H [] := by rw [hH]; exact hS
  generalize ([] : List Loc) = locs at hS ⊢
  refine lv_aload_n hx hb dX4_forget_0 rfl (lv_at hl 0 rfl) ?_
  refine va_get (D := (dC, dI)) (ci := 4) (v := .ref (h 4)) (C := RX4) (T := TX4) (N := 5) hx hb hts hin_X4 hown hK hP 0 rfl rfl 3 (by decide) hw0 (fun _ h9 => h9) rfl dX4_forget_1 ?_
  refine cw_Vi (As := []) (rest := []) (c_X2_drop l dC dI cI cZ cJ h F V hV11) fx (cwV 0 hts gX4_forget_X2_drop rfl rfl rfl (by decide +kernel) ⟨Nat.le_of_ble_eq_true rfl, Nat.le_of_ble_eq_true rfl⟩) hK hP hD hS hA 4 rfl rfl rfl rfl hl.1 rfl (Nat.le_of_ble_eq_true rfl) dX4_forget_4 ⟨Nat.le_of_ble_eq_true rfl, Nat.le_of_ble_eq_true rfl⟩ (fun r_1 u_2 H locs hw_3 hP hD hS => ?_)
  obtain ⟨F_4, V_5⟩ := u_2
  have hP : va_P (dC, dI) vwCl (wC cI cZ h F_4 V_5) H := hP
  have hD : va_D A (wC cI cZ h F_4 V_5) := hD
  obtain rfl : r_1 = 0 := hw_3
  exact hret 0 () H locs 7 ls rfl dX4_forget_7 (by first | rfl | (simp []; done) | (exfalso; omega)) (hP.sub [] rfl) (hD.sub [] (by decide) rfl) hS
def rm_X4_agree : Room := { frames := 3, cells := 0, slots := 0, locals := 67 }
set_option maxHeartbeats 4000000 in
set_option maxRecDepth 100000 in
theorem c_X4_agree (l : Launch) (dC : Nat → ClassId) (dI : Nat → Nat → Nat) (cI cZ cJ : ClassId) (h : Nat → Nat) (F : Nat → Nat → Int32) (V : Nat → Int32)  (hV1 : V 1 = 0) (hV10 : V 10 = 0) : CtI l (dC, dI) vwCl (tys3 cI cZ cJ) yX4_agree wsX4_agree rm_X4_agree [.ref (h 0)] (wC cI cZ h F V) (S := Unit) (fun r _ => r = 1) (fun _ => []) 0 0 := by
  refine ct_I (cc := cX4_agree) (maxL := 1) (ty := .int) (own := RX4) (by decide) rfl rfl (Nat.le_of_ble_eq_true rfl) (lv := [(0, .ref (h 0))]) rfl ?_
  intro p e s m args below meth c A Q ls fx hK hP hD hA hl hret
  obtain ⟨hx, hb, hml, hown, hts⟩ := id fx
  have hS : va_S A s.heap s.heap [] := va_S.rf
  have hw0 := hts (.fieldLink RX4 37 "MirrorTower" "shots" "LMirrorTower$Shots;") (by decide +kernel)
  have hin_X4 : ∀ w ∈ u_ws RX4 TX4 5, w ∈ wsX4_agree := by decide +kernel
  have hw2 := hts (.fieldLink RX4 10 "MirrorTower" "field" "LMirrorTower$Field;") (by decide +kernel)
  obtain ⟨H, hH⟩ : ∃ H, H = s.heap := ⟨_, rfl⟩
  rw [← hH] at hP ⊢
  have hS : va_S A s.heap H [] := by rw [hH]; exact hS
  generalize ([] : List Loc) = locs at hS ⊢
  refine lv_aload_n hx hb dX4_agree_0 rfl (lv_at hl 0 rfl) ?_
  refine va_get (D := (dC, dI)) (ci := 4) (v := .ref (h 4)) (C := RX4) (T := TX4) (N := 5) hx hb hts hin_X4 hown hK hP 0 rfl rfl 3 (by decide) hw0 (fun _ h9 => h9) rfl dX4_agree_1 ?_
  refine lv_aload_n hx hb dX4_agree_4 rfl (lv_at hl 0 rfl) ?_
  refine va_get (D := (dC, dI)) (ci := 4) (v := .ref (h 1)) (C := RX4) (T := TX4) (N := 5) hx hb hts hin_X4 hown hK hP 0 rfl rfl 0 (by decide) hw2 (fun _ h9 => h9) rfl dX4_agree_5 ?_
  refine cw_Vi (As := []) (rest := [.ref (h 4)]) (c_X1_size l dC dI cI cZ cJ h F V) fx (cwV 0 hts gX4_agree_X1_size rfl rfl rfl (by decide +kernel) ⟨Nat.le_of_ble_eq_true rfl, Nat.le_of_ble_eq_true rfl⟩) hK hP hD hS hA 1 rfl rfl rfl rfl hl.1 rfl (Nat.le_of_ble_eq_true rfl) dX4_agree_8 ⟨Nat.le_of_ble_eq_true rfl, Nat.le_of_ble_eq_true rfl⟩ (fun r_1 u_2 H locs hw_3 hP hD hS => ?_)
  have hP : va_P (dC, dI) vwCl (wC cI cZ h F V) H := hP
  have hD : va_D A (wC cI cZ h F V) := hD
  obtain rfl : r_1 = 0 := Eq.trans hw_3 hV1
  refine cw_Vi (As := [.int 0]) (rest := []) (c_X2_setsOf l dC dI cI cZ cJ h F V hV10) fx (cwV 1 hts gX4_agree_X2_setsOf rfl rfl rfl (by decide +kernel) ⟨Nat.le_of_ble_eq_true rfl, Nat.le_of_ble_eq_true rfl⟩) hK hP hD hS hA 4 rfl rfl rfl rfl hl.1 rfl (Nat.le_of_ble_eq_true rfl) dX4_agree_11 ⟨Nat.le_of_ble_eq_true rfl, Nat.le_of_ble_eq_true rfl⟩ (fun r_4 u_5 H locs hw_6 hP hD hS => ?_)
  obtain ⟨F_7, V_8⟩ := u_5
  have hP : va_P (dC, dI) vwCl (wC cI cZ h F_7 V_8) H := hP
  have hD : va_D A (wC cI cZ h F_7 V_8) := hD
  obtain rfl : r_4 = 1 := hw_6
  exact hret 1 () H locs 14 ls rfl dX4_agree_14 (by first | rfl | (simp []; done) | (exfalso; omega)) (hP.sub [] rfl) (hD.sub [] (by decide) rfl) hS
def rm_X4_stuck : Room := { frames := 2, cells := 0, slots := 0, locals := 43 }
set_option maxHeartbeats 4000000 in
set_option maxRecDepth 100000 in
theorem c_X4_stuck (l : Launch) (dC : Nat → ClassId) (dI : Nat → Nat → Nat) (cI cZ cJ : ClassId) (h : Nat → Nat) (F : Nat → Nat → Int32) (V : Nat → Int32) (p0 : Int32) (hV1 : V 1 = 0) : CtI l (dC, dI) vwCl (tys3 cI cZ cJ) yX4_stuck wsX4_stuck rm_X4_stuck [.ref (h 0), .int p0] (wC cI cZ h F V) (S := Unit) (fun r _ => r = (-1)) (fun _ => []) 0 0 := by
  refine ct_I (cc := cX4_stuck) (maxL := 2) (ty := .int) (own := RX4) (by decide) rfl rfl (Nat.le_of_ble_eq_true rfl) (lv := [(0, .ref (h 0)), (1, .int p0)]) rfl ?_
  intro p e s m args below meth c A Q ls fx hK hP hD hA hl hret
  obtain ⟨hx, hb, hml, hown, hts⟩ := id fx
  have hS : va_S A s.heap s.heap [] := va_S.rf
  obtain ⟨H, hH⟩ : ∃ H, H = s.heap := ⟨_, rfl⟩
  rw [← hH] at hP ⊢
  have hS : va_S A s.heap H [] := by rw [hH]; exact hS
  generalize ([] : List Loc) = locs at hS ⊢
  refine lv_aload_n hx hb dX4_stuck_0 rfl (lv_at hl 0 rfl) ?_
  refine lv_iload_n hx hb dX4_stuck_1 rfl (lv_at hl 1 rfl) ?_
  refine cw_Vi (As := [.int p0]) (rest := []) (c_X4_isMirror l dC dI cI cZ cJ h F V p0 hV1) fx (cwV 1 hts gX4_stuck_X4_isMirror rfl rfl rfl (by decide +kernel) ⟨Nat.le_of_ble_eq_true rfl, Nat.le_of_ble_eq_true rfl⟩) hK hP hD hS hA 0 rfl rfl rfl rfl hl.1 rfl (Nat.le_of_ble_eq_true rfl) dX4_stuck_2 ⟨Nat.le_of_ble_eq_true rfl, Nat.le_of_ble_eq_true rfl⟩ (fun r_1 u_2 H locs hw_3 hP hD hS => ?_)
  have hP : va_P (dC, dI) vwCl (wC cI cZ h F V) H := hP
  have hD : va_D A (wC cI cZ h F V) := hD
  obtain rfl : r_1 = 0 := hw_3
  refine lv_if_eq (tgt := 26) hx hb dX4_stuck_5 (by decide) (fun c_4 => ?_) (fun c_4 => ?_)
  · refine lv_iconst (v := (-1)) hx hb dX4_stuck_26 (by decide) ?_
    exact hret (-1) () H locs 27 ls rfl dX4_stuck_27 (by first | rfl | (simp []; done) | (exfalso; omega)) (hP.sub [] rfl) (hD.sub [] (by decide) rfl) hS
  · exact absurd c_4 (by decide)
def rm_X4_unsure : Room := { frames := 3, cells := 0, slots := 0, locals := 69 }
set_option maxHeartbeats 4000000 in
set_option maxRecDepth 100000 in
theorem c_X4_unsure (l : Launch) (dC : Nat → ClassId) (dI : Nat → Nat → Nat) (cI cZ cJ : ClassId) (h : Nat → Nat) (F : Nat → Nat → Int32) (V : Nat → Int32)  (hV1 : V 1 = 0) (hV10 : V 10 = 0) : CtI l (dC, dI) vwCl (tys3 cI cZ cJ) yX4_unsure wsX4_unsure rm_X4_unsure [.ref (h 0)] (wC cI cZ h F V) (S := Unit) (fun r _ => r = 0) (fun _ => []) 0 0 := by
  refine ct_I (cc := cX4_unsure) (maxL := 1) (ty := .int) (own := RX4) (by decide) rfl rfl (Nat.le_of_ble_eq_true rfl) (lv := [(0, .ref (h 0))]) rfl ?_
  intro p e s m args below meth c A Q ls fx hK hP hD hA hl hret
  obtain ⟨hx, hb, hml, hown, hts⟩ := id fx
  have hS : va_S A s.heap s.heap [] := va_S.rf
  have hw0 := hts (.fieldLink RX4 37 "MirrorTower" "shots" "LMirrorTower$Shots;") (by decide +kernel)
  have hin_X4 : ∀ w ∈ u_ws RX4 TX4 5, w ∈ wsX4_unsure := by decide +kernel
  have hw2 := hts (.fieldLink RX4 10 "MirrorTower" "field" "LMirrorTower$Field;") (by decide +kernel)
  obtain ⟨H, hH⟩ : ∃ H, H = s.heap := ⟨_, rfl⟩
  rw [← hH] at hP ⊢
  have hS : va_S A s.heap H [] := by rw [hH]; exact hS
  generalize ([] : List Loc) = locs at hS ⊢
  refine lv_aload_n hx hb dX4_unsure_0 rfl (lv_at hl 0 rfl) ?_
  refine va_get (D := (dC, dI)) (ci := 4) (v := .ref (h 4)) (C := RX4) (T := TX4) (N := 5) hx hb hts hin_X4 hown hK hP 0 rfl rfl 3 (by decide) hw0 (fun _ h9 => h9) rfl dX4_unsure_1 ?_
  refine lv_aload_n hx hb dX4_unsure_4 rfl (lv_at hl 0 rfl) ?_
  refine va_get (D := (dC, dI)) (ci := 4) (v := .ref (h 1)) (C := RX4) (T := TX4) (N := 5) hx hb hts hin_X4 hown hK hP 0 rfl rfl 0 (by decide) hw2 (fun _ h9 => h9) rfl dX4_unsure_5 ?_
  refine cw_Vi (As := []) (rest := [.ref (h 4)]) (c_X1_size l dC dI cI cZ cJ h F V) fx (cwV 0 hts gX4_unsure_X1_size rfl rfl rfl (by decide +kernel) ⟨Nat.le_of_ble_eq_true rfl, Nat.le_of_ble_eq_true rfl⟩) hK hP hD hS hA 1 rfl rfl rfl rfl hl.1 rfl (Nat.le_of_ble_eq_true rfl) dX4_unsure_8 ⟨Nat.le_of_ble_eq_true rfl, Nat.le_of_ble_eq_true rfl⟩ (fun r_1 u_2 H locs hw_3 hP hD hS => ?_)
  have hP : va_P (dC, dI) vwCl (wC cI cZ h F V) H := hP
  have hD : va_D A (wC cI cZ h F V) := hD
  obtain rfl : r_1 = 0 := Eq.trans hw_3 hV1
  refine cw_Vi (As := [.int 0]) (rest := []) (c_X2_unsureOf l dC dI cI cZ cJ h F V hV10) fx (cwV 1 hts gX4_unsure_X2_unsureOf rfl rfl rfl (by decide +kernel) ⟨Nat.le_of_ble_eq_true rfl, Nat.le_of_ble_eq_true rfl⟩) hK hP hD hS hA 4 rfl rfl rfl rfl hl.1 rfl (Nat.le_of_ble_eq_true rfl) dX4_unsure_11 ⟨Nat.le_of_ble_eq_true rfl, Nat.le_of_ble_eq_true rfl⟩ (fun r_4 u_5 H locs hw_6 hP hD hS => ?_)
  obtain ⟨F_7, V_8⟩ := u_5
  have hP : va_P (dC, dI) vwCl (wC cI cZ h F_7 V_8) H := hP
  have hD : va_D A (wC cI cZ h F_7 V_8) := hD
  obtain rfl : r_4 = 0 := hw_6
  exact hret 0 () H locs 14 ls rfl dX4_unsure_14 (by first | rfl | (simp []; done) | (exfalso; omega)) (hP.sub [] rfl) (hD.sub [] (by decide) rfl) hS
def rm_X4_count : Room := { frames := 1, cells := 0, slots := 0, locals := 22 }
set_option maxHeartbeats 4000000 in
set_option maxRecDepth 100000 in
theorem c_X4_count (l : Launch) (dC : Nat → ClassId) (dI : Nat → Nat → Nat) (cI cZ cJ : ClassId) (h : Nat → Nat) (F : Nat → Nat → Int32) (V : Nat → Int32) (p0 : Int32) (hV1 : V 1 = 0) (hV4 : V 4 = 0) (hV5 : V 5 = 0) (hV6 : V 6 = 0) (hV11 : V 11 = 0) : CtI l (dC, dI) vwCl (tys3 cI cZ cJ) yX4_count wsX4_count rm_X4_count [.ref (h 0), .int p0] (wC cI cZ h F V) (S := Unit) (fun r _ => r = a_count p0) (fun _ => []) 0 0 := by
  refine ct_I (cc := cX4_count) (maxL := 2) (ty := .int) (own := RX4) (by decide) rfl rfl (Nat.le_of_ble_eq_true rfl) (lv := [(0, .ref (h 0)), (1, .int p0)]) rfl ?_
  intro p e s m args below meth c A Q ls fx hK hP hD hA hl hret
  obtain ⟨hx, hb, hml, hown, hts⟩ := id fx
  have hS : va_S A s.heap s.heap [] := va_S.rf
  have hw0 := hts (.fieldLink RX4 10 "MirrorTower" "field" "LMirrorTower$Field;") (by decide +kernel)
  have hin_X4 : ∀ w ∈ u_ws RX4 TX4 5, w ∈ wsX4_count := by decide +kernel
  have hw2 := hts (.fieldLink RX4 30 "MirrorTower" "store" "LMirrorTower$Store;") (by decide +kernel)
  have hw3 := hts (.fieldLink RX4 37 "MirrorTower" "shots" "LMirrorTower$Shots;") (by decide +kernel)
  obtain ⟨H, hH⟩ : ∃ H, H = s.heap := ⟨_, rfl⟩
  rw [← hH] at hP ⊢
  have hS : va_S A s.heap H [] := by rw [hH]; exact hS
  generalize ([] : List Loc) = locs at hS ⊢
  refine lv_iload_n hx hb dX4_count_0 rfl (lv_at hl 1 rfl) ?_
  rcases tsw p0 0 5 (by decide) with c_1 | c_1
  · refine lv_tableOut (tgt := 96) hx hb dX4_count_1 c_1 (by decide) ?_
    refine lv_iconst (v := (-1)) hx hb dX4_count_96 (by decide) ?_
    exact hret (-1) () H locs 97 ls rfl dX4_count_97 (by rw [a_count, if_pos (by simp only [decide_eq_true_eq]; omega)]) (hP.sub [] rfl) (hD.sub [] (by decide) rfl) hS
  · obtain ⟨j_, hj_, c_1⟩ := c_1
    match j_, hj_, c_1 with
    | 0, _, c_1 =>
      refine lv_tableIn (tgt := 40) (off := 39) hx hb dX4_count_1 (by rw [c_1]; decide) (by rw [c_1]; decide) (by rw [c_1]; rfl) (by decide) ?_
      refine lv_aload_n hx hb dX4_count_40 rfl (lv_at hl 0 rfl) ?_
      refine va_get (D := (dC, dI)) (ci := 4) (v := .ref (h 1)) (C := RX4) (T := TX4) (N := 5) hx hb hts hin_X4 hown hK hP 0 rfl rfl 0 (by decide) hw0 (fun _ h9 => h9) rfl dX4_count_41 ?_
      refine cw_Vi (As := []) (rest := []) (c_X1_size l dC dI cI cZ cJ h F V) fx (cwV 0 hts gX4_count_X1_size rfl rfl rfl (by decide +kernel) ⟨Nat.le_of_ble_eq_true rfl, Nat.le_of_ble_eq_true rfl⟩) hK hP hD hS hA 1 rfl rfl rfl rfl hl.1 rfl (Nat.le_of_ble_eq_true rfl) dX4_count_44 ⟨Nat.le_of_ble_eq_true rfl, Nat.le_of_ble_eq_true rfl⟩ (fun r_2 u_3 H locs hw_4 hP hD hS => ?_)
      have hP : va_P (dC, dI) vwCl (wC cI cZ h F V) H := hP
      have hD : va_D A (wC cI cZ h F V) := hD
      obtain rfl : r_2 = 0 := Eq.trans hw_4 hV1
      exact hret 0 () H locs 47 ls rfl dX4_count_47 (by rw [a_count, if_neg (by simp only [decide_eq_true_eq]; omega)]) (hP.sub [] rfl) (hD.sub [] (by decide) rfl) hS
    | 1, _, c_1 =>
      refine lv_tableIn (tgt := 48) (off := 47) hx hb dX4_count_1 (by rw [c_1]; decide) (by rw [c_1]; decide) (by rw [c_1]; rfl) (by decide) ?_
      refine lv_aload_n hx hb dX4_count_48 rfl (lv_at hl 0 rfl) ?_
      refine va_get (D := (dC, dI)) (ci := 4) (v := .ref (h 3)) (C := RX4) (T := TX4) (N := 5) hx hb hts hin_X4 hown hK hP 0 rfl rfl 2 (by decide) hw2 (fun _ h9 => h9) rfl dX4_count_49 ?_
      refine cw_Vi (As := []) (rest := []) (c_X3_hourNow l dC dI cI cZ cJ h F V) fx (cwV 0 hts gX4_count_X3_hourNow rfl rfl rfl (by decide +kernel) ⟨Nat.le_of_ble_eq_true rfl, Nat.le_of_ble_eq_true rfl⟩) hK hP hD hS hA 3 rfl rfl rfl rfl hl.1 rfl (Nat.le_of_ble_eq_true rfl) dX4_count_52 ⟨Nat.le_of_ble_eq_true rfl, Nat.le_of_ble_eq_true rfl⟩ (fun r_5 u_6 H locs hw_7 hP hD hS => ?_)
      have hP : va_P (dC, dI) vwCl (wC cI cZ h F V) H := hP
      have hD : va_D A (wC cI cZ h F V) := hD
      obtain rfl : r_5 = 0 := Eq.trans hw_7 hV4
      exact hret 0 () H locs 55 ls rfl dX4_count_55 (by rw [a_count, if_neg (by simp only [decide_eq_true_eq]; omega)]) (hP.sub [] rfl) (hD.sub [] (by decide) rfl) hS
    | 2, _, c_1 =>
      refine lv_tableIn (tgt := 56) (off := 55) hx hb dX4_count_1 (by rw [c_1]; decide) (by rw [c_1]; decide) (by rw [c_1]; rfl) (by decide) ?_
      refine lv_aload_n hx hb dX4_count_56 rfl (lv_at hl 0 rfl) ?_
      refine va_get (D := (dC, dI)) (ci := 4) (v := .ref (h 3)) (C := RX4) (T := TX4) (N := 5) hx hb hts hin_X4 hown hK hP 0 rfl rfl 2 (by decide) hw2 (fun _ h9 => h9) rfl dX4_count_57 ?_
      refine cw_Vi (As := []) (rest := []) (c_X3_unitsHeld l dC dI cI cZ cJ h F V) fx (cwV 0 hts gX4_count_X3_unitsHeld rfl rfl rfl (by decide +kernel) ⟨Nat.le_of_ble_eq_true rfl, Nat.le_of_ble_eq_true rfl⟩) hK hP hD hS hA 3 rfl rfl rfl rfl hl.1 rfl (Nat.le_of_ble_eq_true rfl) dX4_count_60 ⟨Nat.le_of_ble_eq_true rfl, Nat.le_of_ble_eq_true rfl⟩ (fun r_8 u_9 H locs hw_10 hP hD hS => ?_)
      have hP : va_P (dC, dI) vwCl (wC cI cZ h F V) H := hP
      have hD : va_D A (wC cI cZ h F V) := hD
      obtain rfl : r_8 = 0 := Eq.trans hw_10 hV5
      exact hret 0 () H locs 63 ls rfl dX4_count_63 (by rw [a_count, if_neg (by simp only [decide_eq_true_eq]; omega)]) (hP.sub [] rfl) (hD.sub [] (by decide) rfl) hS
    | 3, _, c_1 =>
      refine lv_tableIn (tgt := 64) (off := 63) hx hb dX4_count_1 (by rw [c_1]; decide) (by rw [c_1]; decide) (by rw [c_1]; rfl) (by decide) ?_
      refine lv_aload_n hx hb dX4_count_64 rfl (lv_at hl 0 rfl) ?_
      refine va_get (D := (dC, dI)) (ci := 4) (v := .ref (h 3)) (C := RX4) (T := TX4) (N := 5) hx hb hts hin_X4 hown hK hP 0 rfl rfl 2 (by decide) hw2 (fun _ h9 => h9) rfl dX4_count_65 ?_
      refine cw_Vi (As := []) (rest := []) (c_X3_isWarm l dC dI cI cZ cJ h F V hV6) fx (cwV 0 hts gX4_count_X3_isWarm rfl rfl rfl (by decide +kernel) ⟨Nat.le_of_ble_eq_true rfl, Nat.le_of_ble_eq_true rfl⟩) hK hP hD hS hA 3 rfl rfl rfl rfl hl.1 rfl (Nat.le_of_ble_eq_true rfl) dX4_count_68 ⟨Nat.le_of_ble_eq_true rfl, Nat.le_of_ble_eq_true rfl⟩ (fun r_11 u_12 H locs hw_13 hP hD hS => ?_)
      have hP : va_P (dC, dI) vwCl (wC cI cZ h F V) H := hP
      have hD : va_D A (wC cI cZ h F V) := hD
      obtain rfl : r_11 = 0 := hw_13
      refine lv_if_eq (tgt := 78) hx hb dX4_count_71 (by decide) (fun c_14 => ?_) (fun c_14 => ?_)
      · refine lv_iconst (v := 0) hx hb dX4_count_78 (by decide) ?_
        exact hret 0 () H locs 79 ls rfl dX4_count_79 (by rw [a_count, if_neg (by simp only [decide_eq_true_eq]; omega)]) (hP.sub [] rfl) (hD.sub [] (by decide) rfl) hS
      · exact absurd c_14 (by decide)
    | 4, _, c_1 =>
      refine lv_tableIn (tgt := 80) (off := 79) hx hb dX4_count_1 (by rw [c_1]; decide) (by rw [c_1]; decide) (by rw [c_1]; rfl) (by decide) ?_
      refine lv_aload_n hx hb dX4_count_80 rfl (lv_at hl 0 rfl) ?_
      refine va_get (D := (dC, dI)) (ci := 4) (v := .ref (h 4)) (C := RX4) (T := TX4) (N := 5) hx hb hts hin_X4 hown hK hP 0 rfl rfl 3 (by decide) hw3 (fun _ h9 => h9) rfl dX4_count_81 ?_
      refine cw_Vi (As := []) (rest := []) (c_X2_size l dC dI cI cZ cJ h F V) fx (cwV 0 hts gX4_count_X2_size rfl rfl rfl (by decide +kernel) ⟨Nat.le_of_ble_eq_true rfl, Nat.le_of_ble_eq_true rfl⟩) hK hP hD hS hA 4 rfl rfl rfl rfl hl.1 rfl (Nat.le_of_ble_eq_true rfl) dX4_count_84 ⟨Nat.le_of_ble_eq_true rfl, Nat.le_of_ble_eq_true rfl⟩ (fun r_15 u_16 H locs hw_17 hP hD hS => ?_)
      have hP : va_P (dC, dI) vwCl (wC cI cZ h F V) H := hP
      have hD : va_D A (wC cI cZ h F V) := hD
      obtain rfl : r_15 = 0 := Eq.trans hw_17 hV11
      exact hret 0 () H locs 87 ls rfl dX4_count_87 (by rw [a_count, if_neg (by simp only [decide_eq_true_eq]; omega)]) (hP.sub [] rfl) (hD.sub [] (by decide) rfl) hS
    | 5, _, c_1 =>
      refine lv_tableIn (tgt := 88) (off := 87) hx hb dX4_count_1 (by rw [c_1]; decide) (by rw [c_1]; decide) (by rw [c_1]; rfl) (by decide) ?_
      refine lv_aload_n hx hb dX4_count_88 rfl (lv_at hl 0 rfl) ?_
      refine va_get (D := (dC, dI)) (ci := 4) (v := .ref (h 1)) (C := RX4) (T := TX4) (N := 5) hx hb hts hin_X4 hown hK hP 0 rfl rfl 0 (by decide) hw0 (fun _ h9 => h9) rfl dX4_count_89 ?_
      refine cw_Vi (As := []) (rest := []) (c_X1_soilInAll l dC dI cI cZ cJ h F V hV1) fx (cwV 0 hts gX4_count_X1_soilInAll rfl rfl rfl (by decide +kernel) ⟨Nat.le_of_ble_eq_true rfl, Nat.le_of_ble_eq_true rfl⟩) hK hP hD hS hA 1 rfl rfl rfl rfl hl.1 rfl (Nat.le_of_ble_eq_true rfl) dX4_count_92 ⟨Nat.le_of_ble_eq_true rfl, Nat.le_of_ble_eq_true rfl⟩ (fun r_18 u_19 H locs hw_20 hP hD hS => ?_)
      have hP : va_P (dC, dI) vwCl (wC cI cZ h F V) H := hP
      have hD : va_D A (wC cI cZ h F V) := hD
      obtain rfl : r_18 = 0 := hw_20
      exact hret 0 () H locs 95 ls rfl dX4_count_95 (by rw [a_count, if_neg (by simp only [decide_eq_true_eq]; omega)]) (hP.sub [] rfl) (hD.sub [] (by decide) rfl) hS
    | j_ + 6, hj_, _ => exact absurd hj_ (by omega)
def rm_X4_trouble : Room := { frames := 0, cells := 0, slots := 0, locals := 0 }
set_option maxHeartbeats 4000000 in
set_option maxRecDepth 100000 in
theorem c_X4_trouble (l : Launch) (dC : Nat → ClassId) (dI : Nat → Nat → Nat) (cI cZ cJ : ClassId) (h : Nat → Nat) (F : Nat → Nat → Int32) (V : Nat → Int32)  (hV0 : V 0 = 0) : CtI l (dC, dI) vwCl (tys3 cI cZ cJ) yX4_trouble wsX4_trouble rm_X4_trouble [.ref (h 0)] (wC cI cZ h F V) (S := Unit) (fun r _ => r = 0) (fun _ => []) 0 0 := by
  refine ct_I (cc := cX4_trouble) (maxL := 1) (ty := .int) (own := RX4) (by decide) rfl rfl (Nat.le_of_ble_eq_true rfl) (lv := [(0, .ref (h 0))]) rfl ?_
  intro p e s m args below meth c A Q ls fx hK hP hD hA hl hret
  obtain ⟨hx, hb, hml, hown, hts⟩ := id fx
  have hS : va_S A s.heap s.heap [] := va_S.rf
  have hw0 := hts (.fieldLink RX4 41 "MirrorTower" "trouble" "I") (by decide +kernel)
  have hin_X4 : ∀ w ∈ u_ws RX4 TX4 5, w ∈ wsX4_trouble := by decide +kernel
  obtain ⟨H, hH⟩ : ∃ H, H = s.heap := ⟨_, rfl⟩
  rw [← hH] at hP ⊢
  have hS : va_S A s.heap H [] := by rw [hH]; exact hS
  generalize ([] : List Loc) = locs at hS ⊢
  refine lv_aload_n hx hb dX4_trouble_0 rfl (lv_at hl 0 rfl) ?_
  refine va_get (D := (dC, dI)) (ci := 4) (v := .int (V 0)) (C := RX4) (T := TX4) (N := 5) hx hb hts hin_X4 hown hK hP 0 rfl rfl 4 (by decide) hw0 (fun _ h9 => h9) rfl dX4_trouble_1 ?_
  refine lv_topi (fun x_1 ex_1 => ?_)
  obtain rfl : x_1 = 0 := ex_1.trans (hV0)
  exact hret 0 () H locs 4 ls rfl dX4_trouble_4 (by first | rfl | (simp []; done) | (exfalso; omega)) (hP.sub [] rfl) (hD.sub [] (by decide) rfl) hS
