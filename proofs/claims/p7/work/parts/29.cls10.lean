/-- the way that the choices show, hour by hour: units held and whether it ran; and the hours in which it runs, as bits -/
def fcT (C : Nat → Int32) (cm : Nat → Nat) (nw un wm : Nat) : Nat → Nat × Nat
  | 0 => (un, wm)
  | j + 1 => if tkb (C (2 * (fcT C cm nw un wm j).1 + (fcT C cm nw un wm j).2)) (nw + j) then (min 200 ((fcT C cm nw un wm j).1 + cm (nw + j)) - (7 - 2 * (fcT C cm nw un wm j).2), 1) else (min 200 ((fcT C cm nw un wm j).1 + cm (nw + j)), 0)
def fcP (C : Nat → Int32) (cm : Nat → Nat) (nw un wm : Nat) : Nat → Int32
  | 0 => 0
  | j + 1 => if tkb (C (2 * (fcT C cm nw un wm j).1 + (fcT C cm nw un wm j).2)) (nw + j) then fcP C cm nw un wm j ||| ((1 : Int32) <<< (nI (nw + j) &&& 31)) else fcP C cm nw un wm j
def rm_X3_followChoices : Room := { frames := 2, cells := 0, slots := 0, locals := 34 }
set_option maxHeartbeats 4000000 in
set_option maxRecDepth 100000 in
theorem c_X3_followChoices (l : Launch) (dC : Nat → ClassId) (dI : Nat → Nat → Nat) (cI cZ cJ : ClassId) (h : Nat → Nat) (F : Nat → Nat → Int32) (V : Nat → Int32) (nw : Nat) (hV4 : V 4 = nI nw) (bV4 : nw ≤ 23) (un : Nat) (hV5 : V 5 = nI un) (bV5 : un ≤ 200) (wm : Nat) (hV6 : V 6 = nI wm) (bV6 : wm ≤ 1) (cm : Nat → Nat) (hcm : ∀ k, nw ≤ k → k < 24 → F 27 k = nI (cm k)) (bcm : ∀ k, nw ≤ k → k < 24 → cm k ≤ 40) (hsf : ∀ k, nw ≤ k → k < 24 → ∀ a, a ≤ 200 → ∀ b, b ≤ 1 → tkb (F 26 (2 * a + b)) k = true → 7 - 2 * b ≤ min 200 (a + cm k))   : CtV l (dC, dI) vwCl (tys3 cI cZ cJ) yX3_followChoices wsX3_followChoices rm_X3_followChoices [.ref (h 3)] (wC cI cZ h F V) (S := Nat → Int32) (fun u => u 8 = fcP (F 26) cm nw un wm (24 - nw) ∧ u 9 = nI nw ∧ ∀ i, i ≠ 8 → i ≠ 9 → u i = V i) (fun u => wC cI cZ h F u) 0 0 := by
  refine ct_V (cc := cX3_followChoices) (maxL := 5) (own := RX3) (by decide) rfl rfl (Nat.le_of_ble_eq_true rfl) (lv := [(0, .ref (h 3))]) rfl ?_
  intro p e s m args below meth c A Q ls hnm fx hK hP hD hA hl hret
  obtain ⟨hx, hb, hml, hown, hts⟩ := id fx
  have hS : va_S A s.heap s.heap [] := va_S.rf
  have hw0 := hts (.fieldLink RX3 88 "MirrorTower$Store" "planned" "I") (by decide +kernel)
  have hin_X3 : ∀ w ∈ u_ws RX3 TX3 14, w ∈ wsX3_followChoices := by decide +kernel
  have hw2 := hts (.fieldLink RX3 48 "MirrorTower$Store" "now" "I") (by decide +kernel)
  have hw3 := hts (.fieldLink RX3 44 "MirrorTower$Store" "plannedFrom" "I") (by decide +kernel)
  have hw4 := hts (.fieldLink RX3 51 "MirrorTower$Store" "units" "I") (by decide +kernel)
  have hw5 := hts (.fieldLink RX3 54 "MirrorTower$Store" "warm" "Z") (by decide +kernel)
  have hw6 := hts (.fieldLink RX3 35 "MirrorTower$Store" "choices" "[I") (by decide +kernel)
  have hw7 := hts (.fieldLink RX3 38 "MirrorTower$Store" "unitsIn" "[I") (by decide +kernel)
  obtain ⟨H, hH⟩ : ∃ H, H = s.heap := ⟨_, rfl⟩
  rw [← hH] at hP ⊢
  have hS : va_S A s.heap H [] := by rw [hH]; exact hS
  generalize ([] : List Loc) = locs at hS ⊢
  refine lv_aload_n hx hb dX3_followChoices_0 rfl (lv_at hl 0 rfl) ?_
  refine lv_iconst (v := 0) hx hb dX3_followChoices_1 (by decide) ?_
  refine va_put (D := (dC, dI)) (ci := 3) (v := .int 0) (ty := .int) (C := RX3) (T := TX3) (N := 14) hx hb hts hin_X3 tyX3 tyX3_ok nmX3 hown hK hP hD hS 3 rfl rfl 12 (by decide) hw0 (fun _ h9 => h9) rfl (by decide +kernel) rfl rfl (Nat.le_of_ble_eq_true rfl) dX3_followChoices_2 (fun H locs hP hD hS => ?_)
  have hP : va_P (dC, dI) vwCl (wC cI cZ h F (va_up V 8 0)) H := hP
  have hD : va_D A (wC cI cZ h F (va_up V 8 0)) := hD
  refine lv_aload_n hx hb dX3_followChoices_5 rfl (lv_at hl 0 rfl) ?_
  refine lv_aload_n hx hb dX3_followChoices_6 rfl (lv_at hl 0 rfl) ?_
  refine va_get (D := (dC, dI)) (ci := 3) (v := .int (V 4)) (C := RX3) (T := TX3) (N := 14) hx hb hts hin_X3 hown hK hP 3 rfl rfl 3 (by decide) hw2 (fun _ h9 => h9) rfl dX3_followChoices_7 ?_
  refine lv_topi (fun x_1 ex_1 => ?_)
  obtain rfl : x_1 = nI nw := ex_1.trans (hV4)
  refine va_put (D := (dC, dI)) (ci := 3) (v := .int (nI nw)) (ty := .int) (C := RX3) (T := TX3) (N := 14) hx hb hts hin_X3 tyX3 tyX3_ok nmX3 hown hK hP hD hS 3 rfl rfl 13 (by decide) hw3 (fun _ h9 => h9) rfl (by decide +kernel) rfl rfl (Nat.le_of_ble_eq_true rfl) dX3_followChoices_10 (fun H locs hP hD hS => ?_)
  have hP : va_P (dC, dI) vwCl (wC cI cZ h F (va_up (va_up V 8 0) 9 (nI nw))) H := hP
  have hD : va_D A (wC cI cZ h F (va_up (va_up V 8 0) 9 (nI nw))) := hD
  refine lv_aload_n hx hb dX3_followChoices_13 rfl (lv_at hl 0 rfl) ?_
  refine va_get (D := (dC, dI)) (ci := 3) (v := .int (V 5)) (C := RX3) (T := TX3) (N := 14) hx hb hts hin_X3 hown hK hP 3 rfl rfl 4 (by decide) hw4 (fun _ h9 => h9) rfl dX3_followChoices_14 ?_
  refine lv_topi (fun x_2 ex_2 => ?_)
  obtain rfl : x_2 = nI un := ex_2.trans (hV5)
  refine lv_istore_n (lv' := [(1, .int (nI un)), (0, .ref (h 3))]) hx hb dX3_followChoices_17 rfl hl (by decide) rfl (fun ls hl => ?_)
  refine lv_aload_n hx hb dX3_followChoices_18 rfl (lv_at hl 1 rfl) ?_
  refine va_get (D := (dC, dI)) (ci := 3) (v := .int (V 6)) (C := RX3) (T := TX3) (N := 14) hx hb hts hin_X3 hown hK hP 3 rfl rfl 5 (by decide) hw5 (fun _ h9 => h9) rfl dX3_followChoices_19 ?_
  refine lv_topi (fun x_3 ex_3 => ?_)
  obtain rfl : x_3 = nI wm := ex_3.trans (hV6)
  refine lv_istore_n (lv' := [(2, .int (nI wm)), (1, .int (nI un)), (0, .ref (h 3))]) hx hb dX3_followChoices_22 rfl hl (by decide) rfl (fun ls hl => ?_)
  refine lv_aload_n hx hb dX3_followChoices_23 rfl (lv_at hl 2 rfl) ?_
  refine va_get (D := (dC, dI)) (ci := 3) (v := .int (V 4)) (C := RX3) (T := TX3) (N := 14) hx hb hts hin_X3 hown hK hP 3 rfl rfl 3 (by decide) hw2 (fun _ h9 => h9) rfl dX3_followChoices_24 ?_
  refine lv_topi (fun x_4 ex_4 => ?_)
  obtain rfl : x_4 = nI nw := ex_4.trans (hV4)
  refine lv_istore_n (lv' := [(3, .int (nI nw)), (2, .int (nI wm)), (1, .int (nI un)), (0, .ref (h 3))]) hx hb dX3_followChoices_27 rfl hl (by decide) rfl (fun ls hl => ?_)
  have loop28 : ∀ (fu : Nat) (j : Nat) (a : Nat) (b : Nat) (V1 : Nat → Int32), (nw + j ≤ 24) → ((a, b) = fcT (F 26) cm nw un wm j) → (a ≤ 200) → (b ≤ 1) → (V1 8 = fcP (F 26) cm nw un wm j) → (∀ i, i ≠ 8 → V1 i = va_up V 9 (nI nw) i) → (24 - (nw + j)) < fu → ∀ (H : Heap) (locs : List Loc) (ls : Array Slot), va_P (dC, dI) vwCl (wC cI cZ h F V1) H → va_D A (wC cI cZ h F V1) → va_S A s.heap H locs → lv_has ls 5 [(0, .ref (h 3)), (1, .int (nI a)), (2, .int (nI b)), (3, .int (nI (nw + j)))] → W p l e rm_X3_followChoices s m args below meth c H locs 0 0 Q (F0 m 28 ls []) := by
    intro fu
    induction fu with
    | zero => intro j a b V1 hj hT ha hb1 hV8 hVo hn_; exact absurd hn_ (Nat.not_lt_zero _)
    | succ fu ih28 =>
      intro j a b V1 hj hT ha hb1 hV8 hVo hn_ H locs ls hP hD hS hl
      refine lv_iload_n hx hb dX3_followChoices_28 rfl (lv_at hl 3 rfl) ?_
      refine lv_bipush (v := 24) hx hb dX3_followChoices_29 (by decide) ?_
      refine lv_icmp_ge (tgt := 102) hx hb dX3_followChoices_31 (by decide) (fun c_5 => ?_) (fun c_5 => ?_)
      · have c_5 : 24 ≤ (nw + j) := (nI_leI (a := 24) (b := nw + j) (by omega) (by omega)).mp c_5
        exact hret V1 H locs 102 ls dX3_followChoices_102 (by
                    refine ⟨by rw [hV8, show 24 - nw = j by omega], by rw [hVo 9 (by decide)]; rfl, fun i h1 h2 => ?_⟩
                    rw [hVo i h1]; simp only [va_up, if_neg h2]) (hP) (hD) hS
      · have c_5 : ¬ 24 ≤ (nw + j) := fun h => c_5 ((nI_leI (a := 24) (b := nw + j) (by omega) (by omega)).mpr h)
        refine lv_aload_n hx hb dX3_followChoices_34 rfl (lv_at hl 0 rfl) ?_
        refine va_get (D := (dC, dI)) (ci := 3) (v := .ref (h 26)) (C := RX3) (T := TX3) (N := 14) hx hb hts hin_X3 hown hK hP 3 rfl rfl 9 (by decide) hw6 (fun _ h9 => h9) rfl dX3_followChoices_35 ?_
        refine lv_iload_n hx hb dX3_followChoices_38 rfl (lv_at hl 1 rfl) ?_
        refine lv_iload_n hx hb dX3_followChoices_39 rfl (lv_at hl 2 rfl) ?_
        refine cw_Si (As := [.int (nI a), .int (nI b)]) (rest := [.ref (h 26)]) (c_X3_stateOf l dC dI cI cZ cJ (wC cI cZ h F V1) a b (by omega)) fx (va_cwS 2 hts gX3_followChoices_X3_stateOf rfl rfl rfl (by decide +kernel) ⟨Nat.le_of_ble_eq_true rfl, Nat.le_of_ble_eq_true rfl⟩) hK hP hD hS hA rfl hl.1 rfl (Nat.le_of_ble_eq_true rfl) dX3_followChoices_40 ⟨Nat.le_of_ble_eq_true rfl, Nat.le_of_ble_eq_true rfl⟩ (fun r_6 u_7 H locs hw_8 hP hD hS => ?_)
        have hP : va_P (dC, dI) vwCl (wC cI cZ h F V1) H := hP
        have hD : va_D A (wC cI cZ h F V1) := hD
        obtain rfl : r_6 = nI (2 * a + b) := hw_8
        refine va_iald hx hb hK hP 26 0 rfl rfl (vp_in_nI (n := 2 * a + b) (N := 402) (by omega) (by decide)) dX3_followChoices_43 ?_
        refine lv_topi (fun x_9 ex_9 => ?_)
        rw [nI_clamp (n := 2 * a + b) (by omega)] at ex_9
        refine lv_iload_n hx hb dX3_followChoices_44 rfl (lv_at hl 3 rfl) ?_
        refine lv_ishr hx hb dX3_followChoices_45 ?_
        refine lv_iconst (v := 1) hx hb dX3_followChoices_46 (by decide) ?_
        refine lv_iand hx hb dX3_followChoices_47 ?_
        refine lv_if_eq (tgt := 55) hx hb dX3_followChoices_48 (by decide) (fun c_10 => ?_) (fun c_10 => ?_)
        · have c_10 : eqI ((x_9 >>> ((nI (nw + j)) &&& 31)) &&& 1) 0 = true := decide_eq_true c_10
          refine lv_iconst (v := 0) hx hb dX3_followChoices_55 (by decide) ?_
          refine lv_istore (lv' := [(4, .int 0), (0, .ref (h 3)), (1, .int (nI a)), (2, .int (nI b)), (3, .int (nI (nw + j)))]) hx hb dX3_followChoices_56 hl (by decide) rfl (fun ls hl => ?_)
          refine lv_iload_n hx hb dX3_followChoices_58 rfl (lv_at hl 2 rfl) ?_
          refine lv_aload_n hx hb dX3_followChoices_59 rfl (lv_at hl 1 rfl) ?_
          refine va_get (D := (dC, dI)) (ci := 3) (v := .ref (h 27)) (C := RX3) (T := TX3) (N := 14) hx hb hts hin_X3 hown hK hP 3 rfl rfl 10 (by decide) hw7 (fun _ h9 => h9) rfl dX3_followChoices_60 ?_
          refine lv_iload_n hx hb dX3_followChoices_63 rfl (lv_at hl 4 rfl) ?_
          refine va_iald hx hb hK hP 27 0 rfl rfl (vp_in_nI (n := nw + j) (N := 24) (by omega) (by decide)) dX3_followChoices_64 ?_
          have hb_11 := bcm (nw + j) (by omega) (by omega)
          refine lv_topi (fun x_12 ex_12 => ?_)
          obtain rfl : x_12 = nI (cm (nw + j)) := ex_12.trans ((congrArg (F 27) (nI_clamp (n := nw + j) (by omega))).trans (hcm (nw + j) (by omega) (by omega)))
          refine cw_Si (As := [.int (nI a), .int (nI (cm (nw + j)))]) (rest := []) (c_X3_filled l dC dI cI cZ cJ (wC cI cZ h F V1) a (cm (nw + j)) (by omega)) fx (va_cwS 2 hts gX3_followChoices_X3_filled rfl rfl rfl (by decide +kernel) ⟨Nat.le_of_ble_eq_true rfl, Nat.le_of_ble_eq_true rfl⟩) hK hP hD hS hA rfl hl.1 rfl (Nat.le_of_ble_eq_true rfl) dX3_followChoices_65 ⟨Nat.le_of_ble_eq_true rfl, Nat.le_of_ble_eq_true rfl⟩ (fun r_13 u_14 H locs hw_15 hP hD hS => ?_)
          have hP : va_P (dC, dI) vwCl (wC cI cZ h F V1) H := hP
          have hD : va_D A (wC cI cZ h F V1) := hD
          obtain rfl : r_13 = nI (min 200 (a + (cm (nw + j)))) := hw_15
          refine lv_istore_n (lv' := [(1, .int (nI (min 200 (a + (cm (nw + j)))))), (4, .int 0), (0, .ref (h 3)), (2, .int (nI b)), (3, .int (nI (nw + j)))]) hx hb dX3_followChoices_68 rfl hl (by decide) rfl (fun ls hl => ?_)
          refine lv_iload hx hb dX3_followChoices_69 (lv_at hl 1 rfl) ?_
          refine lv_if_eq (tgt := 93) hx hb dX3_followChoices_71 (by decide) (fun c_16 => ?_) (fun c_16 => ?_)
          · refine lv_iload hx hb dX3_followChoices_93 (lv_at hl 1 rfl) ?_
            refine lv_istore_n (lv' := [(2, .int 0), (1, .int (nI (min 200 (a + (cm (nw + j)))))), (4, .int 0), (0, .ref (h 3)), (3, .int (nI (nw + j)))]) hx hb dX3_followChoices_95 rfl hl (by decide) rfl (fun ls hl => ?_)
            refine lv_iinc (v := nI ((nw + j) + 1)) (lv' := [(3, .int (nI ((nw + j) + 1))), (2, .int 0), (1, .int (nI (min 200 (a + (cm (nw + j)))))), (4, .int 0), (0, .ref (h 3))]) hx hb dX3_followChoices_96 hl (k := 4) rfl (nI_1 _) (by decide) rfl (fun ls hl => ?_)
            refine lv_goto (tgt := 28) hx hb dX3_followChoices_99 (by decide) ?_
            have hb_18 : tkb (F 26 (2 * (fcT (F 26) cm nw un wm j).1 + (fcT (F 26) cm nw un wm j).2)) (nw + j) = false := by
              have q := c_10
              rw [ex_9] at q
              unfold tkb
              rw [← hT]
              rw [q]; rfl
            exact ih28 (j + 1) (min 200 (a + (cm (nw + j)))) 0 V1 (by omega) (by rw [fcT, if_neg (by rw [hb_18]; decide), ← hT]) (by omega) (by omega) (by rw [fcP, if_neg (by rw [hb_18]; decide)]; exact hV8) hVo (by omega) H locs ls hP hD hS (lv_sub hl [4, 2, 1, 0] rfl)
          · exact absurd c_16 (by decide)
        · have c_10 : eqI ((x_9 >>> ((nI (nw + j)) &&& 31)) &&& 1) 0 = false := decide_eq_false c_10
          refine lv_iconst (v := 1) hx hb dX3_followChoices_51 (by decide) ?_
          refine lv_goto (tgt := 56) hx hb dX3_followChoices_52 (by decide) ?_
          refine lv_istore (lv' := [(4, .int 1), (0, .ref (h 3)), (1, .int (nI a)), (2, .int (nI b)), (3, .int (nI (nw + j)))]) hx hb dX3_followChoices_56 hl (by decide) rfl (fun ls hl => ?_)
          refine lv_iload_n hx hb dX3_followChoices_58 rfl (lv_at hl 2 rfl) ?_
          refine lv_aload_n hx hb dX3_followChoices_59 rfl (lv_at hl 1 rfl) ?_
          refine va_get (D := (dC, dI)) (ci := 3) (v := .ref (h 27)) (C := RX3) (T := TX3) (N := 14) hx hb hts hin_X3 hown hK hP 3 rfl rfl 10 (by decide) hw7 (fun _ h9 => h9) rfl dX3_followChoices_60 ?_
          refine lv_iload_n hx hb dX3_followChoices_63 rfl (lv_at hl 4 rfl) ?_
          refine va_iald hx hb hK hP 27 0 rfl rfl (vp_in_nI (n := nw + j) (N := 24) (by omega) (by decide)) dX3_followChoices_64 ?_
          have hb_19 := bcm (nw + j) (by omega) (by omega)
          refine lv_topi (fun x_20 ex_20 => ?_)
          obtain rfl : x_20 = nI (cm (nw + j)) := ex_20.trans ((congrArg (F 27) (nI_clamp (n := nw + j) (by omega))).trans (hcm (nw + j) (by omega) (by omega)))
          refine cw_Si (As := [.int (nI a), .int (nI (cm (nw + j)))]) (rest := []) (c_X3_filled l dC dI cI cZ cJ (wC cI cZ h F V1) a (cm (nw + j)) (by omega)) fx (va_cwS 2 hts gX3_followChoices_X3_filled rfl rfl rfl (by decide +kernel) ⟨Nat.le_of_ble_eq_true rfl, Nat.le_of_ble_eq_true rfl⟩) hK hP hD hS hA rfl hl.1 rfl (Nat.le_of_ble_eq_true rfl) dX3_followChoices_65 ⟨Nat.le_of_ble_eq_true rfl, Nat.le_of_ble_eq_true rfl⟩ (fun r_21 u_22 H locs hw_23 hP hD hS => ?_)
          have hP : va_P (dC, dI) vwCl (wC cI cZ h F V1) H := hP
          have hD : va_D A (wC cI cZ h F V1) := hD
          obtain rfl : r_21 = nI (min 200 (a + (cm (nw + j)))) := hw_23
          refine lv_istore_n (lv' := [(1, .int (nI (min 200 (a + (cm (nw + j)))))), (4, .int 1), (0, .ref (h 3)), (2, .int (nI b)), (3, .int (nI (nw + j)))]) hx hb dX3_followChoices_68 rfl hl (by decide) rfl (fun ls hl => ?_)
          refine lv_iload hx hb dX3_followChoices_69 (lv_at hl 1 rfl) ?_
          refine lv_if_eq (tgt := 93) hx hb dX3_followChoices_71 (by decide) (fun c_24 => ?_) (fun c_24 => ?_)
          · exact absurd c_24 (by decide)
          · have hsx := hsf (nw + j) (by omega) (by omega) a ha b hb1 (by
              have q := c_10
              rw [ex_9] at q
              unfold tkb
              rw [q]; rfl)
            refine lv_iload_n hx hb dX3_followChoices_74 rfl (lv_at hl 0 rfl) ?_
            refine lv_iload_n hx hb dX3_followChoices_75 rfl (lv_at hl 3 rfl) ?_
            refine cw_Si (As := [.int (nI b)]) (rest := [.int (nI (min 200 (a + (cm (nw + j)))))]) (c_X3_needed l dC dI cI cZ cJ (wC cI cZ h F V1) b (by omega)) fx (va_cwS 1 hts gX3_followChoices_X3_needed rfl rfl rfl (by decide +kernel) ⟨Nat.le_of_ble_eq_true rfl, Nat.le_of_ble_eq_true rfl⟩) hK hP hD hS hA rfl hl.1 rfl (Nat.le_of_ble_eq_true rfl) dX3_followChoices_76 ⟨Nat.le_of_ble_eq_true rfl, Nat.le_of_ble_eq_true rfl⟩ (fun r_25 u_26 H locs hw_27 hP hD hS => ?_)
            have hP : va_P (dC, dI) vwCl (wC cI cZ h F V1) H := hP
            have hD : va_D A (wC cI cZ h F V1) := hD
            obtain rfl : r_25 = nI (7 - 2 * b) := hw_27
            refine lv_isub hx hb dX3_followChoices_79 ?_
            refine lv_topi (fun x_28 ex_28 => ?_)
            obtain rfl : x_28 = nI ((min 200 (a + (cm (nw + j)))) - (7 - 2 * b)) := ex_28.trans (pk_sub (a := min 200 (a + (cm (nw + j)))) (b := 7 - 2 * b) (by omega))
            refine lv_istore_n (lv' := [(1, .int (nI ((min 200 (a + (cm (nw + j)))) - (7 - 2 * b)))), (4, .int 1), (0, .ref (h 3)), (2, .int (nI b)), (3, .int (nI (nw + j)))]) hx hb dX3_followChoices_80 rfl hl (by decide) rfl (fun ls hl => ?_)
            refine lv_aload_n hx hb dX3_followChoices_81 rfl (lv_at hl 2 rfl) ?_
            refine lv_dup hx hb dX3_followChoices_82 rfl ?_
            refine va_get (D := (dC, dI)) (ci := 3) (v := .int (V1 8)) (C := RX3) (T := TX3) (N := 14) hx hb hts hin_X3 hown hK hP 3 rfl rfl 12 (by decide) hw0 (fun _ h9 => h9) rfl dX3_followChoices_83 ?_
            refine lv_iconst (v := 1) hx hb dX3_followChoices_86 (by decide) ?_
            refine lv_iload_n hx hb dX3_followChoices_87 rfl (lv_at hl 4 rfl) ?_
            refine lv_ishl hx hb dX3_followChoices_88 ?_
            refine lv_ior hx hb dX3_followChoices_89 ?_
            refine lv_topi (fun x_29 ex_29 => ?_)
            refine va_put (D := (dC, dI)) (ci := 3) (v := .int x_29) (ty := .int) (C := RX3) (T := TX3) (N := 14) hx hb hts hin_X3 tyX3 tyX3_ok nmX3 hown hK hP hD hS 3 rfl rfl 12 (by decide) hw0 (fun _ h9 => h9) rfl (by decide +kernel) rfl rfl (Nat.le_of_ble_eq_true rfl) dX3_followChoices_90 (fun H locs hP hD hS => ?_)
            have hP : va_P (dC, dI) vwCl (wC cI cZ h F (va_up V1 8 x_29)) H := hP
            have hD : va_D A (wC cI cZ h F (va_up V1 8 x_29)) := hD
            refine lv_iload hx hb dX3_followChoices_93 (lv_at hl 1 rfl) ?_
            refine lv_istore_n (lv' := [(2, .int 1), (1, .int (nI ((min 200 (a + (cm (nw + j)))) - (7 - 2 * b)))), (4, .int 1), (0, .ref (h 3)), (3, .int (nI (nw + j)))]) hx hb dX3_followChoices_95 rfl hl (by decide) rfl (fun ls hl => ?_)
            refine lv_iinc (v := nI ((nw + j) + 1)) (lv' := [(3, .int (nI ((nw + j) + 1))), (2, .int 1), (1, .int (nI ((min 200 (a + (cm (nw + j)))) - (7 - 2 * b)))), (4, .int 1), (0, .ref (h 3))]) hx hb dX3_followChoices_96 hl (k := 4) rfl (nI_1 _) (by decide) rfl (fun ls hl => ?_)
            refine lv_goto (tgt := 28) hx hb dX3_followChoices_99 (by decide) ?_
            have hb_31 : tkb (F 26 (2 * (fcT (F 26) cm nw un wm j).1 + (fcT (F 26) cm nw un wm j).2)) (nw + j) = true := by
              have q := c_10
              rw [ex_9] at q
              unfold tkb
              rw [← hT]
              rw [q]; rfl
            exact ih28 (j + 1) ((min 200 (a + (cm (nw + j)))) - (7 - 2 * b)) 1 (va_up V1 8 x_29) (by omega) (by rw [fcT, if_pos hb_31, ← hT]) (by omega) (by omega) (by show x_29 = _; rw [fcP, if_pos hb_31, ← hV8]; exact ex_29) (fun i h => by show (va_up V1 8 x_29) i = _; simp only [va_up, if_neg h]; exact hVo i h) (by omega) H locs ls hP hD hS (lv_sub hl [4, 2, 1, 0] rfl)
  exact loop28 _ 0 un wm (va_up (va_up V 8 0) 9 (nI nw)) (by omega) rfl (by omega) (by omega) rfl (fun i h => by show (va_up (va_up V 8 0) 9 (nI nw)) i = _; simp only [va_up, if_neg h]) (Nat.lt_succ_self _) H locs ls hP hD hS (lv_sub hl [3, 2, 1, 0] rfl)
