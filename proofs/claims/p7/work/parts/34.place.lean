def rm_X1_placeB : Room := { frames := 1, cells := 0, slots := 0, locals := 27 }
set_option maxHeartbeats 4000000 in
set_option maxRecDepth 100000 in
theorem c_X1_placeB (l : Launch) (dC : Nat → ClassId) (dI : Nat → Nat → Nat) (cI cZ cJ : ClassId) (h : Nat → Nat) (F : Nat → Nat → Int32) (V : Nat → Int32) (n : Nat) (hV1 : V 1 = nI n) (bV1 : n ≤ 40) (k0 k1 : Nat) (hk0 : k0 < 15) (hk1 : k1 < 15)  (hn : n < 40) : CtI l (dC, dI) vwCl (tys3 cI cZ cJ) yX1_place wsX1_place rm_X1_placeB [.ref (h 1), .int (nI k0), .int (nI k1)] (wC cI cZ h F V) (S := Nat → Nat → Int32) (fun r u => (r = nI n) ∧ (∀ j, j ∉ ([5, 6, 7, 8] : List Nat) → u j = F j) ∧ (u 6 = upd (F 6) n (nI k0) ∧ u 7 = upd (F 7) n (nI k1) ∧ u 5 = upd (F 5) k1 (F 5 k1 ||| ((1 : Int32) <<< (nI k0 &&& 31))) ∧ u 8 = plB (u 6) (u 7) n (F 8) n)) (fun u => wC cI cZ h u (va_up V 1 (nI (n + 1)))) 0 0 := by
  refine ct_I (cc := cX1_place) (maxL := 5) (ty := .int) (own := RX1) (by decide) rfl rfl (Nat.le_of_ble_eq_true rfl) (lv := [(0, .ref (h 1)), (1, .int (nI k0)), (2, .int (nI k1))]) rfl ?_
  intro p e s m args below meth c A Q ls fx hK hP hD hA hl hret
  obtain ⟨hx, hb, hml, hown, hts⟩ := id fx
  have hS : va_S A s.heap s.heap [] := va_S.rf
  have hw0 := hts (.fieldLink RX1 43 "MirrorTower$Field" "size" "I") (by decide +kernel)
  have hin_X1 : ∀ w ∈ u_ws RX1 TX1 11, w ∈ wsX1_place := by decide +kernel
  have hw2 := hts (.fieldLink RX1 15 "MirrorTower$Field" "xs" "[I") (by decide +kernel)
  have hw3 := hts (.fieldLink RX1 18 "MirrorTower$Field" "ys" "[I") (by decide +kernel)
  have hw4 := hts (.fieldLink RX1 9 "MirrorTower$Field" "taken" "[I") (by decide +kernel)
  have hw5 := hts (.fieldLink RX1 21 "MirrorTower$Field" "blockers" "[I") (by decide +kernel)
  obtain ⟨H, hH⟩ : ∃ H, H = s.heap := ⟨_, rfl⟩
  rw [← hH] at hP ⊢
  have hS : va_S A s.heap H [] := by rw [hH]; exact hS
  generalize ([] : List Loc) = locs at hS ⊢
  refine lv_aload_n hx hb dX1_place_0 rfl (lv_at hl 0 rfl) ?_
  refine va_get (D := (dC, dI)) (ci := 1) (v := .int (V 1)) (C := RX1) (T := TX1) (N := 11) hx hb hts hin_X1 hown hK hP 1 rfl rfl 5 (by decide) hw0 (fun _ h9 => h9) rfl dX1_place_1 ?_
  refine lv_topi (fun x_1 ex_1 => ?_)
  obtain rfl : x_1 = nI n := ex_1.trans (hV1)
  refine lv_istore_n (lv' := [(3, .int (nI n)), (0, .ref (h 1)), (1, .int (nI k0)), (2, .int (nI k1))]) hx hb dX1_place_4 rfl hl (by decide) rfl (fun ls hl => ?_)
  refine lv_aload_n hx hb dX1_place_5 rfl (lv_at hl 1 rfl) ?_
  refine va_get (D := (dC, dI)) (ci := 1) (v := .ref (h 6)) (C := RX1) (T := TX1) (N := 11) hx hb hts hin_X1 hown hK hP 1 rfl rfl 1 (by decide) hw2 (fun _ h9 => h9) rfl dX1_place_6 ?_
  refine lv_iload_n hx hb dX1_place_9 rfl (lv_at hl 0 rfl) ?_
  refine lv_iload_n hx hb dX1_place_10 rfl (lv_at hl 2 rfl) ?_
  refine va_iast hx hb hK hP hD hS 6 0 rfl rfl (vp_in_nI (n := n) (N := 40) (by omega) (by decide)) dX1_place_11 (fun H locs hP hD hS => ?_)
  obtain ⟨F_2, eF_2⟩ : ∃ z : Nat → Nat → Int32, z = va_up F 6 (upd (F 6) (nI n).toNatClampNeg (nI k0)) := ⟨_, rfl⟩
  have hP : va_P (dC, dI) vwCl (wC cI cZ h F_2 V) H := by rw [eF_2]; exact hP
  have hD : va_D A (wC cI cZ h F_2 V) := by rw [eF_2]; exact hD
  refine lv_aload_n hx hb dX1_place_12 rfl (lv_at hl 1 rfl) ?_
  refine va_get (D := (dC, dI)) (ci := 1) (v := .ref (h 7)) (C := RX1) (T := TX1) (N := 11) hx hb hts hin_X1 hown hK hP 1 rfl rfl 2 (by decide) hw3 (fun _ h9 => h9) rfl dX1_place_13 ?_
  refine lv_iload_n hx hb dX1_place_16 rfl (lv_at hl 0 rfl) ?_
  refine lv_iload_n hx hb dX1_place_17 rfl (lv_at hl 3 rfl) ?_
  refine va_iast hx hb hK hP hD hS 7 0 rfl rfl (vp_in_nI (n := n) (N := 40) (by omega) (by decide)) dX1_place_18 (fun H locs hP hD hS => ?_)
  obtain ⟨F_3, eF_3⟩ : ∃ z : Nat → Nat → Int32, z = va_up F_2 7 (upd (F_2 7) (nI n).toNatClampNeg (nI k1)) := ⟨_, rfl⟩
  have hP : va_P (dC, dI) vwCl (wC cI cZ h F_3 V) H := by rw [eF_3]; exact hP
  have hD : va_D A (wC cI cZ h F_3 V) := by rw [eF_3]; exact hD
  refine lv_aload_n hx hb dX1_place_19 rfl (lv_at hl 1 rfl) ?_
  refine va_get (D := (dC, dI)) (ci := 1) (v := .ref (h 5)) (C := RX1) (T := TX1) (N := 11) hx hb hts hin_X1 hown hK hP 1 rfl rfl 0 (by decide) hw4 (fun _ h9 => h9) rfl dX1_place_20 ?_
  refine lv_iload_n hx hb dX1_place_23 rfl (lv_at hl 3 rfl) ?_
  refine lv_dup2_11 hx hb dX1_place_24 rfl rfl ?_
  refine va_iald hx hb hK hP 5 0 rfl rfl (vp_in_nI (n := k1) (N := 15) (by omega) (by decide)) dX1_place_25 ?_
  refine lv_topi (fun x_4 ex_4 => ?_)
  rw [nI_clamp (n := k1) (by omega)] at ex_4
  refine lv_iconst (v := 1) hx hb dX1_place_26 (by decide) ?_
  refine lv_iload_n hx hb dX1_place_27 rfl (lv_at hl 2 rfl) ?_
  refine lv_ishl hx hb dX1_place_28 ?_
  refine lv_ior hx hb dX1_place_29 ?_
  refine va_iast hx hb hK hP hD hS 5 0 rfl rfl (vp_in_nI (n := k1) (N := 15) (by omega) (by decide)) dX1_place_30 (fun H locs hP hD hS => ?_)
  obtain ⟨F_5, eF_5⟩ : ∃ z : Nat → Nat → Int32, z = va_up F_3 5 (upd (F_3 5) (nI k1).toNatClampNeg (x_4 ||| (1 <<< ((nI k0) &&& 31)))) := ⟨_, rfl⟩
  have hP : va_P (dC, dI) vwCl (wC cI cZ h F_5 V) H := by rw [eF_5]; exact hP
  have hD : va_D A (wC cI cZ h F_5 V) := by rw [eF_5]; exact hD
  refine lv_aload_n hx hb dX1_place_31 rfl (lv_at hl 1 rfl) ?_
  refine lv_dup hx hb dX1_place_32 rfl ?_
  refine va_get (D := (dC, dI)) (ci := 1) (v := .int (V 1)) (C := RX1) (T := TX1) (N := 11) hx hb hts hin_X1 hown hK hP 1 rfl rfl 5 (by decide) hw0 (fun _ h9 => h9) rfl dX1_place_33 ?_
  refine lv_topi (fun x_6 ex_6 => ?_)
  obtain rfl : x_6 = nI n := ex_6.trans (hV1)
  refine lv_iconst (v := 1) hx hb dX1_place_36 (by decide) ?_
  refine lv_iadd hx hb dX1_place_37 ?_
  refine lv_topi (fun x_7 ex_7 => ?_)
  obtain rfl : x_7 = nI (n + 1) := ex_7.trans (nI_add n 1)
  refine va_put (D := (dC, dI)) (ci := 1) (v := .int (nI (n + 1))) (ty := .int) (C := RX1) (T := TX1) (N := 11) hx hb hts hin_X1 tyX1 tyX1_ok nmX1 hown hK hP hD hS 1 rfl rfl 5 (by decide) hw0 (fun _ h9 => h9) rfl (by decide +kernel) rfl rfl (Nat.le_of_ble_eq_true rfl) dX1_place_38 (fun H locs hP hD hS => ?_)
  have hP : va_P (dC, dI) vwCl (wC cI cZ h F_5 (va_up V 1 (nI (n + 1)))) H := hP
  have hD : va_D A (wC cI cZ h F_5 (va_up V 1 (nI (n + 1)))) := hD
  refine lv_iconst (v := 0) hx hb dX1_place_41 (by decide) ?_
  refine lv_istore (lv' := [(4, .int 0), (3, .int (nI n)), (0, .ref (h 1)), (1, .int (nI k0)), (2, .int (nI k1))]) hx hb dX1_place_42 hl (by decide) rfl (fun ls hl => ?_)
  have loop44 : ∀ (fu : Nat) (k : Nat) (F1 : Nat → Nat → Int32), (k ≤ n) → (F1 8 = plB (F_5 6) (F_5 7) n (F_5 8) k) → (∀ j, j ∉ ([8] : List Nat) → F1 j = F_5 j) → (n - k) < fu → ∀ (H : Heap) (locs : List Loc) (ls : Array Slot), va_P (dC, dI) vwCl (wC cI cZ h F1 (va_up V 1 (nI (n + 1)))) H → va_D A (wC cI cZ h F1 (va_up V 1 (nI (n + 1)))) → va_S A s.heap H locs → lv_has ls 5 [(0, .ref (h 1)), (1, .int (nI k0)), (2, .int (nI k1)), (3, .int (nI n)), (4, .int (nI k))] → W p l e rm_X1_placeB s m args below meth c H locs 0 0 Q (F0 m 44 ls []) := by
    intro fu
    induction fu with
    | zero => intro k F1 hk h8 hfr hn_; exact absurd hn_ (Nat.not_lt_zero _)
    | succ fu ih44 =>
      intro k F1 hk h8 hfr hn_ H locs ls hP hD hS hl
      refine lv_iload hx hb dX1_place_44 (lv_at hl 4 rfl) ?_
      refine lv_iload_n hx hb dX1_place_46 rfl (lv_at hl 3 rfl) ?_
      refine lv_icmp_ge (tgt := 97) hx hb dX1_place_47 (by decide) (fun c_8 => ?_) (fun c_8 => ?_)
      · have c_8 : n ≤ k := (nI_leI (a := n) (b := k) (by omega) (by omega)).mp c_8
        refine lv_iload_n hx hb dX1_place_97 rfl (lv_at hl 3 rfl) ?_
        exact hret (nI n) F1 H locs 98 ls rfl dX1_place_98 (by
                    have q6 : F1 6 = upd (F 6) n (nI k0) := by rw [hfr 6 (by decide), eF_5, eF_3, eF_2]; show upd (F 6) (nI n).toNatClampNeg (nI k0) = _; rw [nI_clamp (by omega)]
                    have q7 : F1 7 = upd (F 7) n (nI k1) := by rw [hfr 7 (by decide), eF_5, eF_3, eF_2]; show upd (F 7) (nI n).toNatClampNeg (nI k1) = _; rw [nI_clamp (by omega)]
                    have q5 : F1 5 = upd (F 5) k1 (F 5 k1 ||| ((1 : Int32) <<< (nI k0 &&& 31))) := by rw [hfr 5 (by decide), eF_5, eF_3, eF_2]; show upd (F 5) (nI k1).toNatClampNeg _ = _; rw [nI_clamp (by omega)]; rw [ex_4, eF_3, eF_2]; rfl
                    have q8 : F1 8 = plB (F1 6) (F1 7) n (F 8) n := by
                      obtain rfl : k = n := by omega
                      have y8 : F_5 8 = F 8 := by rw [eF_5, eF_3, eF_2]; rfl
                      rw [← y8, hfr 6 (by decide), hfr 7 (by decide)]; exact h8
                    refine ⟨rfl, fun j hj => ?_, q6, q7, q5, q8⟩
                    have h5 : j ≠ 5 := fun q => hj (q ▸ (by decide : 5 ∈ ([5, 6, 7, 8] : List Nat)))
                    have h6 : j ≠ 6 := fun q => hj (q ▸ (by decide : 6 ∈ ([5, 6, 7, 8] : List Nat)))
                    have h7 : j ≠ 7 := fun q => hj (q ▸ (by decide : 7 ∈ ([5, 6, 7, 8] : List Nat)))
                    have h8 : j ∉ ([8] : List Nat) := fun q => hj ((by decide : ∀ x ∈ ([8] : List Nat), x ∈ ([5, 6, 7, 8] : List Nat)) j q)
                    exact (hfr j h8).trans ((va_ne eF_5 h5).trans ((va_ne eF_3 h7).trans (va_ne eF_2 h6)))) (hP) (hD) hS
      · have c_8 : ¬ n ≤ k := fun h => c_8 ((nI_leI (a := n) (b := k) (by omega) (by omega)).mpr h)
        refine lv_aload_n hx hb dX1_place_50 rfl (lv_at hl 0 rfl) ?_
        refine lv_iload hx hb dX1_place_51 (lv_at hl 4 rfl) ?_
        refine lv_iload_n hx hb dX1_place_53 rfl (lv_at hl 3 rfl) ?_
        refine cw_Vi (As := [.int (nI k), .int (nI n)]) (rest := []) (c_X1_isBetween l dC dI cI cZ cJ h F1 (va_up V 1 (nI (n + 1))) k n (by omega) (by omega)) fx (cwV 2 hts gX1_place_X1_isBetween rfl rfl rfl (by decide +kernel) ⟨Nat.le_of_ble_eq_true rfl, Nat.le_of_ble_eq_true rfl⟩) hK hP hD hS hA 1 rfl rfl rfl rfl hl.1 rfl (Nat.le_of_ble_eq_true rfl) dX1_place_54 ⟨Nat.le_of_ble_eq_true rfl, Nat.le_of_ble_eq_true rfl⟩ (fun r_9 u_10 H locs hw_11 hP hD hS => ?_)
        have hP : va_P (dC, dI) vwCl (wC cI cZ h F1 (va_up V 1 (nI (n + 1)))) H := hP
        have hD : va_D A (wC cI cZ h F1 (va_up V 1 (nI (n + 1)))) := hD
        have hw_11 : r_9 = bI (btw (F1 6 k) (F1 7 k) (F1 6 n) (F1 7 n)) := hw_11
        refine lv_if_eq (tgt := 70) hx hb dX1_place_57 (by decide) (fun c_12 => ?_) (fun c_12 => ?_)
        · have c_12 : btw (F1 6 k) (F1 7 k) (F1 6 n) (F1 7 n) = false := bI_f hw_11 c_12
          have z6 : F1 6 = F_5 6 := hfr 6 (by decide)
          have z7 : F1 7 = F_5 7 := hfr 7 (by decide)
          have s1 : F1 8 = plB1 (F_5 6) (F_5 7) n (F1 8) k := by
            unfold plB1
            rw [if_neg (by rw [← z6, ← z7, c_12]; decide)]
          have m6 : F1 6 = F_5 6 := z6
          have m7 : F1 7 = F_5 7 := z7
          refine lv_aload_n hx hb dX1_place_70 rfl (lv_at hl 0 rfl) ?_
          refine lv_iload_n hx hb dX1_place_71 rfl (lv_at hl 3 rfl) ?_
          refine lv_iload hx hb dX1_place_72 (lv_at hl 4 rfl) ?_
          refine cw_Vi (As := [.int (nI n), .int (nI k)]) (rest := []) (c_X1_isBetween l dC dI cI cZ cJ h F1 (va_up V 1 (nI (n + 1))) n k (by omega) (by omega)) fx (cwV 2 hts gX1_place_X1_isBetween rfl rfl rfl (by decide +kernel) ⟨Nat.le_of_ble_eq_true rfl, Nat.le_of_ble_eq_true rfl⟩) hK hP hD hS hA 1 rfl rfl rfl rfl hl.1 rfl (Nat.le_of_ble_eq_true rfl) dX1_place_74 ⟨Nat.le_of_ble_eq_true rfl, Nat.le_of_ble_eq_true rfl⟩ (fun r_13 u_14 H locs hw_15 hP hD hS => ?_)
          have hP : va_P (dC, dI) vwCl (wC cI cZ h F1 (va_up V 1 (nI (n + 1)))) H := hP
          have hD : va_D A (wC cI cZ h F1 (va_up V 1 (nI (n + 1)))) := hD
          have hw_15 : r_13 = bI (btw (F1 6 n) (F1 7 n) (F1 6 k) (F1 7 k)) := hw_15
          refine lv_if_eq (tgt := 91) hx hb dX1_place_77 (by decide) (fun c_16 => ?_) (fun c_16 => ?_)
          · have c_16 : btw (F1 6 n) (F1 7 n) (F1 6 k) (F1 7 k) = false := bI_f hw_15 c_16
            have s2 : F1 8 = plB2 (F_5 6) (F_5 7) n (F1 8) k := by
              unfold plB2
              rw [if_neg (by rw [← m6, ← m7, c_16]; decide)]
            refine lv_iinc (v := nI (k + 1)) (lv' := [(4, .int (nI (k + 1))), (0, .ref (h 1)), (1, .int (nI k0)), (2, .int (nI k1)), (3, .int (nI n))]) hx hb dX1_place_91 hl (k := 4) rfl (nI_1 _) (by decide) rfl (fun ls hl => ?_)
            refine lv_goto (tgt := 44) hx hb dX1_place_94 (by decide) ?_
            have hb_17 : F1 8 = plB (F_5 6) (F_5 7) n (F_5 8) (k + 1) := by rw [plB, ← h8, ← s1]; exact s2
            exact ih44 (k + 1) F1 (by omega) hb_17 (fun j hj => (hfr j hj)) (by omega) H locs ls hP hD hS (lv_sub hl [1, 2, 3, 4, 0] rfl)
          · have c_16 : btw (F1 6 n) (F1 7 n) (F1 6 k) (F1 7 k) = true := bI_t hw_15 c_16
            refine lv_aload_n hx hb dX1_place_80 rfl (lv_at hl 0 rfl) ?_
            refine va_get (D := (dC, dI)) (ci := 1) (v := .ref (h 8)) (C := RX1) (T := TX1) (N := 11) hx hb hts hin_X1 hown hK hP 1 rfl rfl 3 (by decide) hw5 (fun _ h9 => h9) rfl dX1_place_81 ?_
            refine lv_iload hx hb dX1_place_84 (lv_at hl 4 rfl) ?_
            refine lv_dup2_11 hx hb dX1_place_86 rfl rfl ?_
            refine va_iald hx hb hK hP 8 0 rfl rfl (vp_in_nI (n := k) (N := 40) (by omega) (by decide)) dX1_place_87 ?_
            refine lv_topi (fun x_18 ex_18 => ?_)
            rw [nI_clamp (n := k) (by omega)] at ex_18
            refine lv_iconst (v := 1) hx hb dX1_place_88 (by decide) ?_
            refine lv_iadd hx hb dX1_place_89 ?_
            refine va_iast hx hb hK hP hD hS 8 0 rfl rfl (vp_in_nI (n := k) (N := 40) (by omega) (by decide)) dX1_place_90 (fun H locs hP hD hS => ?_)
            obtain ⟨F_19, eF_19⟩ : ∃ z : Nat → Nat → Int32, z = va_up F1 8 (upd (F1 8) (nI k).toNatClampNeg (x_18 + 1)) := ⟨_, rfl⟩
            have hP : va_P (dC, dI) vwCl (wC cI cZ h F_19 (va_up V 1 (nI (n + 1)))) H := by rw [eF_19]; exact hP
            have hD : va_D A (wC cI cZ h F_19 (va_up V 1 (nI (n + 1)))) := by rw [eF_19]; exact hD
            have s2 : F_19 8 = plB2 (F_5 6) (F_5 7) n (F1 8) k := by
              unfold plB2
              rw [if_pos (by rw [← m6, ← m7]; exact c_16), eF_19]
              show upd (F1 8) (nI k).toNatClampNeg _ = _
              rw [nI_clamp (by omega), ex_18]
            refine lv_iinc (v := nI (k + 1)) (lv' := [(4, .int (nI (k + 1))), (0, .ref (h 1)), (1, .int (nI k0)), (2, .int (nI k1)), (3, .int (nI n))]) hx hb dX1_place_91 hl (k := 4) rfl (nI_1 _) (by decide) rfl (fun ls hl => ?_)
            refine lv_goto (tgt := 44) hx hb dX1_place_94 (by decide) ?_
            have hb_20 : F_19 8 = plB (F_5 6) (F_5 7) n (F_5 8) (k + 1) := by rw [plB, ← h8, ← s1]; exact s2
            exact ih44 (k + 1) F_19 (by omega) hb_20 (fun j hj => ((va_ne eF_19 (fun h => hj (by rw [h]; decide))).trans (hfr j hj))) (by omega) H locs ls hP hD hS (lv_sub hl [1, 2, 3, 4, 0] rfl)
        · have c_12 : btw (F1 6 k) (F1 7 k) (F1 6 n) (F1 7 n) = true := bI_t hw_11 c_12
          refine lv_aload_n hx hb dX1_place_60 rfl (lv_at hl 0 rfl) ?_
          refine va_get (D := (dC, dI)) (ci := 1) (v := .ref (h 8)) (C := RX1) (T := TX1) (N := 11) hx hb hts hin_X1 hown hK hP 1 rfl rfl 3 (by decide) hw5 (fun _ h9 => h9) rfl dX1_place_61 ?_
          refine lv_iload_n hx hb dX1_place_64 rfl (lv_at hl 3 rfl) ?_
          refine lv_dup2_11 hx hb dX1_place_65 rfl rfl ?_
          refine va_iald hx hb hK hP 8 0 rfl rfl (vp_in_nI (n := n) (N := 40) (by omega) (by decide)) dX1_place_66 ?_
          refine lv_topi (fun x_21 ex_21 => ?_)
          rw [nI_clamp (n := n) (by omega)] at ex_21
          refine lv_iconst (v := 1) hx hb dX1_place_67 (by decide) ?_
          refine lv_iadd hx hb dX1_place_68 ?_
          refine va_iast hx hb hK hP hD hS 8 0 rfl rfl (vp_in_nI (n := n) (N := 40) (by omega) (by decide)) dX1_place_69 (fun H locs hP hD hS => ?_)
          obtain ⟨F_22, eF_22⟩ : ∃ z : Nat → Nat → Int32, z = va_up F1 8 (upd (F1 8) (nI n).toNatClampNeg (x_21 + 1)) := ⟨_, rfl⟩
          have hP : va_P (dC, dI) vwCl (wC cI cZ h F_22 (va_up V 1 (nI (n + 1)))) H := by rw [eF_22]; exact hP
          have hD : va_D A (wC cI cZ h F_22 (va_up V 1 (nI (n + 1)))) := by rw [eF_22]; exact hD
          have z6 : F1 6 = F_5 6 := hfr 6 (by decide)
          have z7 : F1 7 = F_5 7 := hfr 7 (by decide)
          have s1 : F_22 8 = plB1 (F_5 6) (F_5 7) n (F1 8) k := by
            unfold plB1
            rw [if_pos (by rw [← z6, ← z7]; exact c_12), eF_22]
            show upd (F1 8) (nI n).toNatClampNeg _ = _
            rw [nI_clamp (by omega), ex_21]
          have m6 : F_22 6 = F_5 6 := by rw [eF_22]; exact z6
          have m7 : F_22 7 = F_5 7 := by rw [eF_22]; exact z7
          refine lv_aload_n hx hb dX1_place_70 rfl (lv_at hl 0 rfl) ?_
          refine lv_iload_n hx hb dX1_place_71 rfl (lv_at hl 3 rfl) ?_
          refine lv_iload hx hb dX1_place_72 (lv_at hl 4 rfl) ?_
          refine cw_Vi (As := [.int (nI n), .int (nI k)]) (rest := []) (c_X1_isBetween l dC dI cI cZ cJ h F_22 (va_up V 1 (nI (n + 1))) n k (by omega) (by omega)) fx (cwV 2 hts gX1_place_X1_isBetween rfl rfl rfl (by decide +kernel) ⟨Nat.le_of_ble_eq_true rfl, Nat.le_of_ble_eq_true rfl⟩) hK hP hD hS hA 1 rfl rfl rfl rfl hl.1 rfl (Nat.le_of_ble_eq_true rfl) dX1_place_74 ⟨Nat.le_of_ble_eq_true rfl, Nat.le_of_ble_eq_true rfl⟩ (fun r_23 u_24 H locs hw_25 hP hD hS => ?_)
          have hP : va_P (dC, dI) vwCl (wC cI cZ h F_22 (va_up V 1 (nI (n + 1)))) H := hP
          have hD : va_D A (wC cI cZ h F_22 (va_up V 1 (nI (n + 1)))) := hD
          have hw_25 : r_23 = bI (btw (F_22 6 n) (F_22 7 n) (F_22 6 k) (F_22 7 k)) := hw_25
          refine lv_if_eq (tgt := 91) hx hb dX1_place_77 (by decide) (fun c_26 => ?_) (fun c_26 => ?_)
          · have c_26 : btw (F_22 6 n) (F_22 7 n) (F_22 6 k) (F_22 7 k) = false := bI_f hw_25 c_26
            have s2 : F_22 8 = plB2 (F_5 6) (F_5 7) n (F_22 8) k := by
              unfold plB2
              rw [if_neg (by rw [← m6, ← m7, c_26]; decide)]
            refine lv_iinc (v := nI (k + 1)) (lv' := [(4, .int (nI (k + 1))), (0, .ref (h 1)), (1, .int (nI k0)), (2, .int (nI k1)), (3, .int (nI n))]) hx hb dX1_place_91 hl (k := 4) rfl (nI_1 _) (by decide) rfl (fun ls hl => ?_)
            refine lv_goto (tgt := 44) hx hb dX1_place_94 (by decide) ?_
            have hb_27 : F_22 8 = plB (F_5 6) (F_5 7) n (F_5 8) (k + 1) := by rw [plB, ← h8, ← s1]; exact s2
            exact ih44 (k + 1) F_22 (by omega) hb_27 (fun j hj => ((va_ne eF_22 (fun h => hj (by rw [h]; decide))).trans (hfr j hj))) (by omega) H locs ls hP hD hS (lv_sub hl [1, 2, 3, 4, 0] rfl)
          · have c_26 : btw (F_22 6 n) (F_22 7 n) (F_22 6 k) (F_22 7 k) = true := bI_t hw_25 c_26
            refine lv_aload_n hx hb dX1_place_80 rfl (lv_at hl 0 rfl) ?_
            refine va_get (D := (dC, dI)) (ci := 1) (v := .ref (h 8)) (C := RX1) (T := TX1) (N := 11) hx hb hts hin_X1 hown hK hP 1 rfl rfl 3 (by decide) hw5 (fun _ h9 => h9) rfl dX1_place_81 ?_
            refine lv_iload hx hb dX1_place_84 (lv_at hl 4 rfl) ?_
            refine lv_dup2_11 hx hb dX1_place_86 rfl rfl ?_
            refine va_iald hx hb hK hP 8 0 rfl rfl (vp_in_nI (n := k) (N := 40) (by omega) (by decide)) dX1_place_87 ?_
            refine lv_topi (fun x_28 ex_28 => ?_)
            rw [nI_clamp (n := k) (by omega)] at ex_28
            refine lv_iconst (v := 1) hx hb dX1_place_88 (by decide) ?_
            refine lv_iadd hx hb dX1_place_89 ?_
            refine va_iast hx hb hK hP hD hS 8 0 rfl rfl (vp_in_nI (n := k) (N := 40) (by omega) (by decide)) dX1_place_90 (fun H locs hP hD hS => ?_)
            obtain ⟨F_29, eF_29⟩ : ∃ z : Nat → Nat → Int32, z = va_up F_22 8 (upd (F_22 8) (nI k).toNatClampNeg (x_28 + 1)) := ⟨_, rfl⟩
            have hP : va_P (dC, dI) vwCl (wC cI cZ h F_29 (va_up V 1 (nI (n + 1)))) H := by rw [eF_29]; exact hP
            have hD : va_D A (wC cI cZ h F_29 (va_up V 1 (nI (n + 1)))) := by rw [eF_29]; exact hD
            have s2 : F_29 8 = plB2 (F_5 6) (F_5 7) n (F_22 8) k := by
              unfold plB2
              rw [if_pos (by rw [← m6, ← m7]; exact c_26), eF_29]
              show upd (F_22 8) (nI k).toNatClampNeg _ = _
              rw [nI_clamp (by omega), ex_28]
            refine lv_iinc (v := nI (k + 1)) (lv' := [(4, .int (nI (k + 1))), (0, .ref (h 1)), (1, .int (nI k0)), (2, .int (nI k1)), (3, .int (nI n))]) hx hb dX1_place_91 hl (k := 4) rfl (nI_1 _) (by decide) rfl (fun ls hl => ?_)
            refine lv_goto (tgt := 44) hx hb dX1_place_94 (by decide) ?_
            have hb_30 : F_29 8 = plB (F_5 6) (F_5 7) n (F_5 8) (k + 1) := by rw [plB, ← h8, ← s1]; exact s2
            exact ih44 (k + 1) F_29 (by omega) hb_30 (fun j hj => ((va_ne eF_29 (fun h => hj (by rw [h]; decide))).trans ((va_ne eF_22 (fun h => hj (by rw [h]; decide))).trans (hfr j hj)))) (by omega) H locs ls hP hD hS (lv_sub hl [1, 2, 3, 4, 0] rfl)
  exact loop44 _ 0 F_5 (by omega) rfl (fun _ _ => rfl) (Nat.lt_succ_self _) H locs ls hP hD hS (lv_sub hl [2, 3, 4, 1, 0] rfl)
