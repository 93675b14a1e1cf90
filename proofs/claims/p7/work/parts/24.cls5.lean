def rm_X2_size : Room := { frames := 0, cells := 0, slots := 0, locals := 0 }
set_option maxHeartbeats 4000000 in
set_option maxRecDepth 100000 in
theorem c_X2_size (l : Launch) (dC : Nat → ClassId) (dI : Nat → Nat → Nat) (cI cZ cJ : ClassId) (h : Nat → Nat) (F : Nat → Nat → Int32) (V : Nat → Int32)     : CtI l (dC, dI) vwCl (tys3 cI cZ cJ) yX2_size wsX2_size rm_X2_size [.ref (h 4)] (wC cI cZ h F V) (S := Unit) (fun r _ => r = V 11) (fun _ => wC cI cZ h F V) 0 0 := by
  refine ct_I (cc := cX2_size) (maxL := 1) (ty := .int) (own := RX2) (by decide) rfl rfl (Nat.le_of_ble_eq_true rfl) (lv := [(0, .ref (h 4))]) rfl ?_
  intro p e s m args below meth c A Q ls fx hK hP hD hA hl hret
  obtain ⟨hx, hb, hml, hown, hts⟩ := id fx
  have hS : va_S A s.heap s.heap [] := va_S.rf
  have hw0 := hts (.fieldLink RX2 18 "MirrorTower$Shots" "size" "I") (by decide +kernel)
  have hin_X2 : ∀ w ∈ u_ws RX2 TX2 5, w ∈ wsX2_size := by decide +kernel
  obtain ⟨H, hH⟩ : ∃ H, H = s.heap := ⟨_, rfl⟩
  rw [← hH] at hP ⊢
  have hS : va_S A s.heap H [] := by rw [hH]; exact hS
  generalize ([] : List Loc) = locs at hS ⊢
  refine lv_aload_n hx hb dX2_size_0 rfl (lv_at hl 0 rfl) ?_
  refine va_get (D := (dC, dI)) (ci := 2) (v := .int (V 11)) (C := RX2) (T := TX2) (N := 5) hx hb hts hin_X2 hown hK hP 4 rfl rfl 2 (by decide) hw0 (fun _ h9 => h9) rfl dX2_size_1 ?_
  exact hret (V 11) () H locs 4 ls rfl dX2_size_4 (by first | rfl | (simp []; done) | (exfalso; omega)) (hP) (hD) hS
def rm_X2_drop : Room := { frames := 1, cells := 0, slots := 0, locals := 23 }
set_option maxHeartbeats 4000000 in
set_option maxRecDepth 100000 in
theorem c_X2_drop (l : Launch) (dC : Nat → ClassId) (dI : Nat → Nat → Nat) (cI cZ cJ : ClassId) (h : Nat → Nat) (F : Nat → Nat → Int32) (V : Nat → Int32) (sh : Nat) (hV11 : V 11 = nI sh) (bV11 : sh ≤ 12)    : CtI l (dC, dI) vwCl (tys3 cI cZ cJ) yX2_drop wsX2_drop rm_X2_drop [.ref (h 4)] (wC cI cZ h F V) (S := Nat → Nat → Int32) (fun r u => (r = nI sh) ∧ (∀ j, j ∉ ([29] : List Nat) → u j = F j) ∧ (∀ i, i < 40 → u 29 i = 0)) (fun u => wC cI cZ h u (va_up (va_up V 10 0) 11 0)) 0 0 := by
  refine ct_I (cc := cX2_drop) (maxL := 2) (ty := .int) (own := RX2) (by decide) rfl rfl (Nat.le_of_ble_eq_true rfl) (lv := [(0, .ref (h 4))]) rfl ?_
  intro p e s m args below meth c A Q ls fx hK hP hD hA hl hret
  obtain ⟨hx, hb, hml, hown, hts⟩ := id fx
  have hS : va_S A s.heap s.heap [] := va_S.rf
  have hw0 := hts (.fieldLink RX2 18 "MirrorTower$Shots" "size" "I") (by decide +kernel)
  have hin_X2 : ∀ w ∈ u_ws RX2 TX2 5, w ∈ wsX2_drop := by decide +kernel
  have hw2 := hts (.fieldLink RX2 9 "MirrorTower$Shots" "marks" "[I") (by decide +kernel)
  have hw3 := hts (.fieldLink RX2 22 "MirrorTower$Shots" "missing" "I") (by decide +kernel)
  obtain ⟨H, hH⟩ : ∃ H, H = s.heap := ⟨_, rfl⟩
  rw [← hH] at hP ⊢
  have hS : va_S A s.heap H [] := by rw [hH]; exact hS
  generalize ([] : List Loc) = locs at hS ⊢
  refine lv_aload_n hx hb dX2_drop_0 rfl (lv_at hl 0 rfl) ?_
  refine va_get (D := (dC, dI)) (ci := 2) (v := .int (V 11)) (C := RX2) (T := TX2) (N := 5) hx hb hts hin_X2 hown hK hP 4 rfl rfl 2 (by decide) hw0 (fun _ h9 => h9) rfl dX2_drop_1 ?_
  refine lv_topi (fun x_1 ex_1 => ?_)
  obtain rfl : x_1 = nI sh := ex_1.trans (hV11)
  refine lv_istore_n (lv' := [(1, .int (nI sh)), (0, .ref (h 4))]) hx hb dX2_drop_4 rfl hl (by decide) rfl (fun ls hl => ?_)
  refine lv_aload_n hx hb dX2_drop_5 rfl (lv_at hl 1 rfl) ?_
  refine va_get (D := (dC, dI)) (ci := 2) (v := .ref (h 29)) (C := RX2) (T := TX2) (N := 5) hx hb hts hin_X2 hown hK hP 4 rfl rfl 0 (by decide) hw2 (fun _ h9 => h9) rfl dX2_drop_6 ?_
  refine lv_iconst (v := 0) hx hb dX2_drop_9 (by decide) ?_
  refine cl_Sv (As := [.ref (h 29), .int 0]) (rest := []) (wr := (wC cI cZ h F V).eraseIdx 29) (c_J7_fill l dC dI cI cZ cJ (h 29) 40 (F 29) 0 (by decide)) fx (va_cwS 2 hts gX2_drop_J7_fill_53178 rfl rfl rfl (by decide +kernel) ⟨Nat.le_of_ble_eq_true rfl, Nat.le_of_ble_eq_true rfl⟩) hK hP hD hS hA [29] [0, 1, 2, 3, 4, 5, 6, 7, 8, 9, 10, 11, 12, 13, 14, 15, 16, 17, 18, 19, 20, 21, 22, 23, 24, 25, 26, 27, 28, 30] rfl rfl (by decide) (by decide) (by decide) rfl hl.1 rfl (Nat.le_of_ble_eq_true rfl) dX2_drop_10 ⟨Nat.le_of_ble_eq_true rfl, Nat.le_of_ble_eq_true rfl⟩ (fun u_2 H locs hw_3 hP hD hS => ?_)
  have hw_3 : ∀ i, i < 40 → u_2 i = 0 := hw_3
  obtain ⟨F_4, eF_4⟩ : ∃ z : Nat → Nat → Int32, z = va_up F 29 u_2 := ⟨_, rfl⟩
  have hP : va_P (dC, dI) vwCl (wC cI cZ h F_4 V) H := by rw [eF_4]; exact hP.sub [0, 1, 2, 3, 4, 5, 6, 7, 8, 9, 10, 11, 12, 13, 14, 15, 16, 17, 18, 19, 20, 21, 22, 23, 24, 25, 26, 27, 28, 30, 29] rfl
  have hD : va_D A (wC cI cZ h F_4 V) := by rw [eF_4]; exact hD.sub [0, 1, 2, 3, 4, 5, 6, 7, 8, 9, 10, 11, 12, 13, 14, 15, 16, 17, 18, 19, 20, 21, 22, 23, 24, 25, 26, 27, 28, 30, 29] (by decide) rfl
  have hF_5 : ∀ i, i < 40 → F_4 29 i = 0 := by rw [eF_4]; exact hw_3
  refine lv_aload_n hx hb dX2_drop_13 rfl (lv_at hl 1 rfl) ?_
  refine lv_iconst (v := 0) hx hb dX2_drop_14 (by decide) ?_
  refine va_put (D := (dC, dI)) (ci := 2) (v := .int 0) (ty := .int) (C := RX2) (T := TX2) (N := 5) hx hb hts hin_X2 tyX2 tyX2_ok nmX2 hown hK hP hD hS 4 rfl rfl 1 (by decide) hw3 (fun _ h9 => h9) rfl (by decide +kernel) rfl rfl (Nat.le_of_ble_eq_true rfl) dX2_drop_15 (fun H locs hP hD hS => ?_)
  have hP : va_P (dC, dI) vwCl (wC cI cZ h F_4 (va_up V 10 0)) H := hP
  have hD : va_D A (wC cI cZ h F_4 (va_up V 10 0)) := hD
  refine lv_aload_n hx hb dX2_drop_18 rfl (lv_at hl 1 rfl) ?_
  refine lv_iconst (v := 0) hx hb dX2_drop_19 (by decide) ?_
  refine va_put (D := (dC, dI)) (ci := 2) (v := .int 0) (ty := .int) (C := RX2) (T := TX2) (N := 5) hx hb hts hin_X2 tyX2 tyX2_ok nmX2 hown hK hP hD hS 4 rfl rfl 2 (by decide) hw0 (fun _ h9 => h9) rfl (by decide +kernel) rfl rfl (Nat.le_of_ble_eq_true rfl) dX2_drop_20 (fun H locs hP hD hS => ?_)
  have hP : va_P (dC, dI) vwCl (wC cI cZ h F_4 (va_up (va_up V 10 0) 11 0)) H := hP
  have hD : va_D A (wC cI cZ h F_4 (va_up (va_up V 10 0) 11 0)) := hD
  refine lv_iload_n hx hb dX2_drop_23 rfl (lv_at hl 0 rfl) ?_
  exact hret (nI sh) F_4 H locs 24 ls rfl dX2_drop_24 (⟨rfl, fun j hj => va_ne eF_4 (fun h => hj (by rw [h]; decide)), hF_5⟩) (hP) (hD) hS
def rm_X2_tally : Room := { frames := 1, cells := 0, slots := 0, locals := 23 }
set_option maxHeartbeats 4000000 in
set_option maxRecDepth 100000 in
theorem c_X2_tally (l : Launch) (dC : Nat → ClassId) (dI : Nat → Nat → Nat) (cI cZ cJ : ClassId) (h : Nat → Nat) (F : Nat → Nat → Int32) (V : Nat → Int32)  (n0 : Nat) (hn0 : n0 ≤ 40)   : CtV l (dC, dI) vwCl (tys3 cI cZ cJ) yX2_tally wsX2_tally rm_X2_tally [.ref (h 4), .int (nI n0)] (wC cI cZ h F V) (S := (Nat → Nat → Int32) × (Nat → Int32)) (fun u => (∀ j, j ∉ ([30] : List Nat) → u.1 j = F j) ∧ ∀ j, j ≠ 12 → u.2 j = V j) (fun u => wC cI cZ h u.1 u.2) 0 0 := by
  refine ct_V (cc := cX2_tally) (maxL := 4) (own := RX2) (by decide) rfl rfl (Nat.le_of_ble_eq_true rfl) (lv := [(0, .ref (h 4)), (1, .int (nI n0))]) rfl ?_
  intro p e s m args below meth c A Q ls hnm fx hK hP hD hA hl hret
  obtain ⟨hx, hb, hml, hown, hts⟩ := id fx
  have hS : va_S A s.heap s.heap [] := va_S.rf
  have hw0 := hts (.fieldLink RX2 15 "MirrorTower$Shots" "setsWith" "[I") (by decide +kernel)
  have hin_X2 : ∀ w ∈ u_ws RX2 TX2 5, w ∈ wsX2_tally := by decide +kernel
  have hw2 := hts (.fieldLink RX2 22 "MirrorTower$Shots" "missing" "I") (by decide +kernel)
  have hw3 := hts (.fieldLink RX2 47 "MirrorTower$Shots" "sets" "I") (by decide +kernel)
  have hw4 := hts (.fieldLink RX2 9 "MirrorTower$Shots" "marks" "[I") (by decide +kernel)
  obtain ⟨H, hH⟩ : ∃ H, H = s.heap := ⟨_, rfl⟩
  rw [← hH] at hP ⊢
  have hS : va_S A s.heap H [] := by rw [hH]; exact hS
  generalize ([] : List Loc) = locs at hS ⊢
  refine lv_aload_n hx hb dX2_tally_0 rfl (lv_at hl 0 rfl) ?_
  refine va_get (D := (dC, dI)) (ci := 2) (v := .ref (h 30)) (C := RX2) (T := TX2) (N := 5) hx hb hts hin_X2 hown hK hP 4 rfl rfl 4 (by decide) hw0 (fun _ h9 => h9) rfl dX2_tally_1 ?_
  refine lv_iconst (v := 0) hx hb dX2_tally_4 (by decide) ?_
  refine cl_Sv (As := [.ref (h 30), .int 0]) (rest := []) (wr := (wC cI cZ h F V).eraseIdx 30) (c_J7_fill l dC dI cI cZ cJ (h 30) 40 (F 30) 0 (by decide)) fx (va_cwS 2 hts gX2_tally_J7_fill_53178 rfl rfl rfl (by decide +kernel) ⟨Nat.le_of_ble_eq_true rfl, Nat.le_of_ble_eq_true rfl⟩) hK hP hD hS hA [30] [0, 1, 2, 3, 4, 5, 6, 7, 8, 9, 10, 11, 12, 13, 14, 15, 16, 17, 18, 19, 20, 21, 22, 23, 24, 25, 26, 27, 28, 29] rfl rfl (by decide) (by decide) (by decide) rfl hl.1 rfl (Nat.le_of_ble_eq_true rfl) dX2_tally_5 ⟨Nat.le_of_ble_eq_true rfl, Nat.le_of_ble_eq_true rfl⟩ (fun u_1 H locs hw_2 hP hD hS => ?_)
  have hw_2 : ∀ i, i < 40 → u_1 i = 0 := hw_2
  obtain ⟨F_3, eF_3⟩ : ∃ z : Nat → Nat → Int32, z = va_up F 30 u_1 := ⟨_, rfl⟩
  have hP : va_P (dC, dI) vwCl (wC cI cZ h F_3 V) H := by rw [eF_3]; exact hP.sub [0, 1, 2, 3, 4, 5, 6, 7, 8, 9, 10, 11, 12, 13, 14, 15, 16, 17, 18, 19, 20, 21, 22, 23, 24, 25, 26, 27, 28, 29, 30] rfl
  have hD : va_D A (wC cI cZ h F_3 V) := by rw [eF_3]; exact hD.sub [0, 1, 2, 3, 4, 5, 6, 7, 8, 9, 10, 11, 12, 13, 14, 15, 16, 17, 18, 19, 20, 21, 22, 23, 24, 25, 26, 27, 28, 29, 30] (by decide) rfl
  have hF_4 : ∀ i, i < 40 → F_3 30 i = 0 := by rw [eF_3]; exact hw_2
  refine lv_aload_n hx hb dX2_tally_8 rfl (lv_at hl 0 rfl) ?_
  refine lv_aload_n hx hb dX2_tally_9 rfl (lv_at hl 0 rfl) ?_
  refine va_get (D := (dC, dI)) (ci := 2) (v := .int (V 10)) (C := RX2) (T := TX2) (N := 5) hx hb hts hin_X2 hown hK hP 4 rfl rfl 1 (by decide) hw2 (fun _ h9 => h9) rfl dX2_tally_10 ?_
  refine lv_if_ne (tgt := 20) hx hb dX2_tally_13 (by decide) (fun c_5 => ?_) (fun c_5 => ?_)
  · have c_5 : eqI (V 10) 0 = false := decide_eq_false c_5
    refine lv_iconst (v := 0) hx hb dX2_tally_20 (by decide) ?_
    refine va_put (D := (dC, dI)) (ci := 2) (v := .int 0) (ty := .int) (C := RX2) (T := TX2) (N := 5) hx hb hts hin_X2 tyX2 tyX2_ok nmX2 hown hK hP hD hS 4 rfl rfl 3 (by decide) hw3 (fun _ h9 => h9) rfl (by decide +kernel) rfl rfl (Nat.le_of_ble_eq_true rfl) dX2_tally_21 (fun H locs hP hD hS => ?_)
    have hP : va_P (dC, dI) vwCl (wC cI cZ h F_3 (va_up V 12 0)) H := hP
    have hD : va_D A (wC cI cZ h F_3 (va_up V 12 0)) := hD
    refine lv_iconst (v := 0) hx hb dX2_tally_24 (by decide) ?_
    refine lv_istore_n (lv' := [(2, .int 0), (0, .ref (h 4)), (1, .int (nI n0))]) hx hb dX2_tally_25 rfl hl (by decide) rfl (fun ls hl => ?_)
    have loop26 : ∀ (fu : Nat) (k : Nat) (F1 : Nat → Nat → Int32) (V1 : Nat → Int32), (k ≤ n0) → (∀ j, j ∉ ([30] : List Nat) → F1 j = F j) → (∀ j, j ≠ 12 → V1 j = V j) → (n0 - k) < fu → ∀ (H : Heap) (locs : List Loc) (ls : Array Slot), va_P (dC, dI) vwCl (wC cI cZ h F1 V1) H → va_D A (wC cI cZ h F1 V1) → va_S A s.heap H locs → lv_has ls 4 [(0, .ref (h 4)), (1, .int (nI n0)), (2, .int (nI k))] → W p l e rm_X2_tally s m args below meth c H locs 0 0 Q (F0 m 26 ls []) := by
      intro fu
      induction fu with
      | zero => intro k F1 V1 hk hfr hvr hn_; exact absurd hn_ (Nat.not_lt_zero _)
      | succ fu ih26 =>
        intro k F1 V1 hk hfr hvr hn_ H locs ls hP hD hS hl
        refine lv_iload_n hx hb dX2_tally_26 rfl (lv_at hl 2 rfl) ?_
        refine lv_iload_n hx hb dX2_tally_27 rfl (lv_at hl 1 rfl) ?_
        refine lv_icmp_ge (tgt := 133) hx hb dX2_tally_28 (by decide) (fun c_6 => ?_) (fun c_6 => ?_)
        · have c_6 : n0 ≤ k := (nI_leI (a := n0) (b := k) (by omega) (by omega)).mp c_6
          exact hret (F1, V1) H locs 133 ls dX2_tally_133 (⟨hfr, hvr⟩) (hP) (hD) hS
        · have c_6 : ¬ n0 ≤ k := fun h => c_6 ((nI_leI (a := n0) (b := k) (by omega) (by omega)).mpr h)
          refine lv_aload_n hx hb dX2_tally_31 rfl (lv_at hl 0 rfl) ?_
          refine va_get (D := (dC, dI)) (ci := 2) (v := .ref (h 29)) (C := RX2) (T := TX2) (N := 5) hx hb hts hin_X2 hown hK hP 4 rfl rfl 0 (by decide) hw4 (fun _ h9 => h9) rfl dX2_tally_32 ?_
          refine lv_iload_n hx hb dX2_tally_35 rfl (lv_at hl 2 rfl) ?_
          refine va_iald hx hb hK hP 29 0 rfl rfl (vp_in_nI (n := k) (N := 40) (by omega) (by decide)) dX2_tally_36 ?_
          refine lv_topi (fun x_7 ex_7 => ?_)
          rw [nI_clamp (n := k) (by omega)] at ex_7
          refine lv_aload_n hx hb dX2_tally_37 rfl (lv_at hl 0 rfl) ?_
          refine va_get (D := (dC, dI)) (ci := 2) (v := .int (V1 10)) (C := RX2) (T := TX2) (N := 5) hx hb hts hin_X2 hown hK hP 4 rfl rfl 1 (by decide) hw2 (fun _ h9 => h9) rfl dX2_tally_38 ?_
          refine lv_icmp_ne (tgt := 64) hx hb dX2_tally_41 (by decide) (fun c_8 => ?_) (fun c_8 => ?_)
          · have c_8 : eqI x_7 (V1 10) = false := decide_eq_false c_8
            refine lv_iconst (v := 0) hx hb dX2_tally_64 (by decide) ?_
            refine lv_istore_n (lv' := [(3, .int 0), (0, .ref (h 4)), (1, .int (nI n0)), (2, .int (nI k))]) hx hb dX2_tally_65 rfl hl (by decide) rfl (fun ls hl => ?_)
            have loop66 : ∀ (fu : Nat) (q : Nat) (F2 : Nat → Nat → Int32) (V2 : Nat → Int32), (q ≤ k) → (∀ j, j ∉ ([30] : List Nat) → F2 j = F j) → (∀ j, j ≠ 12 → V2 j = V j) → (k - q) < fu → ∀ (H : Heap) (locs : List Loc) (ls : Array Slot), va_P (dC, dI) vwCl (wC cI cZ h F2 V2) H → va_D A (wC cI cZ h F2 V2) → va_S A s.heap H locs → lv_has ls 4 [(0, .ref (h 4)), (1, .int (nI n0)), (2, .int (nI k)), (3, .int (nI q))] → W p l e rm_X2_tally s m args below meth c H locs 0 0 Q (F0 m 66 ls []) := by
              intro fu
              induction fu with
              | zero => intro q F2 V2 hq hfr2 hvr2 hn_; exact absurd hn_ (Nat.not_lt_zero _)
              | succ fu ih66 =>
                intro q F2 V2 hq hfr2 hvr2 hn_ H locs ls hP hD hS hl
                refine lv_iload_n hx hb dX2_tally_66 rfl (lv_at hl 3 rfl) ?_
                refine lv_iload_n hx hb dX2_tally_67 rfl (lv_at hl 2 rfl) ?_
                refine lv_icmp_ge (tgt := 127) hx hb dX2_tally_68 (by decide) (fun c_9 => ?_) (fun c_9 => ?_)
                · have c_9 : k ≤ q := (nI_leI (a := k) (b := q) (by omega) (by omega)).mp c_9
                  refine lv_iinc (v := nI (k + 1)) (lv' := [(2, .int (nI (k + 1))), (0, .ref (h 4)), (1, .int (nI n0)), (3, .int (nI q))]) hx hb dX2_tally_127 hl (k := 2) rfl (nI_1 _) (by decide) rfl (fun ls hl => ?_)
                  refine lv_goto (tgt := 26) hx hb dX2_tally_130 (by decide) ?_
                  exact ih26 (k + 1) F2 V2 (by omega) (fun j hj => (hfr2 j hj)) hvr2 (by omega) H locs ls hP hD hS (lv_sub hl [1, 2, 0] rfl)
                · have c_9 : ¬ k ≤ q := fun h => c_9 ((nI_leI (a := k) (b := q) (by omega) (by omega)).mpr h)
                  refine lv_aload_n hx hb dX2_tally_71 rfl (lv_at hl 0 rfl) ?_
                  refine va_get (D := (dC, dI)) (ci := 2) (v := .ref (h 29)) (C := RX2) (T := TX2) (N := 5) hx hb hts hin_X2 hown hK hP 4 rfl rfl 0 (by decide) hw4 (fun _ h9 => h9) rfl dX2_tally_72 ?_
                  refine lv_iload_n hx hb dX2_tally_75 rfl (lv_at hl 2 rfl) ?_
                  refine va_iald hx hb hK hP 29 0 rfl rfl (vp_in_nI (n := k) (N := 40) (by omega) (by decide)) dX2_tally_76 ?_
                  refine lv_topi (fun x_10 ex_10 => ?_)
                  rw [nI_clamp (n := k) (by omega)] at ex_10
                  refine lv_aload_n hx hb dX2_tally_77 rfl (lv_at hl 0 rfl) ?_
                  refine va_get (D := (dC, dI)) (ci := 2) (v := .ref (h 29)) (C := RX2) (T := TX2) (N := 5) hx hb hts hin_X2 hown hK hP 4 rfl rfl 0 (by decide) hw4 (fun _ h9 => h9) rfl dX2_tally_78 ?_
                  refine lv_iload_n hx hb dX2_tally_81 rfl (lv_at hl 3 rfl) ?_
                  refine va_iald hx hb hK hP 29 0 rfl rfl (vp_in_nI (n := q) (N := 40) (by omega) (by decide)) dX2_tally_82 ?_
                  refine lv_topi (fun x_11 ex_11 => ?_)
                  rw [nI_clamp (n := q) (by omega)] at ex_11
                  refine lv_iadd hx hb dX2_tally_83 ?_
                  refine lv_aload_n hx hb dX2_tally_84 rfl (lv_at hl 0 rfl) ?_
                  refine va_get (D := (dC, dI)) (ci := 2) (v := .int (V2 10)) (C := RX2) (T := TX2) (N := 5) hx hb hts hin_X2 hown hK hP 4 rfl rfl 1 (by decide) hw2 (fun _ h9 => h9) rfl dX2_tally_85 ?_
                  refine lv_icmp_ne (tgt := 121) hx hb dX2_tally_88 (by decide) (fun c_12 => ?_) (fun c_12 => ?_)
                  · have c_12 : eqI (x_10 + x_11) (V2 10) = false := decide_eq_false c_12
                    refine lv_iinc (v := nI (q + 1)) (lv' := [(3, .int (nI (q + 1))), (0, .ref (h 4)), (1, .int (nI n0)), (2, .int (nI k))]) hx hb dX2_tally_121 hl (k := 3) rfl (nI_1 _) (by decide) rfl (fun ls hl => ?_)
                    refine lv_goto (tgt := 66) hx hb dX2_tally_124 (by decide) ?_
                    exact ih66 (q + 1) F2 V2 (by omega) (fun j hj => (hfr2 j hj)) hvr2 (by omega) H locs ls hP hD hS (lv_sub hl [1, 2, 3, 0] rfl)
                  · have c_12 : eqI (x_10 + x_11) (V2 10) = true := decide_eq_true c_12
                    refine lv_aload_n hx hb dX2_tally_91 rfl (lv_at hl 0 rfl) ?_
                    refine lv_dup hx hb dX2_tally_92 rfl ?_
                    refine va_get (D := (dC, dI)) (ci := 2) (v := .int (V2 12)) (C := RX2) (T := TX2) (N := 5) hx hb hts hin_X2 hown hK hP 4 rfl rfl 3 (by decide) hw3 (fun _ h9 => h9) rfl dX2_tally_93 ?_
                    refine lv_iconst (v := 1) hx hb dX2_tally_96 (by decide) ?_
                    refine lv_iadd hx hb dX2_tally_97 ?_
                    refine va_put (D := (dC, dI)) (ci := 2) (v := .int ((V2 12) + 1)) (ty := .int) (C := RX2) (T := TX2) (N := 5) hx hb hts hin_X2 tyX2 tyX2_ok nmX2 hown hK hP hD hS 4 rfl rfl 3 (by decide) hw3 (fun _ h9 => h9) rfl (by decide +kernel) rfl rfl (Nat.le_of_ble_eq_true rfl) dX2_tally_98 (fun H locs hP hD hS => ?_)
                    have hP : va_P (dC, dI) vwCl (wC cI cZ h F2 (va_up V2 12 ((V2 12) + 1))) H := hP
                    have hD : va_D A (wC cI cZ h F2 (va_up V2 12 ((V2 12) + 1))) := hD
                    refine lv_aload_n hx hb dX2_tally_101 rfl (lv_at hl 0 rfl) ?_
                    refine va_get (D := (dC, dI)) (ci := 2) (v := .ref (h 30)) (C := RX2) (T := TX2) (N := 5) hx hb hts hin_X2 hown hK hP 4 rfl rfl 4 (by decide) hw0 (fun _ h9 => h9) rfl dX2_tally_102 ?_
                    refine lv_iload_n hx hb dX2_tally_105 rfl (lv_at hl 2 rfl) ?_
                    refine lv_dup2_11 hx hb dX2_tally_106 rfl rfl ?_
                    refine va_iald hx hb hK hP 30 0 rfl rfl (vp_in_nI (n := k) (N := 40) (by omega) (by decide)) dX2_tally_107 ?_
                    refine lv_topi (fun x_13 ex_13 => ?_)
                    rw [nI_clamp (n := k) (by omega)] at ex_13
                    refine lv_iconst (v := 1) hx hb dX2_tally_108 (by decide) ?_
                    refine lv_iadd hx hb dX2_tally_109 ?_
                    refine va_iast hx hb hK hP hD hS 30 0 rfl rfl (vp_in_nI (n := k) (N := 40) (by omega) (by decide)) dX2_tally_110 (fun H locs hP hD hS => ?_)
                    obtain ⟨F_14, eF_14⟩ : ∃ z : Nat → Nat → Int32, z = va_up F2 30 (upd (F2 30) (nI k).toNatClampNeg (x_13 + 1)) := ⟨_, rfl⟩
                    have hP : va_P (dC, dI) vwCl (wC cI cZ h F_14 (va_up V2 12 ((V2 12) + 1))) H := by rw [eF_14]; exact hP
                    have hD : va_D A (wC cI cZ h F_14 (va_up V2 12 ((V2 12) + 1))) := by rw [eF_14]; exact hD
                    refine lv_aload_n hx hb dX2_tally_111 rfl (lv_at hl 0 rfl) ?_
                    refine va_get (D := (dC, dI)) (ci := 2) (v := .ref (h 30)) (C := RX2) (T := TX2) (N := 5) hx hb hts hin_X2 hown hK hP 4 rfl rfl 4 (by decide) hw0 (fun _ h9 => h9) rfl dX2_tally_112 ?_
                    refine lv_iload_n hx hb dX2_tally_115 rfl (lv_at hl 3 rfl) ?_
                    refine lv_dup2_11 hx hb dX2_tally_116 rfl rfl ?_
                    refine va_iald hx hb hK hP 30 0 rfl rfl (vp_in_nI (n := q) (N := 40) (by omega) (by decide)) dX2_tally_117 ?_
                    refine lv_topi (fun x_15 ex_15 => ?_)
                    rw [nI_clamp (n := q) (by omega)] at ex_15
                    refine lv_iconst (v := 1) hx hb dX2_tally_118 (by decide) ?_
                    refine lv_iadd hx hb dX2_tally_119 ?_
                    refine va_iast hx hb hK hP hD hS 30 0 rfl rfl (vp_in_nI (n := q) (N := 40) (by omega) (by decide)) dX2_tally_120 (fun H locs hP hD hS => ?_)
                    obtain ⟨F_16, eF_16⟩ : ∃ z : Nat → Nat → Int32, z = va_up F_14 30 (upd (F_14 30) (nI q).toNatClampNeg (x_15 + 1)) := ⟨_, rfl⟩
                    have hP : va_P (dC, dI) vwCl (wC cI cZ h F_16 (va_up V2 12 ((V2 12) + 1))) H := by rw [eF_16]; exact hP
                    have hD : va_D A (wC cI cZ h F_16 (va_up V2 12 ((V2 12) + 1))) := by rw [eF_16]; exact hD
                    refine lv_iinc (v := nI (q + 1)) (lv' := [(3, .int (nI (q + 1))), (0, .ref (h 4)), (1, .int (nI n0)), (2, .int (nI k))]) hx hb dX2_tally_121 hl (k := 3) rfl (nI_1 _) (by decide) rfl (fun ls hl => ?_)
                    refine lv_goto (tgt := 66) hx hb dX2_tally_124 (by decide) ?_
                    exact ih66 (q + 1) F_16 (va_up V2 12 ((V2 12) + 1)) (by omega) (fun j hj => ((va_ne eF_16 (fun h => hj (by rw [h]; decide))).trans ((va_ne eF_14 (fun h => hj (by rw [h]; decide))).trans (hfr2 j hj)))) (fun j hj => by show (va_up V2 12 ((V2 12) + 1)) j = V j; simp only [va_up, if_neg hj]; exact hvr2 j hj) (by omega) H locs ls hP hD hS (lv_sub hl [1, 2, 3, 0] rfl)
            exact loop66 _ 0 F1 V1 (by omega) (fun j hj => (hfr j hj)) hvr (Nat.lt_succ_self _) H locs ls hP hD hS (lv_sub hl [1, 2, 3, 0] rfl)
          · have c_8 : eqI x_7 (V1 10) = true := decide_eq_true c_8
            refine lv_aload_n hx hb dX2_tally_44 rfl (lv_at hl 0 rfl) ?_
            refine lv_dup hx hb dX2_tally_45 rfl ?_
            refine va_get (D := (dC, dI)) (ci := 2) (v := .int (V1 12)) (C := RX2) (T := TX2) (N := 5) hx hb hts hin_X2 hown hK hP 4 rfl rfl 3 (by decide) hw3 (fun _ h9 => h9) rfl dX2_tally_46 ?_
            refine lv_iconst (v := 1) hx hb dX2_tally_49 (by decide) ?_
            refine lv_iadd hx hb dX2_tally_50 ?_
            refine va_put (D := (dC, dI)) (ci := 2) (v := .int ((V1 12) + 1)) (ty := .int) (C := RX2) (T := TX2) (N := 5) hx hb hts hin_X2 tyX2 tyX2_ok nmX2 hown hK hP hD hS 4 rfl rfl 3 (by decide) hw3 (fun _ h9 => h9) rfl (by decide +kernel) rfl rfl (Nat.le_of_ble_eq_true rfl) dX2_tally_51 (fun H locs hP hD hS => ?_)
            have hP : va_P (dC, dI) vwCl (wC cI cZ h F1 (va_up V1 12 ((V1 12) + 1))) H := hP
            have hD : va_D A (wC cI cZ h F1 (va_up V1 12 ((V1 12) + 1))) := hD
            refine lv_aload_n hx hb dX2_tally_54 rfl (lv_at hl 0 rfl) ?_
            refine va_get (D := (dC, dI)) (ci := 2) (v := .ref (h 30)) (C := RX2) (T := TX2) (N := 5) hx hb hts hin_X2 hown hK hP 4 rfl rfl 4 (by decide) hw0 (fun _ h9 => h9) rfl dX2_tally_55 ?_
            refine lv_iload_n hx hb dX2_tally_58 rfl (lv_at hl 2 rfl) ?_
            refine lv_dup2_11 hx hb dX2_tally_59 rfl rfl ?_
            refine va_iald hx hb hK hP 30 0 rfl rfl (vp_in_nI (n := k) (N := 40) (by omega) (by decide)) dX2_tally_60 ?_
            refine lv_topi (fun x_17 ex_17 => ?_)
            rw [nI_clamp (n := k) (by omega)] at ex_17
            refine lv_iconst (v := 1) hx hb dX2_tally_61 (by decide) ?_
            refine lv_iadd hx hb dX2_tally_62 ?_
            refine va_iast hx hb hK hP hD hS 30 0 rfl rfl (vp_in_nI (n := k) (N := 40) (by omega) (by decide)) dX2_tally_63 (fun H locs hP hD hS => ?_)
            obtain ⟨F_18, eF_18⟩ : ∃ z : Nat → Nat → Int32, z = va_up F1 30 (upd (F1 30) (nI k).toNatClampNeg (x_17 + 1)) := ⟨_, rfl⟩
            have hP : va_P (dC, dI) vwCl (wC cI cZ h F_18 (va_up V1 12 ((V1 12) + 1))) H := by rw [eF_18]; exact hP
            have hD : va_D A (wC cI cZ h F_18 (va_up V1 12 ((V1 12) + 1))) := by rw [eF_18]; exact hD
            refine lv_iconst (v := 0) hx hb dX2_tally_64 (by decide) ?_
            refine lv_istore_n (lv' := [(3, .int 0), (0, .ref (h 4)), (1, .int (nI n0)), (2, .int (nI k))]) hx hb dX2_tally_65 rfl hl (by decide) rfl (fun ls hl => ?_)
            have loop66 : ∀ (fu : Nat) (q : Nat) (F2 : Nat → Nat → Int32) (V2 : Nat → Int32), (q ≤ k) → (∀ j, j ∉ ([30] : List Nat) → F2 j = F j) → (∀ j, j ≠ 12 → V2 j = V j) → (k - q) < fu → ∀ (H : Heap) (locs : List Loc) (ls : Array Slot), va_P (dC, dI) vwCl (wC cI cZ h F2 V2) H → va_D A (wC cI cZ h F2 V2) → va_S A s.heap H locs → lv_has ls 4 [(0, .ref (h 4)), (1, .int (nI n0)), (2, .int (nI k)), (3, .int (nI q))] → W p l e rm_X2_tally s m args below meth c H locs 0 0 Q (F0 m 66 ls []) := by
              intro fu
              induction fu with
              | zero => intro q F2 V2 hq hfr2 hvr2 hn_; exact absurd hn_ (Nat.not_lt_zero _)
              | succ fu ih66 =>
                intro q F2 V2 hq hfr2 hvr2 hn_ H locs ls hP hD hS hl
                refine lv_iload_n hx hb dX2_tally_66 rfl (lv_at hl 3 rfl) ?_
                refine lv_iload_n hx hb dX2_tally_67 rfl (lv_at hl 2 rfl) ?_
                refine lv_icmp_ge (tgt := 127) hx hb dX2_tally_68 (by decide) (fun c_19 => ?_) (fun c_19 => ?_)
                · have c_19 : k ≤ q := (nI_leI (a := k) (b := q) (by omega) (by omega)).mp c_19
                  refine lv_iinc (v := nI (k + 1)) (lv' := [(2, .int (nI (k + 1))), (0, .ref (h 4)), (1, .int (nI n0)), (3, .int (nI q))]) hx hb dX2_tally_127 hl (k := 2) rfl (nI_1 _) (by decide) rfl (fun ls hl => ?_)
                  refine lv_goto (tgt := 26) hx hb dX2_tally_130 (by decide) ?_
                  exact ih26 (k + 1) F2 V2 (by omega) (fun j hj => (hfr2 j hj)) hvr2 (by omega) H locs ls hP hD hS (lv_sub hl [1, 2, 0] rfl)
                · have c_19 : ¬ k ≤ q := fun h => c_19 ((nI_leI (a := k) (b := q) (by omega) (by omega)).mpr h)
                  refine lv_aload_n hx hb dX2_tally_71 rfl (lv_at hl 0 rfl) ?_
                  refine va_get (D := (dC, dI)) (ci := 2) (v := .ref (h 29)) (C := RX2) (T := TX2) (N := 5) hx hb hts hin_X2 hown hK hP 4 rfl rfl 0 (by decide) hw4 (fun _ h9 => h9) rfl dX2_tally_72 ?_
                  refine lv_iload_n hx hb dX2_tally_75 rfl (lv_at hl 2 rfl) ?_
                  refine va_iald hx hb hK hP 29 0 rfl rfl (vp_in_nI (n := k) (N := 40) (by omega) (by decide)) dX2_tally_76 ?_
                  refine lv_topi (fun x_20 ex_20 => ?_)
                  rw [nI_clamp (n := k) (by omega)] at ex_20
                  refine lv_aload_n hx hb dX2_tally_77 rfl (lv_at hl 0 rfl) ?_
                  refine va_get (D := (dC, dI)) (ci := 2) (v := .ref (h 29)) (C := RX2) (T := TX2) (N := 5) hx hb hts hin_X2 hown hK hP 4 rfl rfl 0 (by decide) hw4 (fun _ h9 => h9) rfl dX2_tally_78 ?_
                  refine lv_iload_n hx hb dX2_tally_81 rfl (lv_at hl 3 rfl) ?_
                  refine va_iald hx hb hK hP 29 0 rfl rfl (vp_in_nI (n := q) (N := 40) (by omega) (by decide)) dX2_tally_82 ?_
                  refine lv_topi (fun x_21 ex_21 => ?_)
                  rw [nI_clamp (n := q) (by omega)] at ex_21
                  refine lv_iadd hx hb dX2_tally_83 ?_
                  refine lv_aload_n hx hb dX2_tally_84 rfl (lv_at hl 0 rfl) ?_
                  refine va_get (D := (dC, dI)) (ci := 2) (v := .int (V2 10)) (C := RX2) (T := TX2) (N := 5) hx hb hts hin_X2 hown hK hP 4 rfl rfl 1 (by decide) hw2 (fun _ h9 => h9) rfl dX2_tally_85 ?_
                  refine lv_icmp_ne (tgt := 121) hx hb dX2_tally_88 (by decide) (fun c_22 => ?_) (fun c_22 => ?_)
                  · have c_22 : eqI (x_20 + x_21) (V2 10) = false := decide_eq_false c_22
                    refine lv_iinc (v := nI (q + 1)) (lv' := [(3, .int (nI (q + 1))), (0, .ref (h 4)), (1, .int (nI n0)), (2, .int (nI k))]) hx hb dX2_tally_121 hl (k := 3) rfl (nI_1 _) (by decide) rfl (fun ls hl => ?_)
                    refine lv_goto (tgt := 66) hx hb dX2_tally_124 (by decide) ?_
                    exact ih66 (q + 1) F2 V2 (by omega) (fun j hj => (hfr2 j hj)) hvr2 (by omega) H locs ls hP hD hS (lv_sub hl [1, 2, 3, 0] rfl)
                  · have c_22 : eqI (x_20 + x_21) (V2 10) = true := decide_eq_true c_22
                    refine lv_aload_n hx hb dX2_tally_91 rfl (lv_at hl 0 rfl) ?_
                    refine lv_dup hx hb dX2_tally_92 rfl ?_
                    refine va_get (D := (dC, dI)) (ci := 2) (v := .int (V2 12)) (C := RX2) (T := TX2) (N := 5) hx hb hts hin_X2 hown hK hP 4 rfl rfl 3 (by decide) hw3 (fun _ h9 => h9) rfl dX2_tally_93 ?_
                    refine lv_iconst (v := 1) hx hb dX2_tally_96 (by decide) ?_
                    refine lv_iadd hx hb dX2_tally_97 ?_
                    refine va_put (D := (dC, dI)) (ci := 2) (v := .int ((V2 12) + 1)) (ty := .int) (C := RX2) (T := TX2) (N := 5) hx hb hts hin_X2 tyX2 tyX2_ok nmX2 hown hK hP hD hS 4 rfl rfl 3 (by decide) hw3 (fun _ h9 => h9) rfl (by decide +kernel) rfl rfl (Nat.le_of_ble_eq_true rfl) dX2_tally_98 (fun H locs hP hD hS => ?_)
                    have hP : va_P (dC, dI) vwCl (wC cI cZ h F2 (va_up V2 12 ((V2 12) + 1))) H := hP
                    have hD : va_D A (wC cI cZ h F2 (va_up V2 12 ((V2 12) + 1))) := hD
                    refine lv_aload_n hx hb dX2_tally_101 rfl (lv_at hl 0 rfl) ?_
                    refine va_get (D := (dC, dI)) (ci := 2) (v := .ref (h 30)) (C := RX2) (T := TX2) (N := 5) hx hb hts hin_X2 hown hK hP 4 rfl rfl 4 (by decide) hw0 (fun _ h9 => h9) rfl dX2_tally_102 ?_
                    refine lv_iload_n hx hb dX2_tally_105 rfl (lv_at hl 2 rfl) ?_
                    refine lv_dup2_11 hx hb dX2_tally_106 rfl rfl ?_
                    refine va_iald hx hb hK hP 30 0 rfl rfl (vp_in_nI (n := k) (N := 40) (by omega) (by decide)) dX2_tally_107 ?_
                    refine lv_topi (fun x_23 ex_23 => ?_)
                    rw [nI_clamp (n := k) (by omega)] at ex_23
                    refine lv_iconst (v := 1) hx hb dX2_tally_108 (by decide) ?_
                    refine lv_iadd hx hb dX2_tally_109 ?_
                    refine va_iast hx hb hK hP hD hS 30 0 rfl rfl (vp_in_nI (n := k) (N := 40) (by omega) (by decide)) dX2_tally_110 (fun H locs hP hD hS => ?_)
                    obtain ⟨F_24, eF_24⟩ : ∃ z : Nat → Nat → Int32, z = va_up F2 30 (upd (F2 30) (nI k).toNatClampNeg (x_23 + 1)) := ⟨_, rfl⟩
                    have hP : va_P (dC, dI) vwCl (wC cI cZ h F_24 (va_up V2 12 ((V2 12) + 1))) H := by rw [eF_24]; exact hP
                    have hD : va_D A (wC cI cZ h F_24 (va_up V2 12 ((V2 12) + 1))) := by rw [eF_24]; exact hD
                    refine lv_aload_n hx hb dX2_tally_111 rfl (lv_at hl 0 rfl) ?_
                    refine va_get (D := (dC, dI)) (ci := 2) (v := .ref (h 30)) (C := RX2) (T := TX2) (N := 5) hx hb hts hin_X2 hown hK hP 4 rfl rfl 4 (by decide) hw0 (fun _ h9 => h9) rfl dX2_tally_112 ?_
                    refine lv_iload_n hx hb dX2_tally_115 rfl (lv_at hl 3 rfl) ?_
                    refine lv_dup2_11 hx hb dX2_tally_116 rfl rfl ?_
                    refine va_iald hx hb hK hP 30 0 rfl rfl (vp_in_nI (n := q) (N := 40) (by omega) (by decide)) dX2_tally_117 ?_
                    refine lv_topi (fun x_25 ex_25 => ?_)
                    rw [nI_clamp (n := q) (by omega)] at ex_25
                    refine lv_iconst (v := 1) hx hb dX2_tally_118 (by decide) ?_
                    refine lv_iadd hx hb dX2_tally_119 ?_
                    refine va_iast hx hb hK hP hD hS 30 0 rfl rfl (vp_in_nI (n := q) (N := 40) (by omega) (by decide)) dX2_tally_120 (fun H locs hP hD hS => ?_)
                    obtain ⟨F_26, eF_26⟩ : ∃ z : Nat → Nat → Int32, z = va_up F_24 30 (upd (F_24 30) (nI q).toNatClampNeg (x_25 + 1)) := ⟨_, rfl⟩
                    have hP : va_P (dC, dI) vwCl (wC cI cZ h F_26 (va_up V2 12 ((V2 12) + 1))) H := by rw [eF_26]; exact hP
                    have hD : va_D A (wC cI cZ h F_26 (va_up V2 12 ((V2 12) + 1))) := by rw [eF_26]; exact hD
                    refine lv_iinc (v := nI (q + 1)) (lv' := [(3, .int (nI (q + 1))), (0, .ref (h 4)), (1, .int (nI n0)), (2, .int (nI k))]) hx hb dX2_tally_121 hl (k := 3) rfl (nI_1 _) (by decide) rfl (fun ls hl => ?_)
                    refine lv_goto (tgt := 66) hx hb dX2_tally_124 (by decide) ?_
                    exact ih66 (q + 1) F_26 (va_up V2 12 ((V2 12) + 1)) (by omega) (fun j hj => ((va_ne eF_26 (fun h => hj (by rw [h]; decide))).trans ((va_ne eF_24 (fun h => hj (by rw [h]; decide))).trans (hfr2 j hj)))) (fun j hj => by show (va_up V2 12 ((V2 12) + 1)) j = V j; simp only [va_up, if_neg hj]; exact hvr2 j hj) (by omega) H locs ls hP hD hS (lv_sub hl [1, 2, 3, 0] rfl)
            exact loop66 _ 0 F_18 (va_up V1 12 ((V1 12) + 1)) (by omega) (fun j hj => ((va_ne eF_18 (fun h => hj (by rw [h]; decide))).trans (hfr j hj))) (fun j hj => by show (va_up V1 12 ((V1 12) + 1)) j = V j; simp only [va_up, if_neg hj]; exact hvr j hj) (Nat.lt_succ_self _) H locs ls hP hD hS (lv_sub hl [1, 2, 3, 0] rfl)
    exact loop26 _ 0 F_3 (va_up V 12 0) (by omega) (fun j hj => (va_ne eF_3 (fun h => hj (by rw [h]; decide)))) (fun j hj => by simp only [va_up, if_neg hj]) (Nat.lt_succ_self _) H locs ls hP hD hS (lv_sub hl [1, 2, 0] rfl)
  · have c_5 : eqI (V 10) 0 = true := decide_eq_true c_5
    refine lv_iconst (v := 1) hx hb dX2_tally_16 (by decide) ?_
    refine lv_goto (tgt := 21) hx hb dX2_tally_17 (by decide) ?_
    refine va_put (D := (dC, dI)) (ci := 2) (v := .int 1) (ty := .int) (C := RX2) (T := TX2) (N := 5) hx hb hts hin_X2 tyX2 tyX2_ok nmX2 hown hK hP hD hS 4 rfl rfl 3 (by decide) hw3 (fun _ h9 => h9) rfl (by decide +kernel) rfl rfl (Nat.le_of_ble_eq_true rfl) dX2_tally_21 (fun H locs hP hD hS => ?_)
    have hP : va_P (dC, dI) vwCl (wC cI cZ h F_3 (va_up V 12 1)) H := hP
    have hD : va_D A (wC cI cZ h F_3 (va_up V 12 1)) := hD
    refine lv_iconst (v := 0) hx hb dX2_tally_24 (by decide) ?_
    refine lv_istore_n (lv' := [(2, .int 0), (0, .ref (h 4)), (1, .int (nI n0))]) hx hb dX2_tally_25 rfl hl (by decide) rfl (fun ls hl => ?_)
    have loop26 : ∀ (fu : Nat) (k : Nat) (F1 : Nat → Nat → Int32) (V1 : Nat → Int32), (k ≤ n0) → (∀ j, j ∉ ([30] : List Nat) → F1 j = F j) → (∀ j, j ≠ 12 → V1 j = V j) → (n0 - k) < fu → ∀ (H : Heap) (locs : List Loc) (ls : Array Slot), va_P (dC, dI) vwCl (wC cI cZ h F1 V1) H → va_D A (wC cI cZ h F1 V1) → va_S A s.heap H locs → lv_has ls 4 [(0, .ref (h 4)), (1, .int (nI n0)), (2, .int (nI k))] → W p l e rm_X2_tally s m args below meth c H locs 0 0 Q (F0 m 26 ls []) := by
      intro fu
      induction fu with
      | zero => intro k F1 V1 hk hfr hvr hn_; exact absurd hn_ (Nat.not_lt_zero _)
      | succ fu ih26 =>
        intro k F1 V1 hk hfr hvr hn_ H locs ls hP hD hS hl
        refine lv_iload_n hx hb dX2_tally_26 rfl (lv_at hl 2 rfl) ?_
        refine lv_iload_n hx hb dX2_tally_27 rfl (lv_at hl 1 rfl) ?_
        refine lv_icmp_ge (tgt := 133) hx hb dX2_tally_28 (by decide) (fun c_27 => ?_) (fun c_27 => ?_)
        · have c_27 : n0 ≤ k := (nI_leI (a := n0) (b := k) (by omega) (by omega)).mp c_27
          exact hret (F1, V1) H locs 133 ls dX2_tally_133 (⟨hfr, hvr⟩) (hP) (hD) hS
        · have c_27 : ¬ n0 ≤ k := fun h => c_27 ((nI_leI (a := n0) (b := k) (by omega) (by omega)).mpr h)
          refine lv_aload_n hx hb dX2_tally_31 rfl (lv_at hl 0 rfl) ?_
          refine va_get (D := (dC, dI)) (ci := 2) (v := .ref (h 29)) (C := RX2) (T := TX2) (N := 5) hx hb hts hin_X2 hown hK hP 4 rfl rfl 0 (by decide) hw4 (fun _ h9 => h9) rfl dX2_tally_32 ?_
          refine lv_iload_n hx hb dX2_tally_35 rfl (lv_at hl 2 rfl) ?_
          refine va_iald hx hb hK hP 29 0 rfl rfl (vp_in_nI (n := k) (N := 40) (by omega) (by decide)) dX2_tally_36 ?_
          refine lv_topi (fun x_28 ex_28 => ?_)
          rw [nI_clamp (n := k) (by omega)] at ex_28
          refine lv_aload_n hx hb dX2_tally_37 rfl (lv_at hl 0 rfl) ?_
          refine va_get (D := (dC, dI)) (ci := 2) (v := .int (V1 10)) (C := RX2) (T := TX2) (N := 5) hx hb hts hin_X2 hown hK hP 4 rfl rfl 1 (by decide) hw2 (fun _ h9 => h9) rfl dX2_tally_38 ?_
          refine lv_icmp_ne (tgt := 64) hx hb dX2_tally_41 (by decide) (fun c_29 => ?_) (fun c_29 => ?_)
          · have c_29 : eqI x_28 (V1 10) = false := decide_eq_false c_29
            refine lv_iconst (v := 0) hx hb dX2_tally_64 (by decide) ?_
            refine lv_istore_n (lv' := [(3, .int 0), (0, .ref (h 4)), (1, .int (nI n0)), (2, .int (nI k))]) hx hb dX2_tally_65 rfl hl (by decide) rfl (fun ls hl => ?_)
            have loop66 : ∀ (fu : Nat) (q : Nat) (F2 : Nat → Nat → Int32) (V2 : Nat → Int32), (q ≤ k) → (∀ j, j ∉ ([30] : List Nat) → F2 j = F j) → (∀ j, j ≠ 12 → V2 j = V j) → (k - q) < fu → ∀ (H : Heap) (locs : List Loc) (ls : Array Slot), va_P (dC, dI) vwCl (wC cI cZ h F2 V2) H → va_D A (wC cI cZ h F2 V2) → va_S A s.heap H locs → lv_has ls 4 [(0, .ref (h 4)), (1, .int (nI n0)), (2, .int (nI k)), (3, .int (nI q))] → W p l e rm_X2_tally s m args below meth c H locs 0 0 Q (F0 m 66 ls []) := by
              intro fu
              induction fu with
              | zero => intro q F2 V2 hq hfr2 hvr2 hn_; exact absurd hn_ (Nat.not_lt_zero _)
              | succ fu ih66 =>
                intro q F2 V2 hq hfr2 hvr2 hn_ H locs ls hP hD hS hl
                refine lv_iload_n hx hb dX2_tally_66 rfl (lv_at hl 3 rfl) ?_
                refine lv_iload_n hx hb dX2_tally_67 rfl (lv_at hl 2 rfl) ?_
                refine lv_icmp_ge (tgt := 127) hx hb dX2_tally_68 (by decide) (fun c_30 => ?_) (fun c_30 => ?_)
                · have c_30 : k ≤ q := (nI_leI (a := k) (b := q) (by omega) (by omega)).mp c_30
                  refine lv_iinc (v := nI (k + 1)) (lv' := [(2, .int (nI (k + 1))), (0, .ref (h 4)), (1, .int (nI n0)), (3, .int (nI q))]) hx hb dX2_tally_127 hl (k := 2) rfl (nI_1 _) (by decide) rfl (fun ls hl => ?_)
                  refine lv_goto (tgt := 26) hx hb dX2_tally_130 (by decide) ?_
                  exact ih26 (k + 1) F2 V2 (by omega) (fun j hj => (hfr2 j hj)) hvr2 (by omega) H locs ls hP hD hS (lv_sub hl [1, 2, 0] rfl)
                · have c_30 : ¬ k ≤ q := fun h => c_30 ((nI_leI (a := k) (b := q) (by omega) (by omega)).mpr h)
                  refine lv_aload_n hx hb dX2_tally_71 rfl (lv_at hl 0 rfl) ?_
                  refine va_get (D := (dC, dI)) (ci := 2) (v := .ref (h 29)) (C := RX2) (T := TX2) (N := 5) hx hb hts hin_X2 hown hK hP 4 rfl rfl 0 (by decide) hw4 (fun _ h9 => h9) rfl dX2_tally_72 ?_
                  refine lv_iload_n hx hb dX2_tally_75 rfl (lv_at hl 2 rfl) ?_
                  refine va_iald hx hb hK hP 29 0 rfl rfl (vp_in_nI (n := k) (N := 40) (by omega) (by decide)) dX2_tally_76 ?_
                  refine lv_topi (fun x_31 ex_31 => ?_)
                  rw [nI_clamp (n := k) (by omega)] at ex_31
                  refine lv_aload_n hx hb dX2_tally_77 rfl (lv_at hl 0 rfl) ?_
                  refine va_get (D := (dC, dI)) (ci := 2) (v := .ref (h 29)) (C := RX2) (T := TX2) (N := 5) hx hb hts hin_X2 hown hK hP 4 rfl rfl 0 (by decide) hw4 (fun _ h9 => h9) rfl dX2_tally_78 ?_
                  refine lv_iload_n hx hb dX2_tally_81 rfl (lv_at hl 3 rfl) ?_
                  refine va_iald hx hb hK hP 29 0 rfl rfl (vp_in_nI (n := q) (N := 40) (by omega) (by decide)) dX2_tally_82 ?_
                  refine lv_topi (fun x_32 ex_32 => ?_)
                  rw [nI_clamp (n := q) (by omega)] at ex_32
                  refine lv_iadd hx hb dX2_tally_83 ?_
                  refine lv_aload_n hx hb dX2_tally_84 rfl (lv_at hl 0 rfl) ?_
                  refine va_get (D := (dC, dI)) (ci := 2) (v := .int (V2 10)) (C := RX2) (T := TX2) (N := 5) hx hb hts hin_X2 hown hK hP 4 rfl rfl 1 (by decide) hw2 (fun _ h9 => h9) rfl dX2_tally_85 ?_
                  refine lv_icmp_ne (tgt := 121) hx hb dX2_tally_88 (by decide) (fun c_33 => ?_) (fun c_33 => ?_)
                  · have c_33 : eqI (x_31 + x_32) (V2 10) = false := decide_eq_false c_33
                    refine lv_iinc (v := nI (q + 1)) (lv' := [(3, .int (nI (q + 1))), (0, .ref (h 4)), (1, .int (nI n0)), (2, .int (nI k))]) hx hb dX2_tally_121 hl (k := 3) rfl (nI_1 _) (by decide) rfl (fun ls hl => ?_)
                    refine lv_goto (tgt := 66) hx hb dX2_tally_124 (by decide) ?_
                    exact ih66 (q + 1) F2 V2 (by omega) (fun j hj => (hfr2 j hj)) hvr2 (by omega) H locs ls hP hD hS (lv_sub hl [1, 2, 3, 0] rfl)
                  · have c_33 : eqI (x_31 + x_32) (V2 10) = true := decide_eq_true c_33
                    refine lv_aload_n hx hb dX2_tally_91 rfl (lv_at hl 0 rfl) ?_
                    refine lv_dup hx hb dX2_tally_92 rfl ?_
                    refine va_get (D := (dC, dI)) (ci := 2) (v := .int (V2 12)) (C := RX2) (T := TX2) (N := 5) hx hb hts hin_X2 hown hK hP 4 rfl rfl 3 (by decide) hw3 (fun _ h9 => h9) rfl dX2_tally_93 ?_
                    refine lv_iconst (v := 1) hx hb dX2_tally_96 (by decide) ?_
                    refine lv_iadd hx hb dX2_tally_97 ?_
                    refine va_put (D := (dC, dI)) (ci := 2) (v := .int ((V2 12) + 1)) (ty := .int) (C := RX2) (T := TX2) (N := 5) hx hb hts hin_X2 tyX2 tyX2_ok nmX2 hown hK hP hD hS 4 rfl rfl 3 (by decide) hw3 (fun _ h9 => h9) rfl (by decide +kernel) rfl rfl (Nat.le_of_ble_eq_true rfl) dX2_tally_98 (fun H locs hP hD hS => ?_)
                    have hP : va_P (dC, dI) vwCl (wC cI cZ h F2 (va_up V2 12 ((V2 12) + 1))) H := hP
                    have hD : va_D A (wC cI cZ h F2 (va_up V2 12 ((V2 12) + 1))) := hD
                    refine lv_aload_n hx hb dX2_tally_101 rfl (lv_at hl 0 rfl) ?_
                    refine va_get (D := (dC, dI)) (ci := 2) (v := .ref (h 30)) (C := RX2) (T := TX2) (N := 5) hx hb hts hin_X2 hown hK hP 4 rfl rfl 4 (by decide) hw0 (fun _ h9 => h9) rfl dX2_tally_102 ?_
                    refine lv_iload_n hx hb dX2_tally_105 rfl (lv_at hl 2 rfl) ?_
                    refine lv_dup2_11 hx hb dX2_tally_106 rfl rfl ?_
                    refine va_iald hx hb hK hP 30 0 rfl rfl (vp_in_nI (n := k) (N := 40) (by omega) (by decide)) dX2_tally_107 ?_
                    refine lv_topi (fun x_34 ex_34 => ?_)
                    rw [nI_clamp (n := k) (by omega)] at ex_34
                    refine lv_iconst (v := 1) hx hb dX2_tally_108 (by decide) ?_
                    refine lv_iadd hx hb dX2_tally_109 ?_
                    refine va_iast hx hb hK hP hD hS 30 0 rfl rfl (vp_in_nI (n := k) (N := 40) (by omega) (by decide)) dX2_tally_110 (fun H locs hP hD hS => ?_)
                    obtain ⟨F_35, eF_35⟩ : ∃ z : Nat → Nat → Int32, z = va_up F2 30 (upd (F2 30) (nI k).toNatClampNeg (x_34 + 1)) := ⟨_, rfl⟩
                    have hP : va_P (dC, dI) vwCl (wC cI cZ h F_35 (va_up V2 12 ((V2 12) + 1))) H := by rw [eF_35]; exact hP
                    have hD : va_D A (wC cI cZ h F_35 (va_up V2 12 ((V2 12) + 1))) := by rw [eF_35]; exact hD
                    refine lv_aload_n hx hb dX2_tally_111 rfl (lv_at hl 0 rfl) ?_
                    refine va_get (D := (dC, dI)) (ci := 2) (v := .ref (h 30)) (C := RX2) (T := TX2) (N := 5) hx hb hts hin_X2 hown hK hP 4 rfl rfl 4 (by decide) hw0 (fun _ h9 => h9) rfl dX2_tally_112 ?_
                    refine lv_iload_n hx hb dX2_tally_115 rfl (lv_at hl 3 rfl) ?_
                    refine lv_dup2_11 hx hb dX2_tally_116 rfl rfl ?_
                    refine va_iald hx hb hK hP 30 0 rfl rfl (vp_in_nI (n := q) (N := 40) (by omega) (by decide)) dX2_tally_117 ?_
                    refine lv_topi (fun x_36 ex_36 => ?_)
                    rw [nI_clamp (n := q) (by omega)] at ex_36
                    refine lv_iconst (v := 1) hx hb dX2_tally_118 (by decide) ?_
                    refine lv_iadd hx hb dX2_tally_119 ?_
                    refine va_iast hx hb hK hP hD hS 30 0 rfl rfl (vp_in_nI (n := q) (N := 40) (by omega) (by decide)) dX2_tally_120 (fun H locs hP hD hS => ?_)
                    obtain ⟨F_37, eF_37⟩ : ∃ z : Nat → Nat → Int32, z = va_up F_35 30 (upd (F_35 30) (nI q).toNatClampNeg (x_36 + 1)) := ⟨_, rfl⟩
                    have hP : va_P (dC, dI) vwCl (wC cI cZ h F_37 (va_up V2 12 ((V2 12) + 1))) H := by rw [eF_37]; exact hP
                    have hD : va_D A (wC cI cZ h F_37 (va_up V2 12 ((V2 12) + 1))) := by rw [eF_37]; exact hD
                    refine lv_iinc (v := nI (q + 1)) (lv' := [(3, .int (nI (q + 1))), (0, .ref (h 4)), (1, .int (nI n0)), (2, .int (nI k))]) hx hb dX2_tally_121 hl (k := 3) rfl (nI_1 _) (by decide) rfl (fun ls hl => ?_)
                    refine lv_goto (tgt := 66) hx hb dX2_tally_124 (by decide) ?_
                    exact ih66 (q + 1) F_37 (va_up V2 12 ((V2 12) + 1)) (by omega) (fun j hj => ((va_ne eF_37 (fun h => hj (by rw [h]; decide))).trans ((va_ne eF_35 (fun h => hj (by rw [h]; decide))).trans (hfr2 j hj)))) (fun j hj => by show (va_up V2 12 ((V2 12) + 1)) j = V j; simp only [va_up, if_neg hj]; exact hvr2 j hj) (by omega) H locs ls hP hD hS (lv_sub hl [1, 2, 3, 0] rfl)
            exact loop66 _ 0 F1 V1 (by omega) (fun j hj => (hfr j hj)) hvr (Nat.lt_succ_self _) H locs ls hP hD hS (lv_sub hl [1, 2, 3, 0] rfl)
          · have c_29 : eqI x_28 (V1 10) = true := decide_eq_true c_29
            refine lv_aload_n hx hb dX2_tally_44 rfl (lv_at hl 0 rfl) ?_
            refine lv_dup hx hb dX2_tally_45 rfl ?_
            refine va_get (D := (dC, dI)) (ci := 2) (v := .int (V1 12)) (C := RX2) (T := TX2) (N := 5) hx hb hts hin_X2 hown hK hP 4 rfl rfl 3 (by decide) hw3 (fun _ h9 => h9) rfl dX2_tally_46 ?_
            refine lv_iconst (v := 1) hx hb dX2_tally_49 (by decide) ?_
            refine lv_iadd hx hb dX2_tally_50 ?_
            refine va_put (D := (dC, dI)) (ci := 2) (v := .int ((V1 12) + 1)) (ty := .int) (C := RX2) (T := TX2) (N := 5) hx hb hts hin_X2 tyX2 tyX2_ok nmX2 hown hK hP hD hS 4 rfl rfl 3 (by decide) hw3 (fun _ h9 => h9) rfl (by decide +kernel) rfl rfl (Nat.le_of_ble_eq_true rfl) dX2_tally_51 (fun H locs hP hD hS => ?_)
            have hP : va_P (dC, dI) vwCl (wC cI cZ h F1 (va_up V1 12 ((V1 12) + 1))) H := hP
            have hD : va_D A (wC cI cZ h F1 (va_up V1 12 ((V1 12) + 1))) := hD
            refine lv_aload_n hx hb dX2_tally_54 rfl (lv_at hl 0 rfl) ?_
            refine va_get (D := (dC, dI)) (ci := 2) (v := .ref (h 30)) (C := RX2) (T := TX2) (N := 5) hx hb hts hin_X2 hown hK hP 4 rfl rfl 4 (by decide) hw0 (fun _ h9 => h9) rfl dX2_tally_55 ?_
            refine lv_iload_n hx hb dX2_tally_58 rfl (lv_at hl 2 rfl) ?_
            refine lv_dup2_11 hx hb dX2_tally_59 rfl rfl ?_
            refine va_iald hx hb hK hP 30 0 rfl rfl (vp_in_nI (n := k) (N := 40) (by omega) (by decide)) dX2_tally_60 ?_
            refine lv_topi (fun x_38 ex_38 => ?_)
            rw [nI_clamp (n := k) (by omega)] at ex_38
            refine lv_iconst (v := 1) hx hb dX2_tally_61 (by decide) ?_
            refine lv_iadd hx hb dX2_tally_62 ?_
            refine va_iast hx hb hK hP hD hS 30 0 rfl rfl (vp_in_nI (n := k) (N := 40) (by omega) (by decide)) dX2_tally_63 (fun H locs hP hD hS => ?_)
            obtain ⟨F_39, eF_39⟩ : ∃ z : Nat → Nat → Int32, z = va_up F1 30 (upd (F1 30) (nI k).toNatClampNeg (x_38 + 1)) := ⟨_, rfl⟩
            have hP : va_P (dC, dI) vwCl (wC cI cZ h F_39 (va_up V1 12 ((V1 12) + 1))) H := by rw [eF_39]; exact hP
            have hD : va_D A (wC cI cZ h F_39 (va_up V1 12 ((V1 12) + 1))) := by rw [eF_39]; exact hD
            refine lv_iconst (v := 0) hx hb dX2_tally_64 (by decide) ?_
            refine lv_istore_n (lv' := [(3, .int 0), (0, .ref (h 4)), (1, .int (nI n0)), (2, .int (nI k))]) hx hb dX2_tally_65 rfl hl (by decide) rfl (fun ls hl => ?_)
            have loop66 : ∀ (fu : Nat) (q : Nat) (F2 : Nat → Nat → Int32) (V2 : Nat → Int32), (q ≤ k) → (∀ j, j ∉ ([30] : List Nat) → F2 j = F j) → (∀ j, j ≠ 12 → V2 j = V j) → (k - q) < fu → ∀ (H : Heap) (locs : List Loc) (ls : Array Slot), va_P (dC, dI) vwCl (wC cI cZ h F2 V2) H → va_D A (wC cI cZ h F2 V2) → va_S A s.heap H locs → lv_has ls 4 [(0, .ref (h 4)), (1, .int (nI n0)), (2, .int (nI k)), (3, .int (nI q))] → W p l e rm_X2_tally s m args below meth c H locs 0 0 Q (F0 m 66 ls []) := by
              intro fu
              induction fu with
              | zero => intro q F2 V2 hq hfr2 hvr2 hn_; exact absurd hn_ (Nat.not_lt_zero _)
              | succ fu ih66 =>
                intro q F2 V2 hq hfr2 hvr2 hn_ H locs ls hP hD hS hl
                refine lv_iload_n hx hb dX2_tally_66 rfl (lv_at hl 3 rfl) ?_
                refine lv_iload_n hx hb dX2_tally_67 rfl (lv_at hl 2 rfl) ?_
                refine lv_icmp_ge (tgt := 127) hx hb dX2_tally_68 (by decide) (fun c_40 => ?_) (fun c_40 => ?_)
                · have c_40 : k ≤ q := (nI_leI (a := k) (b := q) (by omega) (by omega)).mp c_40
                  refine lv_iinc (v := nI (k + 1)) (lv' := [(2, .int (nI (k + 1))), (0, .ref (h 4)), (1, .int (nI n0)), (3, .int (nI q))]) hx hb dX2_tally_127 hl (k := 2) rfl (nI_1 _) (by decide) rfl (fun ls hl => ?_)
                  refine lv_goto (tgt := 26) hx hb dX2_tally_130 (by decide) ?_
                  exact ih26 (k + 1) F2 V2 (by omega) (fun j hj => (hfr2 j hj)) hvr2 (by omega) H locs ls hP hD hS (lv_sub hl [1, 2, 0] rfl)
                · have c_40 : ¬ k ≤ q := fun h => c_40 ((nI_leI (a := k) (b := q) (by omega) (by omega)).mpr h)
                  refine lv_aload_n hx hb dX2_tally_71 rfl (lv_at hl 0 rfl) ?_
                  refine va_get (D := (dC, dI)) (ci := 2) (v := .ref (h 29)) (C := RX2) (T := TX2) (N := 5) hx hb hts hin_X2 hown hK hP 4 rfl rfl 0 (by decide) hw4 (fun _ h9 => h9) rfl dX2_tally_72 ?_
                  refine lv_iload_n hx hb dX2_tally_75 rfl (lv_at hl 2 rfl) ?_
                  refine va_iald hx hb hK hP 29 0 rfl rfl (vp_in_nI (n := k) (N := 40) (by omega) (by decide)) dX2_tally_76 ?_
                  refine lv_topi (fun x_41 ex_41 => ?_)
                  rw [nI_clamp (n := k) (by omega)] at ex_41
                  refine lv_aload_n hx hb dX2_tally_77 rfl (lv_at hl 0 rfl) ?_
                  refine va_get (D := (dC, dI)) (ci := 2) (v := .ref (h 29)) (C := RX2) (T := TX2) (N := 5) hx hb hts hin_X2 hown hK hP 4 rfl rfl 0 (by decide) hw4 (fun _ h9 => h9) rfl dX2_tally_78 ?_
                  refine lv_iload_n hx hb dX2_tally_81 rfl (lv_at hl 3 rfl) ?_
                  refine va_iald hx hb hK hP 29 0 rfl rfl (vp_in_nI (n := q) (N := 40) (by omega) (by decide)) dX2_tally_82 ?_
                  refine lv_topi (fun x_42 ex_42 => ?_)
                  rw [nI_clamp (n := q) (by omega)] at ex_42
                  refine lv_iadd hx hb dX2_tally_83 ?_
                  refine lv_aload_n hx hb dX2_tally_84 rfl (lv_at hl 0 rfl) ?_
                  refine va_get (D := (dC, dI)) (ci := 2) (v := .int (V2 10)) (C := RX2) (T := TX2) (N := 5) hx hb hts hin_X2 hown hK hP 4 rfl rfl 1 (by decide) hw2 (fun _ h9 => h9) rfl dX2_tally_85 ?_
                  refine lv_icmp_ne (tgt := 121) hx hb dX2_tally_88 (by decide) (fun c_43 => ?_) (fun c_43 => ?_)
                  · have c_43 : eqI (x_41 + x_42) (V2 10) = false := decide_eq_false c_43
                    refine lv_iinc (v := nI (q + 1)) (lv' := [(3, .int (nI (q + 1))), (0, .ref (h 4)), (1, .int (nI n0)), (2, .int (nI k))]) hx hb dX2_tally_121 hl (k := 3) rfl (nI_1 _) (by decide) rfl (fun ls hl => ?_)
                    refine lv_goto (tgt := 66) hx hb dX2_tally_124 (by decide) ?_
                    exact ih66 (q + 1) F2 V2 (by omega) (fun j hj => (hfr2 j hj)) hvr2 (by omega) H locs ls hP hD hS (lv_sub hl [1, 2, 3, 0] rfl)
                  · have c_43 : eqI (x_41 + x_42) (V2 10) = true := decide_eq_true c_43
                    refine lv_aload_n hx hb dX2_tally_91 rfl (lv_at hl 0 rfl) ?_
                    refine lv_dup hx hb dX2_tally_92 rfl ?_
                    refine va_get (D := (dC, dI)) (ci := 2) (v := .int (V2 12)) (C := RX2) (T := TX2) (N := 5) hx hb hts hin_X2 hown hK hP 4 rfl rfl 3 (by decide) hw3 (fun _ h9 => h9) rfl dX2_tally_93 ?_
                    refine lv_iconst (v := 1) hx hb dX2_tally_96 (by decide) ?_
                    refine lv_iadd hx hb dX2_tally_97 ?_
                    refine va_put (D := (dC, dI)) (ci := 2) (v := .int ((V2 12) + 1)) (ty := .int) (C := RX2) (T := TX2) (N := 5) hx hb hts hin_X2 tyX2 tyX2_ok nmX2 hown hK hP hD hS 4 rfl rfl 3 (by decide) hw3 (fun _ h9 => h9) rfl (by decide +kernel) rfl rfl (Nat.le_of_ble_eq_true rfl) dX2_tally_98 (fun H locs hP hD hS => ?_)
                    have hP : va_P (dC, dI) vwCl (wC cI cZ h F2 (va_up V2 12 ((V2 12) + 1))) H := hP
                    have hD : va_D A (wC cI cZ h F2 (va_up V2 12 ((V2 12) + 1))) := hD
                    refine lv_aload_n hx hb dX2_tally_101 rfl (lv_at hl 0 rfl) ?_
                    refine va_get (D := (dC, dI)) (ci := 2) (v := .ref (h 30)) (C := RX2) (T := TX2) (N := 5) hx hb hts hin_X2 hown hK hP 4 rfl rfl 4 (by decide) hw0 (fun _ h9 => h9) rfl dX2_tally_102 ?_
                    refine lv_iload_n hx hb dX2_tally_105 rfl (lv_at hl 2 rfl) ?_
                    refine lv_dup2_11 hx hb dX2_tally_106 rfl rfl ?_
                    refine va_iald hx hb hK hP 30 0 rfl rfl (vp_in_nI (n := k) (N := 40) (by omega) (by decide)) dX2_tally_107 ?_
                    refine lv_topi (fun x_44 ex_44 => ?_)
                    rw [nI_clamp (n := k) (by omega)] at ex_44
                    refine lv_iconst (v := 1) hx hb dX2_tally_108 (by decide) ?_
                    refine lv_iadd hx hb dX2_tally_109 ?_
                    refine va_iast hx hb hK hP hD hS 30 0 rfl rfl (vp_in_nI (n := k) (N := 40) (by omega) (by decide)) dX2_tally_110 (fun H locs hP hD hS => ?_)
                    obtain ⟨F_45, eF_45⟩ : ∃ z : Nat → Nat → Int32, z = va_up F2 30 (upd (F2 30) (nI k).toNatClampNeg (x_44 + 1)) := ⟨_, rfl⟩
                    have hP : va_P (dC, dI) vwCl (wC cI cZ h F_45 (va_up V2 12 ((V2 12) + 1))) H := by rw [eF_45]; exact hP
                    have hD : va_D A (wC cI cZ h F_45 (va_up V2 12 ((V2 12) + 1))) := by rw [eF_45]; exact hD
                    refine lv_aload_n hx hb dX2_tally_111 rfl (lv_at hl 0 rfl) ?_
                    refine va_get (D := (dC, dI)) (ci := 2) (v := .ref (h 30)) (C := RX2) (T := TX2) (N := 5) hx hb hts hin_X2 hown hK hP 4 rfl rfl 4 (by decide) hw0 (fun _ h9 => h9) rfl dX2_tally_112 ?_
                    refine lv_iload_n hx hb dX2_tally_115 rfl (lv_at hl 3 rfl) ?_
                    refine lv_dup2_11 hx hb dX2_tally_116 rfl rfl ?_
                    refine va_iald hx hb hK hP 30 0 rfl rfl (vp_in_nI (n := q) (N := 40) (by omega) (by decide)) dX2_tally_117 ?_
                    refine lv_topi (fun x_46 ex_46 => ?_)
                    rw [nI_clamp (n := q) (by omega)] at ex_46
                    refine lv_iconst (v := 1) hx hb dX2_tally_118 (by decide) ?_
                    refine lv_iadd hx hb dX2_tally_119 ?_
                    refine va_iast hx hb hK hP hD hS 30 0 rfl rfl (vp_in_nI (n := q) (N := 40) (by omega) (by decide)) dX2_tally_120 (fun H locs hP hD hS => ?_)
                    obtain ⟨F_47, eF_47⟩ : ∃ z : Nat → Nat → Int32, z = va_up F_45 30 (upd (F_45 30) (nI q).toNatClampNeg (x_46 + 1)) := ⟨_, rfl⟩
                    have hP : va_P (dC, dI) vwCl (wC cI cZ h F_47 (va_up V2 12 ((V2 12) + 1))) H := by rw [eF_47]; exact hP
                    have hD : va_D A (wC cI cZ h F_47 (va_up V2 12 ((V2 12) + 1))) := by rw [eF_47]; exact hD
                    refine lv_iinc (v := nI (q + 1)) (lv' := [(3, .int (nI (q + 1))), (0, .ref (h 4)), (1, .int (nI n0)), (2, .int (nI k))]) hx hb dX2_tally_121 hl (k := 3) rfl (nI_1 _) (by decide) rfl (fun ls hl => ?_)
                    refine lv_goto (tgt := 66) hx hb dX2_tally_124 (by decide) ?_
                    exact ih66 (q + 1) F_47 (va_up V2 12 ((V2 12) + 1)) (by omega) (fun j hj => ((va_ne eF_47 (fun h => hj (by rw [h]; decide))).trans ((va_ne eF_45 (fun h => hj (by rw [h]; decide))).trans (hfr2 j hj)))) (fun j hj => by show (va_up V2 12 ((V2 12) + 1)) j = V j; simp only [va_up, if_neg hj]; exact hvr2 j hj) (by omega) H locs ls hP hD hS (lv_sub hl [1, 2, 3, 0] rfl)
            exact loop66 _ 0 F_39 (va_up V1 12 ((V1 12) + 1)) (by omega) (fun j hj => ((va_ne eF_39 (fun h => hj (by rw [h]; decide))).trans (hfr j hj))) (fun j hj => by show (va_up V1 12 ((V1 12) + 1)) j = V j; simp only [va_up, if_neg hj]; exact hvr j hj) (Nat.lt_succ_self _) H locs ls hP hD hS (lv_sub hl [1, 2, 3, 0] rfl)
    exact loop26 _ 0 F_3 (va_up V 12 1) (by omega) (fun j hj => (va_ne eF_3 (fun h => hj (by rw [h]; decide)))) (fun j hj => by simp only [va_up, if_neg hj]) (Nat.lt_succ_self _) H locs ls hP hD hS (lv_sub hl [1, 2, 0] rfl)
def rm_X2_setsOf : Room := { frames := 2, cells := 0, slots := 0, locals := 46 }
set_option maxHeartbeats 4000000 in
set_option maxRecDepth 100000 in
theorem c_X2_setsOf (l : Launch) (dC : Nat → ClassId) (dI : Nat → Nat → Nat) (cI cZ cJ : ClassId) (h : Nat → Nat) (F : Nat → Nat → Int32) (V : Nat → Int32)  (n0 : Nat) (hn0 : n0 ≤ 40)   : CtI l (dC, dI) vwCl (tys3 cI cZ cJ) yX2_setsOf wsX2_setsOf rm_X2_setsOf [.ref (h 4), .int (nI n0)] (wC cI cZ h F V) (S := (Nat → Nat → Int32) × (Nat → Int32)) (fun _ u => (∀ j, j ∉ ([30] : List Nat) → u.1 j = F j) ∧ ∀ j, j ≠ 12 → u.2 j = V j) (fun u => wC cI cZ h u.1 u.2) 0 0 := by
  refine ct_I (cc := cX2_setsOf) (maxL := 2) (ty := .int) (own := RX2) (by decide) rfl rfl (Nat.le_of_ble_eq_true rfl) (lv := [(0, .ref (h 4)), (1, .int (nI n0))]) rfl ?_
  intro p e s m args below meth c A Q ls fx hK hP hD hA hl hret
  obtain ⟨hx, hb, hml, hown, hts⟩ := id fx
  have hS : va_S A s.heap s.heap [] := va_S.rf
  have hw0 := hts (.fieldLink RX2 47 "MirrorTower$Shots" "sets" "I") (by decide +kernel)
  have hin_X2 : ∀ w ∈ u_ws RX2 TX2 5, w ∈ wsX2_setsOf := by decide +kernel
  obtain ⟨H, hH⟩ : ∃ H, H = s.heap := ⟨_, rfl⟩
  rw [← hH] at hP ⊢
  have hS : va_S A s.heap H [] := by rw [hH]; exact hS
  generalize ([] : List Loc) = locs at hS ⊢
  refine lv_aload_n hx hb dX2_setsOf_0 rfl (lv_at hl 0 rfl) ?_
  refine lv_iload_n hx hb dX2_setsOf_1 rfl (lv_at hl 1 rfl) ?_
  refine cw_Vv (As := [.int (nI n0)]) (rest := []) (c_X2_tally l dC dI cI cZ cJ h F V n0 (by omega)) fx (cwV 1 hts gX2_setsOf_X2_tally rfl rfl rfl (by decide +kernel) ⟨Nat.le_of_ble_eq_true rfl, Nat.le_of_ble_eq_true rfl⟩) hK hP hD hS hA 4 rfl rfl rfl rfl hl.1 rfl (Nat.le_of_ble_eq_true rfl) dX2_setsOf_2 ⟨Nat.le_of_ble_eq_true rfl, Nat.le_of_ble_eq_true rfl⟩ (fun u_2 H locs hw_3 hP hD hS => ?_)
  obtain ⟨F_4, V_5⟩ := u_2
  have hf_6 : ∀ j, j ∉ ([30] : List Nat) → F_4 j = F j := hw_3.1
  have hv_7 : ∀ j, j ≠ 12 → V_5 j = V j := hw_3.2
  have hP : va_P (dC, dI) vwCl (wC cI cZ h F_4 V_5) H := hP
  have hD : va_D A (wC cI cZ h F_4 V_5) := hD
  refine lv_aload_n hx hb dX2_setsOf_5 rfl (lv_at hl 0 rfl) ?_
  refine va_get (D := (dC, dI)) (ci := 2) (v := .int (V_5 12)) (C := RX2) (T := TX2) (N := 5) hx hb hts hin_X2 hown hK hP 4 rfl rfl 3 (by decide) hw0 (fun _ h9 => h9) rfl dX2_setsOf_6 ?_
  exact hret (V_5 12) (F_4, V_5) H locs 9 ls rfl dX2_setsOf_9 (⟨fun j hj => (hf_6 j (fun h => hj ((by decide : ∀ x ∈ ([30] : List Nat), x ∈ ([30] : List Nat)) j h))), hv_7⟩) (hP) (hD) hS
def rm_X2_isSure : Room := { frames := 0, cells := 0, slots := 0, locals := 0 }
set_option maxHeartbeats 4000000 in
set_option maxRecDepth 100000 in
theorem c_X2_isSure (l : Launch) (dC : Nat → ClassId) (dI : Nat → Nat → Nat) (cI cZ cJ : ClassId) (h : Nat → Nat) (F : Nat → Nat → Int32) (V : Nat → Int32)  (k0 : Nat) (hk0 : k0 < 40)   : CtI l (dC, dI) vwCl (tys3 cI cZ cJ) yX2_isSure wsX2_isSure rm_X2_isSure [.ref (h 4), .int (nI k0)] (wC cI cZ h F V) (S := Unit) (fun r _ => r = 0 ∨ r = 1) (fun _ => wC cI cZ h F V) 0 0 := by
  refine ct_I (cc := cX2_isSure) (maxL := 2) (ty := .boolean) (own := RX2) (by decide) rfl rfl (Nat.le_of_ble_eq_true rfl) (lv := [(0, .ref (h 4)), (1, .int (nI k0))]) rfl ?_
  intro p e s m args below meth c A Q ls fx hK hP hD hA hl hret
  obtain ⟨hx, hb, hml, hown, hts⟩ := id fx
  have hS : va_S A s.heap s.heap [] := va_S.rf
  have hw0 := hts (.fieldLink RX2 47 "MirrorTower$Shots" "sets" "I") (by decide +kernel)
  have hin_X2 : ∀ w ∈ u_ws RX2 TX2 5, w ∈ wsX2_isSure := by decide +kernel
  have hw2 := hts (.fieldLink RX2 15 "MirrorTower$Shots" "setsWith" "[I") (by decide +kernel)
  obtain ⟨H, hH⟩ : ∃ H, H = s.heap := ⟨_, rfl⟩
  rw [← hH] at hP ⊢
  have hS : va_S A s.heap H [] := by rw [hH]; exact hS
  generalize ([] : List Loc) = locs at hS ⊢
  refine lv_aload_n hx hb dX2_isSure_0 rfl (lv_at hl 0 rfl) ?_
  refine va_get (D := (dC, dI)) (ci := 2) (v := .int (V 12)) (C := RX2) (T := TX2) (N := 5) hx hb hts hin_X2 hown hK hP 4 rfl rfl 3 (by decide) hw0 (fun _ h9 => h9) rfl dX2_isSure_1 ?_
  refine lv_if_le (tgt := 33) hx hb dX2_isSure_4 (by decide) (fun c_1 => ?_) (fun c_1 => ?_)
  · have c_1 : ltI 0 (V 12) = false := decide_eq_false (Int32.not_lt.mpr c_1)
    refine lv_iconst (v := 0) hx hb dX2_isSure_33 (by decide) ?_
    exact hret 0 () H locs 34 ls rfl dX2_isSure_34 (Or.inl rfl) (hP) (hD) hS
  · have c_1 : ltI 0 (V 12) = true := decide_eq_true (Int32.not_le.mp c_1)
    refine lv_aload_n hx hb dX2_isSure_7 rfl (lv_at hl 0 rfl) ?_
    refine va_get (D := (dC, dI)) (ci := 2) (v := .ref (h 30)) (C := RX2) (T := TX2) (N := 5) hx hb hts hin_X2 hown hK hP 4 rfl rfl 4 (by decide) hw2 (fun _ h9 => h9) rfl dX2_isSure_8 ?_
    refine lv_iload_n hx hb dX2_isSure_11 rfl (lv_at hl 1 rfl) ?_
    refine va_iald hx hb hK hP 30 0 rfl rfl (vp_in_nI (n := k0) (N := 40) (by omega) (by decide)) dX2_isSure_12 ?_
    refine lv_topi (fun x_2 ex_2 => ?_)
    rw [nI_clamp (n := k0) (by omega)] at ex_2
    refine lv_if_eq (tgt := 29) hx hb dX2_isSure_13 (by decide) (fun c_3 => ?_) (fun c_3 => ?_)
    · have c_3 : eqI x_2 0 = true := decide_eq_true c_3
      refine lv_iconst (v := 1) hx hb dX2_isSure_29 (by decide) ?_
      refine lv_goto (tgt := 34) hx hb dX2_isSure_30 (by decide) ?_
      exact hret 1 () H locs 34 ls rfl dX2_isSure_34 (Or.inr rfl) (hP) (hD) hS
    · have c_3 : eqI x_2 0 = false := decide_eq_false c_3
      refine lv_aload_n hx hb dX2_isSure_16 rfl (lv_at hl 0 rfl) ?_
      refine va_get (D := (dC, dI)) (ci := 2) (v := .ref (h 30)) (C := RX2) (T := TX2) (N := 5) hx hb hts hin_X2 hown hK hP 4 rfl rfl 4 (by decide) hw2 (fun _ h9 => h9) rfl dX2_isSure_17 ?_
      refine lv_iload_n hx hb dX2_isSure_20 rfl (lv_at hl 1 rfl) ?_
      refine va_iald hx hb hK hP 30 0 rfl rfl (vp_in_nI (n := k0) (N := 40) (by omega) (by decide)) dX2_isSure_21 ?_
      refine lv_topi (fun x_4 ex_4 => ?_)
      rw [nI_clamp (n := k0) (by omega)] at ex_4
      refine lv_aload_n hx hb dX2_isSure_22 rfl (lv_at hl 0 rfl) ?_
      refine va_get (D := (dC, dI)) (ci := 2) (v := .int (V 12)) (C := RX2) (T := TX2) (N := 5) hx hb hts hin_X2 hown hK hP 4 rfl rfl 3 (by decide) hw0 (fun _ h9 => h9) rfl dX2_isSure_23 ?_
      refine lv_icmp_ne (tgt := 33) hx hb dX2_isSure_26 (by decide) (fun c_5 => ?_) (fun c_5 => ?_)
      · have c_5 : eqI x_4 (V 12) = false := decide_eq_false c_5
        refine lv_iconst (v := 0) hx hb dX2_isSure_33 (by decide) ?_
        exact hret 0 () H locs 34 ls rfl dX2_isSure_34 (Or.inl rfl) (hP) (hD) hS
      · have c_5 : eqI x_4 (V 12) = true := decide_eq_true c_5
        refine lv_iconst (v := 1) hx hb dX2_isSure_29 (by decide) ?_
        refine lv_goto (tgt := 34) hx hb dX2_isSure_30 (by decide) ?_
        exact hret 1 () H locs 34 ls rfl dX2_isSure_34 (Or.inr rfl) (hP) (hD) hS
def rm_X2_verdictOn : Room := { frames := 2, cells := 0, slots := 0, locals := 46 }
set_option maxHeartbeats 4000000 in
set_option maxRecDepth 100000 in
theorem c_X2_verdictOn (l : Launch) (dC : Nat → ClassId) (dI : Nat → Nat → Nat) (cI cZ cJ : ClassId) (h : Nat → Nat) (F : Nat → Nat → Int32) (V : Nat → Int32)  (k0 n0 : Nat) (hk0 : k0 < 40) (hn0 : n0 ≤ 40)   : CtI l (dC, dI) vwCl (tys3 cI cZ cJ) yX2_verdictOn wsX2_verdictOn rm_X2_verdictOn [.ref (h 4), .int (nI k0), .int (nI n0)] (wC cI cZ h F V) (S := (Nat → Nat → Int32) × (Nat → Int32)) (fun _ u => (∀ j, j ∉ ([30] : List Nat) → u.1 j = F j) ∧ ∀ j, j ≠ 12 → u.2 j = V j) (fun u => wC cI cZ h u.1 u.2) 0 0 := by
  refine ct_I (cc := cX2_verdictOn) (maxL := 3) (ty := .int) (own := RX2) (by decide) rfl rfl (Nat.le_of_ble_eq_true rfl) (lv := [(0, .ref (h 4)), (1, .int (nI k0)), (2, .int (nI n0))]) rfl ?_
  intro p e s m args below meth c A Q ls fx hK hP hD hA hl hret
  obtain ⟨hx, hb, hml, hown, hts⟩ := id fx
  have hS : va_S A s.heap s.heap [] := va_S.rf
  have hw0 := hts (.fieldLink RX2 15 "MirrorTower$Shots" "setsWith" "[I") (by decide +kernel)
  have hin_X2 : ∀ w ∈ u_ws RX2 TX2 5, w ∈ wsX2_verdictOn := by decide +kernel
  obtain ⟨H, hH⟩ : ∃ H, H = s.heap := ⟨_, rfl⟩
  rw [← hH] at hP ⊢
  have hS : va_S A s.heap H [] := by rw [hH]; exact hS
  generalize ([] : List Loc) = locs at hS ⊢
  refine lv_aload_n hx hb dX2_verdictOn_0 rfl (lv_at hl 0 rfl) ?_
  refine lv_iload_n hx hb dX2_verdictOn_1 rfl (lv_at hl 2 rfl) ?_
  refine cw_Vv (As := [.int (nI n0)]) (rest := []) (c_X2_tally l dC dI cI cZ cJ h F V n0 (by omega)) fx (cwV 1 hts gX2_verdictOn_X2_tally rfl rfl rfl (by decide +kernel) ⟨Nat.le_of_ble_eq_true rfl, Nat.le_of_ble_eq_true rfl⟩) hK hP hD hS hA 4 rfl rfl rfl rfl hl.1 rfl (Nat.le_of_ble_eq_true rfl) dX2_verdictOn_2 ⟨Nat.le_of_ble_eq_true rfl, Nat.le_of_ble_eq_true rfl⟩ (fun u_2 H locs hw_3 hP hD hS => ?_)
  obtain ⟨F_4, V_5⟩ := u_2
  have hf_6 : ∀ j, j ∉ ([30] : List Nat) → F_4 j = F j := hw_3.1
  have hv_7 : ∀ j, j ≠ 12 → V_5 j = V j := hw_3.2
  have hP : va_P (dC, dI) vwCl (wC cI cZ h F_4 V_5) H := hP
  have hD : va_D A (wC cI cZ h F_4 V_5) := hD
  refine lv_aload_n hx hb dX2_verdictOn_5 rfl (lv_at hl 0 rfl) ?_
  refine lv_iload_n hx hb dX2_verdictOn_6 rfl (lv_at hl 1 rfl) ?_
  refine cw_Vi (As := [.int (nI k0)]) (rest := []) (c_X2_isSure l dC dI cI cZ cJ h F_4 V_5 k0 (by omega)) fx (cwV 1 hts gX2_verdictOn_X2_isSure rfl rfl rfl (by decide +kernel) ⟨Nat.le_of_ble_eq_true rfl, Nat.le_of_ble_eq_true rfl⟩) hK hP hD hS hA 4 rfl rfl rfl rfl hl.1 rfl (Nat.le_of_ble_eq_true rfl) dX2_verdictOn_7 ⟨Nat.le_of_ble_eq_true rfl, Nat.le_of_ble_eq_true rfl⟩ (fun r_8 u_9 H locs hw_10 hP hD hS => ?_)
  have hP : va_P (dC, dI) vwCl (wC cI cZ h F_4 V_5) H := hP
  have hD : va_D A (wC cI cZ h F_4 V_5) := hD
  refine lv_if_ne (tgt := 15) hx hb dX2_verdictOn_10 (by decide) (fun c_11 => ?_) (fun c_11 => ?_)
  · have c_11 : eqI r_8 0 = false := decide_eq_false c_11
    refine lv_aload_n hx hb dX2_verdictOn_15 rfl (lv_at hl 0 rfl) ?_
    refine va_get (D := (dC, dI)) (ci := 2) (v := .ref (h 30)) (C := RX2) (T := TX2) (N := 5) hx hb hts hin_X2 hown hK hP 4 rfl rfl 4 (by decide) hw0 (fun _ h9 => h9) rfl dX2_verdictOn_16 ?_
    refine lv_iload_n hx hb dX2_verdictOn_19 rfl (lv_at hl 1 rfl) ?_
    refine va_iald hx hb hK hP 30 0 rfl rfl (vp_in_nI (n := k0) (N := 40) (by omega) (by decide)) dX2_verdictOn_20 ?_
    refine lv_topi (fun x_12 ex_12 => ?_)
    rw [nI_clamp (n := k0) (by omega)] at ex_12
    refine lv_if_ne (tgt := 28) hx hb dX2_verdictOn_21 (by decide) (fun c_13 => ?_) (fun c_13 => ?_)
    · have c_13 : eqI x_12 0 = false := decide_eq_false c_13
      refine lv_iconst (v := 1) hx hb dX2_verdictOn_28 (by decide) ?_
      exact hret 1 (F_4, V_5) H locs 29 ls rfl dX2_verdictOn_29 (⟨fun j hj => (hf_6 j (fun h => hj ((by decide : ∀ x ∈ ([30] : List Nat), x ∈ ([30] : List Nat)) j h))), hv_7⟩) (hP) (hD) hS
    · have c_13 : eqI x_12 0 = true := decide_eq_true c_13
      refine lv_iconst (v := 0) hx hb dX2_verdictOn_24 (by decide) ?_
      refine lv_goto (tgt := 29) hx hb dX2_verdictOn_25 (by decide) ?_
      exact hret 0 (F_4, V_5) H locs 29 ls rfl dX2_verdictOn_29 (⟨fun j hj => (hf_6 j (fun h => hj ((by decide : ∀ x ∈ ([30] : List Nat), x ∈ ([30] : List Nat)) j h))), hv_7⟩) (hP) (hD) hS
  · have c_11 : eqI r_8 0 = true := decide_eq_true c_11
    refine lv_iconst (v := 2) hx hb dX2_verdictOn_13 (by decide) ?_
    exact hret 2 (F_4, V_5) H locs 14 ls rfl dX2_verdictOn_14 (⟨fun j hj => (hf_6 j (fun h => hj ((by decide : ∀ x ∈ ([30] : List Nat), x ∈ ([30] : List Nat)) j h))), hv_7⟩) (hP) (hD) hS
def rm_X2_unsureOf : Room := { frames := 2, cells := 0, slots := 0, locals := 46 }
set_option maxHeartbeats 4000000 in
set_option maxRecDepth 100000 in
theorem c_X2_unsureOf (l : Launch) (dC : Nat → ClassId) (dI : Nat → Nat → Nat) (cI cZ cJ : ClassId) (h : Nat → Nat) (F : Nat → Nat → Int32) (V : Nat → Int32)  (n0 : Nat) (hn0 : n0 ≤ 40)   : CtI l (dC, dI) vwCl (tys3 cI cZ cJ) yX2_unsureOf wsX2_unsureOf rm_X2_unsureOf [.ref (h 4), .int (nI n0)] (wC cI cZ h F V) (S := (Nat → Nat → Int32) × (Nat → Int32)) (fun _ u => (∀ j, j ∉ ([30] : List Nat) → u.1 j = F j) ∧ ∀ j, j ≠ 12 → u.2 j = V j) (fun u => wC cI cZ h u.1 u.2) 0 0 := by
  refine ct_I (cc := cX2_unsureOf) (maxL := 4) (ty := .int) (own := RX2) (by decide) rfl rfl (Nat.le_of_ble_eq_true rfl) (lv := [(0, .ref (h 4)), (1, .int (nI n0))]) rfl ?_
  intro p e s m args below meth c A Q ls fx hK hP hD hA hl hret
  obtain ⟨hx, hb, hml, hown, hts⟩ := id fx
  have hS : va_S A s.heap s.heap [] := va_S.rf
  obtain ⟨H, hH⟩ : ∃ H, H = s.heap := ⟨_, rfl⟩
  rw [← hH] at hP ⊢
  have hS : va_S A s.heap H [] := by rw [hH]; exact hS
  generalize ([] : List Loc) = locs at hS ⊢
  refine lv_aload_n hx hb dX2_unsureOf_0 rfl (lv_at hl 0 rfl) ?_
  refine lv_iload_n hx hb dX2_unsureOf_1 rfl (lv_at hl 1 rfl) ?_
  refine cw_Vv (As := [.int (nI n0)]) (rest := []) (c_X2_tally l dC dI cI cZ cJ h F V n0 (by omega)) fx (cwV 1 hts gX2_unsureOf_X2_tally rfl rfl rfl (by decide +kernel) ⟨Nat.le_of_ble_eq_true rfl, Nat.le_of_ble_eq_true rfl⟩) hK hP hD hS hA 4 rfl rfl rfl rfl hl.1 rfl (Nat.le_of_ble_eq_true rfl) dX2_unsureOf_2 ⟨Nat.le_of_ble_eq_true rfl, Nat.le_of_ble_eq_true rfl⟩ (fun u_2 H locs hw_3 hP hD hS => ?_)
  obtain ⟨F_4, V_5⟩ := u_2
  have hf_6 : ∀ j, j ∉ ([30] : List Nat) → F_4 j = F j := hw_3.1
  have hv_7 : ∀ j, j ≠ 12 → V_5 j = V j := hw_3.2
  have hP : va_P (dC, dI) vwCl (wC cI cZ h F_4 V_5) H := hP
  have hD : va_D A (wC cI cZ h F_4 V_5) := hD
  refine lv_iconst (v := 0) hx hb dX2_unsureOf_5 (by decide) ?_
  refine lv_istore_n (lv' := [(2, .int 0), (0, .ref (h 4)), (1, .int (nI n0))]) hx hb dX2_unsureOf_6 rfl hl (by decide) rfl (fun ls hl => ?_)
  refine lv_iconst (v := 0) hx hb dX2_unsureOf_7 (by decide) ?_
  refine lv_istore_n (lv' := [(3, .int 0), (2, .int 0), (0, .ref (h 4)), (1, .int (nI n0))]) hx hb dX2_unsureOf_8 rfl hl (by decide) rfl (fun ls hl => ?_)
  have loop9 : ∀ (fu : Nat) (x : Int32) (k : Nat), (k ≤ n0) → (n0 - k) < fu → ∀ (H : Heap) (locs : List Loc) (ls : Array Slot), va_P (dC, dI) vwCl (wC cI cZ h F_4 V_5) H → va_D A (wC cI cZ h F_4 V_5) → va_S A s.heap H locs → lv_has ls 4 [(0, .ref (h 4)), (1, .int (nI n0)), (2, .int x), (3, .int (nI k))] → W p l e rm_X2_unsureOf s m args below meth c H locs 0 0 Q (F0 m 9 ls []) := by
    intro fu
    induction fu with
    | zero => intro x k hk hn_; exact absurd hn_ (Nat.not_lt_zero _)
    | succ fu ih9 =>
      intro x k hk hn_ H locs ls hP hD hS hl
      refine lv_iload_n hx hb dX2_unsureOf_9 rfl (lv_at hl 3 rfl) ?_
      refine lv_iload_n hx hb dX2_unsureOf_10 rfl (lv_at hl 1 rfl) ?_
      refine lv_icmp_ge (tgt := 31) hx hb dX2_unsureOf_11 (by decide) (fun c_8 => ?_) (fun c_8 => ?_)
      · have c_8 : n0 ≤ k := (nI_leI (a := n0) (b := k) (by omega) (by omega)).mp c_8
        refine lv_iload_n hx hb dX2_unsureOf_31 rfl (lv_at hl 2 rfl) ?_
        exact hret x (F_4, V_5) H locs 32 ls rfl dX2_unsureOf_32 (⟨fun j hj => (hf_6 j (fun h => hj ((by decide : ∀ x ∈ ([30] : List Nat), x ∈ ([30] : List Nat)) j h))), hv_7⟩) (hP) (hD) hS
      · have c_8 : ¬ n0 ≤ k := fun h => c_8 ((nI_leI (a := n0) (b := k) (by omega) (by omega)).mpr h)
        refine lv_aload_n hx hb dX2_unsureOf_14 rfl (lv_at hl 0 rfl) ?_
        refine lv_iload_n hx hb dX2_unsureOf_15 rfl (lv_at hl 3 rfl) ?_
        refine cw_Vi (As := [.int (nI k)]) (rest := []) (c_X2_isSure l dC dI cI cZ cJ h F_4 V_5 k (by omega)) fx (cwV 1 hts gX2_unsureOf_X2_isSure rfl rfl rfl (by decide +kernel) ⟨Nat.le_of_ble_eq_true rfl, Nat.le_of_ble_eq_true rfl⟩) hK hP hD hS hA 4 rfl rfl rfl rfl hl.1 rfl (Nat.le_of_ble_eq_true rfl) dX2_unsureOf_16 ⟨Nat.le_of_ble_eq_true rfl, Nat.le_of_ble_eq_true rfl⟩ (fun r_9 u_10 H locs hw_11 hP hD hS => ?_)
        have hP : va_P (dC, dI) vwCl (wC cI cZ h F_4 V_5) H := hP
        have hD : va_D A (wC cI cZ h F_4 V_5) := hD
        refine lv_if_ne (tgt := 25) hx hb dX2_unsureOf_19 (by decide) (fun c_12 => ?_) (fun c_12 => ?_)
        · have c_12 : eqI r_9 0 = false := decide_eq_false c_12
          refine lv_iinc (v := nI (k + 1)) (lv' := [(3, .int (nI (k + 1))), (0, .ref (h 4)), (1, .int (nI n0)), (2, .int x)]) hx hb dX2_unsureOf_25 hl (k := 3) rfl (nI_1 _) (by decide) rfl (fun ls hl => ?_)
          refine lv_goto (tgt := 9) hx hb dX2_unsureOf_28 (by decide) ?_
          exact ih9 x (k + 1) (by omega) (by omega) H locs ls hP hD hS (lv_sub hl [1, 2, 3, 0] rfl)
        · have c_12 : eqI r_9 0 = true := decide_eq_true c_12
          obtain ⟨x_13, ex_13⟩ : ∃ z : Int32, z = x + 1 := ⟨_, rfl⟩
          refine lv_iinc (v := x_13) (lv' := [(2, .int x_13), (0, .ref (h 4)), (1, .int (nI n0)), (3, .int (nI k))]) hx hb dX2_unsureOf_22 hl (k := 2) rfl (by rw [ex_13]; rfl) (by decide) rfl (fun ls hl => ?_)
          refine lv_iinc (v := nI (k + 1)) (lv' := [(3, .int (nI (k + 1))), (2, .int x_13), (0, .ref (h 4)), (1, .int (nI n0))]) hx hb dX2_unsureOf_25 hl (k := 3) rfl (nI_1 _) (by decide) rfl (fun ls hl => ?_)
          refine lv_goto (tgt := 9) hx hb dX2_unsureOf_28 (by decide) ?_
          exact ih9 x_13 (k + 1) (by omega) (by omega) H locs ls hP hD hS (lv_sub hl [2, 3, 1, 0] rfl)
  exact loop9 _ 0 0 (by omega) (Nat.lt_succ_self _) H locs ls hP hD hS (lv_sub hl [2, 3, 1, 0] rfl)
def rm_J13_bitCount_95d88 : Room := { frames := 0, cells := 0, slots := 0, locals := 0 }
set_option maxHeartbeats 4000000 in
set_option maxRecDepth 100000 in
theorem c_J13_bitCount_95d88 (l : Launch) (dC : Nat → ClassId) (dI : Nat → Nat → Nat) (cI cZ cJ : ClassId) (w : va_W)  (q0 : Int64)   : CtI l (dC, dI) vwCl (tys3 cI cZ cJ) yJ13_bitCount_95d88 wsJ13_bitCount_95d88 rm_J13_bitCount_95d88 [.long q0] (w) (S := Unit) (fun _ _ => True) (fun _ => w) 0 0 := by
  refine ct_I (cc := cJ13_bitCount_95d88) (maxL := 2) (ty := .int) (own := RJ13) (by decide) rfl rfl (Nat.le_of_ble_eq_true rfl) (lv := [(0, .long q0)]) rfl ?_
  intro p e s m args below meth c A Q ls fx hK hP hD hA hl hret
  obtain ⟨hx, hb, hml, hown, hts⟩ := id fx
  have hS : va_S A s.heap s.heap [] := va_S.rf
  have hw0 := hts (.constantLong RJ13 314 (6148914691236517205)) (by decide +kernel)
  have hw1 := hts (.constantLong RJ13 316 (3689348814741910323)) (by decide +kernel)
  have hw2 := hts (.constantLong RJ13 318 (1085102592571150095)) (by decide +kernel)
  obtain ⟨H, hH⟩ : ∃ H, H = s.heap := ⟨_, rfl⟩
  rw [← hH] at hP ⊢
  have hS : va_S A s.heap H [] := by rw [hH]; exact hS
  generalize ([] : List Loc) = locs at hS ⊢
  refine lv_lload_n hx hb dJ13_bitCount_95d88_0 rfl (lv_at hl 0 rfl) ?_
  refine lv_lload_n hx hb dJ13_bitCount_95d88_1 rfl (lv_at hl 0 rfl) ?_
  refine lv_iconst (v := 1) hx hb dJ13_bitCount_95d88_2 (by decide) ?_
  refine lv_lushr hx hb dJ13_bitCount_95d88_3 rfl ?_
  refine lv_topl (fun z_1 ez_1 => ?_)
  refine lv_ldc2 hx hb hown hw0 dJ13_bitCount_95d88_4 ?_
  refine lv_land hx hb dJ13_bitCount_95d88_7 ?_
  refine lv_topl (fun z_2 ez_2 => ?_)
  refine lv_lsub hx hb dJ13_bitCount_95d88_8 ?_
  refine lv_topl (fun z_3 ez_3 => ?_)
  refine lv_lstore_n (lv' := [(0, .long z_3)]) hx hb dJ13_bitCount_95d88_9 rfl hl (by decide) rfl (fun ls hl => ?_)
  refine lv_lload_n hx hb dJ13_bitCount_95d88_10 rfl (lv_at hl 0 rfl) ?_
  refine lv_ldc2 hx hb hown hw1 dJ13_bitCount_95d88_11 ?_
  refine lv_land hx hb dJ13_bitCount_95d88_14 ?_
  refine lv_topl (fun z_4 ez_4 => ?_)
  refine lv_lload_n hx hb dJ13_bitCount_95d88_15 rfl (lv_at hl 0 rfl) ?_
  refine lv_iconst (v := 2) hx hb dJ13_bitCount_95d88_16 (by decide) ?_
  refine lv_lushr hx hb dJ13_bitCount_95d88_17 rfl ?_
  refine lv_topl (fun z_5 ez_5 => ?_)
  refine lv_ldc2 hx hb hown hw1 dJ13_bitCount_95d88_18 ?_
  refine lv_land hx hb dJ13_bitCount_95d88_21 ?_
  refine lv_topl (fun z_6 ez_6 => ?_)
  refine lv_ladd hx hb dJ13_bitCount_95d88_22 ?_
  refine lv_topl (fun z_7 ez_7 => ?_)
  refine lv_lstore_n (lv' := [(0, .long z_7)]) hx hb dJ13_bitCount_95d88_23 rfl hl (by decide) rfl (fun ls hl => ?_)
  refine lv_lload_n hx hb dJ13_bitCount_95d88_24 rfl (lv_at hl 0 rfl) ?_
  refine lv_lload_n hx hb dJ13_bitCount_95d88_25 rfl (lv_at hl 0 rfl) ?_
  refine lv_iconst (v := 4) hx hb dJ13_bitCount_95d88_26 (by decide) ?_
  refine lv_lushr hx hb dJ13_bitCount_95d88_27 rfl ?_
  refine lv_topl (fun z_8 ez_8 => ?_)
  refine lv_ladd hx hb dJ13_bitCount_95d88_28 ?_
  refine lv_topl (fun z_9 ez_9 => ?_)
  refine lv_ldc2 hx hb hown hw2 dJ13_bitCount_95d88_29 ?_
  refine lv_land hx hb dJ13_bitCount_95d88_32 ?_
  refine lv_topl (fun z_10 ez_10 => ?_)
  refine lv_lstore_n (lv' := [(0, .long z_10)]) hx hb dJ13_bitCount_95d88_33 rfl hl (by decide) rfl (fun ls hl => ?_)
  refine lv_lload_n hx hb dJ13_bitCount_95d88_34 rfl (lv_at hl 0 rfl) ?_
  refine lv_lload_n hx hb dJ13_bitCount_95d88_35 rfl (lv_at hl 0 rfl) ?_
  refine lv_bipush (v := 8) hx hb dJ13_bitCount_95d88_36 (by decide) ?_
  refine lv_lushr hx hb dJ13_bitCount_95d88_38 rfl ?_
  refine lv_topl (fun z_11 ez_11 => ?_)
  refine lv_ladd hx hb dJ13_bitCount_95d88_39 ?_
  refine lv_topl (fun z_12 ez_12 => ?_)
  refine lv_lstore_n (lv' := [(0, .long z_12)]) hx hb dJ13_bitCount_95d88_40 rfl hl (by decide) rfl (fun ls hl => ?_)
  refine lv_lload_n hx hb dJ13_bitCount_95d88_41 rfl (lv_at hl 0 rfl) ?_
  refine lv_lload_n hx hb dJ13_bitCount_95d88_42 rfl (lv_at hl 0 rfl) ?_
  refine lv_bipush (v := 16) hx hb dJ13_bitCount_95d88_43 (by decide) ?_
  refine lv_lushr hx hb dJ13_bitCount_95d88_45 rfl ?_
  refine lv_topl (fun z_13 ez_13 => ?_)
  refine lv_ladd hx hb dJ13_bitCount_95d88_46 ?_
  refine lv_topl (fun z_14 ez_14 => ?_)
  refine lv_lstore_n (lv' := [(0, .long z_14)]) hx hb dJ13_bitCount_95d88_47 rfl hl (by decide) rfl (fun ls hl => ?_)
  refine lv_lload_n hx hb dJ13_bitCount_95d88_48 rfl (lv_at hl 0 rfl) ?_
  refine lv_lload_n hx hb dJ13_bitCount_95d88_49 rfl (lv_at hl 0 rfl) ?_
  refine lv_bipush (v := 32) hx hb dJ13_bitCount_95d88_50 (by decide) ?_
  refine lv_lushr hx hb dJ13_bitCount_95d88_52 rfl ?_
  refine lv_topl (fun z_15 ez_15 => ?_)
  refine lv_ladd hx hb dJ13_bitCount_95d88_53 ?_
  refine lv_topl (fun z_16 ez_16 => ?_)
  refine lv_lstore_n (lv' := [(0, .long z_16)]) hx hb dJ13_bitCount_95d88_54 rfl hl (by decide) rfl (fun ls hl => ?_)
  refine lv_lload_n hx hb dJ13_bitCount_95d88_55 rfl (lv_at hl 0 rfl) ?_
  refine lv_l2i hx hb dJ13_bitCount_95d88_56 rfl ?_
  refine lv_bipush (v := 127) hx hb dJ13_bitCount_95d88_57 (by decide) ?_
  refine lv_iand hx hb dJ13_bitCount_95d88_59 ?_
  exact hret (z_16.toInt32 &&& 127) () H locs 60 ls rfl dJ13_bitCount_95d88_60 (trivial) (hP) (hD) hS
def rm_X2_note : Room := { frames := 1, cells := 0, slots := 0, locals := 21 }
set_option maxHeartbeats 4000000 in
set_option maxRecDepth 100000 in
theorem c_X2_note (l : Launch) (dC : Nat → ClassId) (dI : Nat → Nat → Nat) (cI cZ cJ : ClassId) (h : Nat → Nat) (F : Nat → Nat → Int32) (V : Nat → Int32) (sh : Nat) (hV11 : V 11 = nI sh) (bV11 : sh ≤ 12) (q0 : Int64) (p1 : Int32)   : CtI l (dC, dI) vwCl (tys3 cI cZ cJ) yX2_note wsX2_note rm_X2_note [.ref (h 4), .long q0, .int p1] (wC cI cZ h F V) (S := (Nat → Nat → Int32) × (Nat → Int32)) (fun r u => r = nI sh ∧ (∀ j, j ∉ ([29] : List Nat) → u.1 j = F j) ∧ (∀ j, j ≠ 10 → j ≠ 11 → u.2 j = V j) ∧ u.2 11 = nI (sh + 1)) (fun u => wC cI cZ h u.1 u.2) 0 0 := by
  refine ct_I (cc := cX2_note) (maxL := 6) (ty := .int) (own := RX2) (by decide) rfl rfl (Nat.le_of_ble_eq_true rfl) (lv := [(0, .ref (h 4)), (1, .long q0), (3, .int p1)]) rfl ?_
  intro p e s m args below meth c A Q ls fx hK hP hD hA hl hret
  obtain ⟨hx, hb, hml, hown, hts⟩ := id fx
  have hS : va_S A s.heap s.heap [] := va_S.rf
  have hw0 := hts (.fieldLink RX2 18 "MirrorTower$Shots" "size" "I") (by decide +kernel)
  have hin_X2 : ∀ w ∈ u_ws RX2 TX2 5, w ∈ wsX2_note := by decide +kernel
  have hw2 := hts (.fieldLink RX2 22 "MirrorTower$Shots" "missing" "I") (by decide +kernel)
  have hw3 := hts (.methodLink RX2 31 Lib.Math.min.name) (by decide +kernel)
  have hw4 := hts (.static Lib.Math.min.name) (by decide +kernel)
  have hw5 := hts (.initialized "java/lang/Math") (by decide +kernel)
  have hw6 := hts (.code Lib.Math.min.name Lib.Math.min.code 2 (some .int)) (by decide +kernel)
  have hw7 := hts (.fieldLink RX2 9 "MirrorTower$Shots" "marks" "[I") (by decide +kernel)
  obtain ⟨H, hH⟩ : ∃ H, H = s.heap := ⟨_, rfl⟩
  rw [← hH] at hP ⊢
  have hS : va_S A s.heap H [] := by rw [hH]; exact hS
  generalize ([] : List Loc) = locs at hS ⊢
  refine lv_iconst (v := 2) hx hb dX2_note_0 (by decide) ?_
  refine lv_aload_n hx hb dX2_note_1 rfl (lv_at hl 0 rfl) ?_
  refine va_get (D := (dC, dI)) (ci := 2) (v := .int (V 11)) (C := RX2) (T := TX2) (N := 5) hx hb hts hin_X2 hown hK hP 4 rfl rfl 2 (by decide) hw0 (fun _ h9 => h9) rfl dX2_note_2 ?_
  refine lv_topi (fun x_1 ex_1 => ?_)
  obtain rfl : x_1 = nI sh := ex_1.trans (hV11)
  refine lv_imul hx hb dX2_note_5 ?_
  refine lv_topi (fun x_2 ex_2 => ?_)
  obtain rfl : x_2 = nI (2 * sh) := ex_2.trans (pk_mul 2 sh)
  refine lv_istore (lv' := [(4, .int (nI (2 * sh))), (0, .ref (h 4)), (1, .long q0), (3, .int p1)]) hx hb dX2_note_6 hl (by decide) rfl (fun ls hl => ?_)
  refine lv_iconst (v := 0) hx hb dX2_note_8 (by decide) ?_
  refine lv_istore (lv' := [(5, .int 0), (4, .int (nI (2 * sh))), (0, .ref (h 4)), (1, .long q0), (3, .int p1)]) hx hb dX2_note_9 hl (by decide) rfl (fun ls hl => ?_)
  have loop11 : ∀ (fu : Nat) (k : Nat) (F1 : Nat → Nat → Int32), (k ≤ 40) → (∀ j, j ∉ ([29] : List Nat) → F1 j = F j) → (40 - k) < fu → ∀ (H : Heap) (locs : List Loc) (ls : Array Slot), va_P (dC, dI) vwCl (wC cI cZ h F1 V) H → va_D A (wC cI cZ h F1 V) → va_S A s.heap H locs → lv_has ls 6 [(0, .ref (h 4)), (1, .long q0), (3, .int p1), (4, .int (nI (2 * sh))), (5, .int (nI k))] → W p l e rm_X2_note s m args below meth c H locs 0 0 Q (F0 m 11 ls []) := by
    intro fu
    induction fu with
    | zero => intro k F1 hk hfr hn_; exact absurd hn_ (Nat.not_lt_zero _)
    | succ fu ih11 =>
      intro k F1 hk hfr hn_ H locs ls hP hD hS hl
      refine lv_iload hx hb dX2_note_11 (lv_at hl 4 rfl) ?_
      refine lv_bipush (v := 40) hx hb dX2_note_13 (by decide) ?_
      refine lv_icmp_ge (tgt := 44) hx hb dX2_note_15 (by decide) (fun c_3 => ?_) (fun c_3 => ?_)
      · have c_3 : 40 ≤ k := (nI_leI (a := 40) (b := k) (by omega) (by omega)).mp c_3
        refine lv_aload_n hx hb dX2_note_44 rfl (lv_at hl 0 rfl) ?_
        refine lv_dup hx hb dX2_note_45 rfl ?_
        refine va_get (D := (dC, dI)) (ci := 2) (v := .int (V 10)) (C := RX2) (T := TX2) (N := 5) hx hb hts hin_X2 hown hK hP 4 rfl rfl 1 (by decide) hw2 (fun _ h9 => h9) rfl dX2_note_46 ?_
        refine lv_iconst (v := 3) hx hb dX2_note_49 (by decide) ?_
        refine lv_lload_n hx hb dX2_note_50 rfl (lv_at hl 1 rfl) ?_
        refine cw_Si (As := [.long q0]) (rest := [.int 3, .int (V 10), .ref (h 4)]) (c_J13_bitCount_95d88 l dC dI cI cZ cJ (wC cI cZ h F1 V) q0) fx (va_cwS 1 hts gX2_note_J13_bitCount_95d88 rfl rfl rfl (by decide +kernel) ⟨Nat.le_of_ble_eq_true rfl, Nat.le_of_ble_eq_true rfl⟩) hK hP hD hS hA rfl hl.1 rfl (Nat.le_of_ble_eq_true rfl) dX2_note_51 ⟨Nat.le_of_ble_eq_true rfl, Nat.le_of_ble_eq_true rfl⟩ (fun r_4 u_5 H locs hw_6 hP hD hS => ?_)
        have hP : va_P (dC, dI) vwCl (wC cI cZ h F1 V) H := hP
        have hD : va_D A (wC cI cZ h F1 V) := hD
        refine lv_iload_n hx hb dX2_note_54 rfl (lv_at hl 2 rfl) ?_
        refine lv_isub hx hb dX2_note_55 ?_
        refine va_mmin hx hb (hml.trans hl.1.symm) hown hw3 hw4 hw5 hw6 (Nat.le_of_ble_eq_true rfl) (Nat.le_of_ble_eq_true rfl) (Nat.le_of_ble_eq_true rfl) (Nat.le_of_ble_eq_true rfl) dX2_note_56 ?_
        refine lv_topi (fun x_7 ex_7 => ?_)
        refine lv_iload hx hb dX2_note_59 (lv_at hl 3 rfl) ?_
        refine lv_ishl hx hb dX2_note_61 ?_
        refine lv_ior hx hb dX2_note_62 ?_
        refine lv_topi (fun x_8 ex_8 => ?_)
        refine va_put (D := (dC, dI)) (ci := 2) (v := .int x_8) (ty := .int) (C := RX2) (T := TX2) (N := 5) hx hb hts hin_X2 tyX2 tyX2_ok nmX2 hown hK hP hD hS 4 rfl rfl 1 (by decide) hw2 (fun _ h9 => h9) rfl (by decide +kernel) rfl rfl (Nat.le_of_ble_eq_true rfl) dX2_note_63 (fun H locs hP hD hS => ?_)
        have hP : va_P (dC, dI) vwCl (wC cI cZ h F1 (va_up V 10 x_8)) H := hP
        have hD : va_D A (wC cI cZ h F1 (va_up V 10 x_8)) := hD
        refine lv_aload_n hx hb dX2_note_66 rfl (lv_at hl 0 rfl) ?_
        refine lv_dup hx hb dX2_note_67 rfl ?_
        refine va_get (D := (dC, dI)) (ci := 2) (v := .int (V 11)) (C := RX2) (T := TX2) (N := 5) hx hb hts hin_X2 hown hK hP 4 rfl rfl 2 (by decide) hw0 (fun _ h9 => h9) rfl dX2_note_68 ?_
        refine lv_topi (fun x_9 ex_9 => ?_)
        obtain rfl : x_9 = nI sh := ex_9.trans (hV11)
        refine lv_iconst (v := 1) hx hb dX2_note_71 (by decide) ?_
        refine lv_iadd hx hb dX2_note_72 ?_
        refine lv_topi (fun x_10 ex_10 => ?_)
        obtain rfl : x_10 = nI (sh + 1) := ex_10.trans (nI_add sh 1)
        refine va_put (D := (dC, dI)) (ci := 2) (v := .int (nI (sh + 1))) (ty := .int) (C := RX2) (T := TX2) (N := 5) hx hb hts hin_X2 tyX2 tyX2_ok nmX2 hown hK hP hD hS 4 rfl rfl 2 (by decide) hw0 (fun _ h9 => h9) rfl (by decide +kernel) rfl rfl (Nat.le_of_ble_eq_true rfl) dX2_note_73 (fun H locs hP hD hS => ?_)
        have hP : va_P (dC, dI) vwCl (wC cI cZ h F1 (va_up (va_up V 10 x_8) 11 (nI (sh + 1)))) H := hP
        have hD : va_D A (wC cI cZ h F1 (va_up (va_up V 10 x_8) 11 (nI (sh + 1)))) := hD
        refine lv_aload_n hx hb dX2_note_76 rfl (lv_at hl 0 rfl) ?_
        refine va_get (D := (dC, dI)) (ci := 2) (v := .int (nI (sh + 1))) (C := RX2) (T := TX2) (N := 5) hx hb hts hin_X2 hown hK hP 4 rfl rfl 2 (by decide) hw0 (fun _ h9 => h9) rfl dX2_note_77 ?_
        refine lv_iconst (v := 1) hx hb dX2_note_80 (by decide) ?_
        refine lv_isub hx hb dX2_note_81 ?_
        refine lv_topi (fun x_11 ex_11 => ?_)
        obtain rfl : x_11 = nI ((sh + 1) - 1) := ex_11.trans (pk_sub (a := sh + 1) (b := 1) (by omega))
        exact hret (nI ((sh + 1) - 1)) (F1, va_up (va_up V 10 x_8) 11 (nI (sh + 1))) H locs 82 ls rfl dX2_note_82 (⟨rfl, hfr, fun j h1 h2 => by show (va_up (va_up V 10 x_8) 11 (nI (sh + 1))) j = V j; simp only [va_up, if_neg h1, if_neg h2], rfl⟩) (hP) (hD) hS
      · have c_3 : ¬ 40 ≤ k := fun h => c_3 ((nI_leI (a := 40) (b := k) (by omega) (by omega)).mpr h)
        refine lv_aload_n hx hb dX2_note_18 rfl (lv_at hl 0 rfl) ?_
        refine va_get (D := (dC, dI)) (ci := 2) (v := .ref (h 29)) (C := RX2) (T := TX2) (N := 5) hx hb hts hin_X2 hown hK hP 4 rfl rfl 0 (by decide) hw7 (fun _ h9 => h9) rfl dX2_note_19 ?_
        refine lv_iload hx hb dX2_note_22 (lv_at hl 4 rfl) ?_
        refine lv_dup2_11 hx hb dX2_note_24 rfl rfl ?_
        refine va_iald hx hb hK hP 29 0 rfl rfl (vp_in_nI (n := k) (N := 40) (by omega) (by decide)) dX2_note_25 ?_
        refine lv_topi (fun x_12 ex_12 => ?_)
        rw [nI_clamp (n := k) (by omega)] at ex_12
        refine lv_lload_n hx hb dX2_note_26 rfl (lv_at hl 1 rfl) ?_
        refine lv_iload hx hb dX2_note_27 (lv_at hl 4 rfl) ?_
        refine lv_lushr hx hb dX2_note_29 rfl ?_
        refine lv_topl (fun z_13 ez_13 => ?_)
        refine lv_lconst (v := 1) hx hb dX2_note_30 (by decide) ?_
        refine lv_land hx hb dX2_note_31 ?_
        refine lv_topl (fun z_14 ez_14 => ?_)
        refine lv_l2i hx hb dX2_note_32 rfl ?_
        refine lv_iload hx hb dX2_note_33 (lv_at hl 3 rfl) ?_
        refine lv_ishl hx hb dX2_note_35 ?_
        refine lv_ior hx hb dX2_note_36 ?_
        refine lv_topi (fun x_15 ex_15 => ?_)
        refine va_iast hx hb hK hP hD hS 29 0 rfl rfl (vp_in_nI (n := k) (N := 40) (by omega) (by decide)) dX2_note_37 (fun H locs hP hD hS => ?_)
        obtain ⟨F_16, eF_16⟩ : ∃ z : Nat → Nat → Int32, z = va_up F1 29 (upd (F1 29) (nI k).toNatClampNeg x_15) := ⟨_, rfl⟩
        have hP : va_P (dC, dI) vwCl (wC cI cZ h F_16 V) H := by rw [eF_16]; exact hP
        have hD : va_D A (wC cI cZ h F_16 V) := by rw [eF_16]; exact hD
        refine lv_iinc (v := nI (k + 1)) (lv' := [(5, .int (nI (k + 1))), (0, .ref (h 4)), (1, .long q0), (3, .int p1), (4, .int (nI (2 * sh)))]) hx hb dX2_note_38 hl (k := 4) rfl (nI_1 _) (by decide) rfl (fun ls hl => ?_)
        refine lv_goto (tgt := 11) hx hb dX2_note_41 (by decide) ?_
        exact ih11 (k + 1) F_16 (by omega) (fun j hj => ((va_ne eF_16 (fun h => hj (by rw [h]; decide))).trans (hfr j hj))) (by omega) H locs ls hP hD hS (lv_sub hl [1, 2, 3, 4, 0] rfl)
  exact loop11 _ 0 F (by omega) (fun _ _ => rfl) (Nat.lt_succ_self _) H locs ls hP hD hS (lv_sub hl [2, 3, 4, 1, 0] rfl)
