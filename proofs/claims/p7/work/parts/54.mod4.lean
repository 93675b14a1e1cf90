theorem nup_back {L S : Nat → Nat} {c v x : Nat} (e : S = nup L c (L c - v)) (h : v ≤ L c) (hx : x = S c + v) : nup S c x = L := by
  funext i
  have hs : S c = L c - v := by rw [e]; exact if_pos rfl
  unfold nup
  by_cases q : i = c
  · rw [if_pos q, q, hx, hs]; omega
  · rw [if_neg q, e]; exact if_neg q
def rm_X5_tries7 : Room := { frames := 1, cells := 0, slots := 0, locals := 14 }
set_option maxHeartbeats 4000000 in
set_option maxRecDepth 100000 in
theorem c_X5_tries7 (l : Launch) (dC : Nat → ClassId) (dI : Nat → Nat → Nat) (cI cZ cJ : ClassId) (h : Nat → Nat) (F : Nat → Nat → Int32) (G : Nat → Int64) (V : Nat → Int32) (n : Nat) (hV2 : V 2 = nI n) (bV2 : n ≤ 40) (Pw : Nat → Nat) (hPw : ∀ i, i < n → F 11 i = nI (Pw i)) (bPw : ∀ i, i < n → Pw i ≤ 100) (Ow : Nat → Nat) (hOw : ∀ i, i < n → F 10 i = nI (Ow i)) (bOw : ∀ i, i < n → Ow i ≤ n - 1) (Lf : Nat → Nat) (hLf : ∀ i, i < 4 → F 12 i = nI (Lf i)) (bLf : ∀ i, i < 4 → Lf i ≤ 10000) (p1 : Int32)  (hkn : 7 ≤ n) : CtV l (dC, dI) vwCl (tys3 cI cZ cJ) yX5_tries wsX5_tries rm_X5_tries7 [.ref (h 0), .int 7, .int p1] (wM cI cZ cJ h F G V) (S := (Nat → Nat → Int32) × (Nat → Int32)) (fun u => (∀ j, j ∉ ([12] : List Nat) → u.1 j = F j) ∧ (∀ j, j ≠ 9 → u.2 j = V j) ∧ ∀ i, i < 4 → u.1 12 i = nI (Lf i)) (fun u => wM cI cZ cJ h u.1 G u.2) 0 0 := by
  refine ct_V (cc := cX5_tries) (maxL := 5) (own := RX5) (by decide) rfl rfl (Nat.le_of_ble_eq_true rfl) (lv := [(0, .ref (h 0)), (1, .int 7), (2, .int p1)]) rfl ?_
  intro p e s m args below meth c A Q ls hnm fx hK hP hD hA hl hret
  obtain ⟨hx, hb, hml, hown, hts⟩ := id fx
  have hS : va_S A s.heap s.heap [] := va_S.rf
  have hw0 := hts (.fieldLink RX5 148 "MirrorTowerModel" "most" "I") (by decide +kernel)
  have hin_X5 : ∀ w ∈ u_ws RX5 TX5 33, w ∈ wsX5_tries := by decide +kernel
  have hw2 := hts (.methodLink RX5 134 Lib.Math.max.name) (by decide +kernel)
  have hw3 := hts (.static Lib.Math.max.name) (by decide +kernel)
  have hw4 := hts (.initialized "java/lang/Math") (by decide +kernel)
  have hw5 := hts (.code Lib.Math.max.name Lib.Math.max.code 2 (some .int)) (by decide +kernel)
  obtain ⟨H, hH⟩ : ∃ H, H = s.heap := ⟨_, rfl⟩
  rw [← hH] at hP ⊢
  have hS : va_S A s.heap H [] := by rw [hH]; exact hS
  generalize ([] : List Loc) = locs at hS ⊢
  refine lv_iload_n hx hb dX5_tries_0 rfl (lv_at hl 1 rfl) ?_
  refine lv_bipush (v := 7) hx hb dX5_tries_1 (by decide) ?_
  refine lv_icmp_eq (tgt := 14) hx hb dX5_tries_3 (by decide) (fun c_1 => ?_) (fun c_1 => ?_)
  · refine lv_aload_n hx hb dX5_tries_14 rfl (lv_at hl 0 rfl) ?_
    refine lv_aload_n hx hb dX5_tries_15 rfl (lv_at hl 0 rfl) ?_
    refine va_get (D := (dC, dI)) (ci := 5) (v := .int (V 9)) (C := RX5) (T := TX5) (N := 33) hx hb hts hin_X5 hown hK hP 0 rfl rfl 24 (by decide) hw0 (fun _ h9 => h9) rfl dX5_tries_16 ?_
    refine lv_iload_n hx hb dX5_tries_19 rfl (lv_at hl 2 rfl) ?_
    refine va_mmax hx hb (hml.trans hl.1.symm) hown hw2 hw3 hw4 hw5 (Nat.le_of_ble_eq_true rfl) (Nat.le_of_ble_eq_true rfl) (Nat.le_of_ble_eq_true rfl) (Nat.le_of_ble_eq_true rfl) dX5_tries_20 ?_
    refine lv_topi (fun x_2 ex_2 => ?_)
    refine va_put (D := (dC, dI)) (ci := 5) (v := .int x_2) (ty := .int) (C := RX5) (T := TX5) (N := 33) hx hb hts hin_X5 tyX5 tyX5_ok nmX5 hown hK hP hD hS 0 rfl rfl 24 (by decide) hw0 (fun _ h9 => h9) rfl (by decide +kernel) rfl rfl (Nat.le_of_ble_eq_true rfl) dX5_tries_23 (fun H locs hP hD hS => ?_)
    have hP : va_P (dC, dI) vwCl (wM cI cZ cJ h F G (va_up V 9 x_2)) H := hP
    have hD : va_D A (wM cI cZ cJ h F G (va_up V 9 x_2)) := hD
    exact hret (F, va_up V 9 x_2) H locs 26 ls dX5_tries_26 (⟨fun _ _ => rfl, fun j hj => by show (va_up V 9 x_2) j = V j; simp only [va_up, if_neg hj], hLf⟩) (hP) (hD) hS
  · exact absurd c_1 (by decide)
def rm_X5_tries6 : Room := { frames := 2, cells := 0, slots := 0, locals := 38 }
set_option maxHeartbeats 4000000 in
set_option maxRecDepth 100000 in
theorem c_X5_tries6 (l : Launch) (dC : Nat → ClassId) (dI : Nat → Nat → Nat) (cI cZ cJ : ClassId) (h : Nat → Nat) (F : Nat → Nat → Int32) (G : Nat → Int64) (V : Nat → Int32) (n : Nat) (hV2 : V 2 = nI n) (bV2 : n ≤ 40) (Pw : Nat → Nat) (hPw : ∀ i, i < n → F 11 i = nI (Pw i)) (bPw : ∀ i, i < n → Pw i ≤ 100) (Ow : Nat → Nat) (hOw : ∀ i, i < n → F 10 i = nI (Ow i)) (bOw : ∀ i, i < n → Ow i ≤ n - 1) (Lf : Nat → Nat) (hLf : ∀ i, i < 4 → F 12 i = nI (Lf i)) (bLf : ∀ i, i < 4 → Lf i ≤ 10000) (p1 : Int32)  (hkn : 6 ≤ n) : CtV l (dC, dI) vwCl (tys3 cI cZ cJ) yX5_tries wsX5_tries rm_X5_tries6 [.ref (h 0), .int 6, .int p1] (wM cI cZ cJ h F G V) (S := (Nat → Nat → Int32) × (Nat → Int32)) (fun u => (∀ j, j ∉ ([12] : List Nat) → u.1 j = F j) ∧ (∀ j, j ≠ 9 → u.2 j = V j) ∧ ∀ i, i < 4 → u.1 12 i = nI (Lf i)) (fun u => wM cI cZ cJ h u.1 G u.2) 0 0 := by
  refine ct_V (cc := cX5_tries) (maxL := 5) (own := RX5) (by decide) rfl rfl (Nat.le_of_ble_eq_true rfl) (lv := [(0, .ref (h 0)), (1, .int 6), (2, .int p1)]) rfl ?_
  intro p e s m args below meth c A Q ls hnm fx hK hP hD hA hl hret
  obtain ⟨hx, hb, hml, hown, hts⟩ := id fx
  have hS : va_S A s.heap s.heap [] := va_S.rf
  have hw0 := hts (.fieldLink RX5 91 "MirrorTowerModel" "mirrors" "I") (by decide +kernel)
  have hin_X5 : ∀ w ∈ u_ws RX5 TX5 33, w ∈ wsX5_tries := by decide +kernel
  have hw2 := hts (.fieldLink RX5 50 "MirrorTowerModel" "power" "[I") (by decide +kernel)
  have hw3 := hts (.fieldLink RX5 47 "MirrorTowerModel" "order" "[I") (by decide +kernel)
  have hw4 := hts (.fieldLink RX5 53 "MirrorTowerModel" "left" "[I") (by decide +kernel)
  have hw5 := hts (.fieldLink RX5 148 "MirrorTowerModel" "most" "I") (by decide +kernel)
  have hw6 := hts (.methodLink RX5 134 Lib.Math.max.name) (by decide +kernel)
  have hw7 := hts (.static Lib.Math.max.name) (by decide +kernel)
  have hw8 := hts (.initialized "java/lang/Math") (by decide +kernel)
  have hw9 := hts (.code Lib.Math.max.name Lib.Math.max.code 2 (some .int)) (by decide +kernel)
  obtain ⟨H, hH⟩ : ∃ H, H = s.heap := ⟨_, rfl⟩
  rw [← hH] at hP ⊢
  have hS : va_S A s.heap H [] := by rw [hH]; exact hS
  generalize ([] : List Loc) = locs at hS ⊢
  refine lv_iload_n hx hb dX5_tries_0 rfl (lv_at hl 1 rfl) ?_
  refine lv_bipush (v := 7) hx hb dX5_tries_1 (by decide) ?_
  refine lv_icmp_eq (tgt := 14) hx hb dX5_tries_3 (by decide) (fun c_1 => ?_) (fun c_1 => ?_)
  · exact absurd c_1 (by decide)
  · refine lv_iload_n hx hb dX5_tries_6 rfl (lv_at hl 1 rfl) ?_
    refine lv_aload_n hx hb dX5_tries_7 rfl (lv_at hl 0 rfl) ?_
    refine va_get (D := (dC, dI)) (ci := 5) (v := .int (V 2)) (C := RX5) (T := TX5) (N := 33) hx hb hts hin_X5 hown hK hP 0 rfl rfl 2 (by decide) hw0 (fun _ h9 => h9) rfl dX5_tries_8 ?_
    refine lv_topi (fun x_2 ex_2 => ?_)
    obtain rfl : x_2 = nI n := ex_2.trans (hV2)
    refine lv_icmp_ne (tgt := 27) hx hb dX5_tries_11 (by decide) (fun c_3 => ?_) (fun c_3 => ?_)
    · have c_3 : ¬ 6 = n := fun h => c_3 ((nI_eq (a := 6) (b := n) (by omega) (by omega)).mpr h)
      refine lv_aload_n hx hb dX5_tries_27 rfl (lv_at hl 0 rfl) ?_
      refine va_get (D := (dC, dI)) (ci := 5) (v := .ref (h 11)) (C := RX5) (T := TX5) (N := 33) hx hb hts hin_X5 hown hK hP 0 rfl rfl 18 (by decide) hw2 (fun _ h9 => h9) rfl dX5_tries_28 ?_
      refine lv_aload_n hx hb dX5_tries_31 rfl (lv_at hl 0 rfl) ?_
      refine va_get (D := (dC, dI)) (ci := 5) (v := .ref (h 10)) (C := RX5) (T := TX5) (N := 33) hx hb hts hin_X5 hown hK hP 0 rfl rfl 17 (by decide) hw3 (fun _ h9 => h9) rfl dX5_tries_32 ?_
      refine lv_iload_n hx hb dX5_tries_35 rfl (lv_at hl 1 rfl) ?_
      refine va_iald hx hb hK hP 10 0 rfl rfl (vp_in_nI (n := 6) (N := 40) (by decide) (by decide)) dX5_tries_36 ?_
      have hb_4 := bOw 6 (by omega)
      refine lv_topi (fun x_5 ex_5 => ?_)
      obtain rfl : x_5 = nI (Ow 6) := ex_5.trans ((congrArg (F 10) (by decide : (6 : Int32).toNatClampNeg = 6)).trans (hOw 6 (by omega)))
      refine va_iald hx hb hK hP 11 0 rfl rfl (vp_in_nI (n := Ow 6) (N := 40) (by omega) (by decide)) dX5_tries_37 ?_
      have hb_6 := bPw (Ow 6) (by omega)
      refine lv_topi (fun x_7 ex_7 => ?_)
      obtain rfl : x_7 = nI (Pw (Ow 6)) := ex_7.trans ((congrArg (F 11) (nI_clamp (n := Ow 6) (by omega))).trans (hPw (Ow 6) (by omega)))
      refine lv_istore_n (lv' := [(3, .int (nI (Pw (Ow 6)))), (0, .ref (h 0)), (1, .int 6), (2, .int p1)]) hx hb dX5_tries_38 rfl hl (by decide) rfl (fun ls hl => ?_)
      refine lv_iconst (v := 0) hx hb dX5_tries_39 (by decide) ?_
      refine lv_istore (lv' := [(4, .int 0), (3, .int (nI (Pw (Ow 6)))), (0, .ref (h 0)), (1, .int 6), (2, .int p1)]) hx hb dX5_tries_40 hl (by decide) rfl (fun ls hl => ?_)
      have loop42 : ∀ (fu : Nat) (cc : Nat) (F1 : Nat → Nat → Int32) (V1 : Nat → Int32), (cc ≤ 4) → (∀ i, i < 4 → F1 12 i = nI (Lf i)) → (∀ j, j ∉ ([12] : List Nat) → F1 j = F j) → (∀ j, j ≠ 9 → V1 j = V j) → (4 - cc) < fu → ∀ (H : Heap) (locs : List Loc) (ls : Array Slot), va_P (dC, dI) vwCl (wM cI cZ cJ h F1 G V1) H → va_D A (wM cI cZ cJ h F1 G V1) → va_S A s.heap H locs → lv_has ls 5 [(0, .ref (h 0)), (1, .int 6), (2, .int p1), (3, .int (nI (Pw (Ow 6)))), (4, .int (nI cc))] → W p l e rm_X5_tries6 s m args below meth c H locs 0 0 Q (F0 m 42 ls []) := by
        intro fu
        induction fu with
        | zero => intro cc F1 V1 hc hL hfr hvr hn_; exact absurd hn_ (Nat.not_lt_zero _)
        | succ fu ih42 =>
          intro cc F1 V1 hc hL hfr hvr hn_ H locs ls hP hD hS hl
          have hN_8 : ∀ i, i < n → F1 11 i = nI (Pw i) := by rw [hfr 11 (by decide)]; exact hPw
          have hN_9 : ∀ i, i < n → F1 10 i = nI (Ow i) := by rw [hfr 10 (by decide)]; exact hOw
          have hV2_ : V1 2 = nI n := by rw [hvr 2 (by decide)]; exact hV2
          refine lv_iload hx hb dX5_tries_42 (lv_at hl 4 rfl) ?_
          refine lv_iconst (v := 4) hx hb dX5_tries_44 (by decide) ?_
          refine lv_icmp_ge (tgt := 100) hx hb dX5_tries_45 (by decide) (fun c_10 => ?_) (fun c_10 => ?_)
          · have c_10 : 4 ≤ cc := (nI_leI (a := 4) (b := cc) (by omega) (by omega)).mp c_10
            refine lv_aload_n hx hb dX5_tries_100 rfl (lv_at hl 0 rfl) ?_
            refine lv_iload_n hx hb dX5_tries_101 rfl (lv_at hl 1 rfl) ?_
            refine lv_iconst (v := 1) hx hb dX5_tries_102 (by decide) ?_
            refine lv_iadd hx hb dX5_tries_103 ?_
            refine lv_topi (fun x_11 ex_11 => ?_)
            obtain rfl : x_11 = 7 := ex_11.trans (by decide)
            refine lv_iload_n hx hb dX5_tries_104 rfl (lv_at hl 2 rfl) ?_
            refine cw_Vv (As := [.int 7, .int p1]) (rest := []) (c_X5_tries7 l dC dI cI cZ cJ h F1 G V1 n hV2_ (by omega) Pw hN_8 bPw Ow hN_9 bOw Lf hL bLf p1 (by omega)) fx (cwV 2 hts gX5_tries_X5_tries rfl rfl rfl (by decide +kernel) ⟨Nat.le_of_ble_eq_true rfl, Nat.le_of_ble_eq_true rfl⟩) hK hP hD hS hA 0 rfl rfl rfl rfl hl.1 rfl (Nat.le_of_ble_eq_true rfl) dX5_tries_105 ⟨Nat.le_of_ble_eq_true rfl, Nat.le_of_ble_eq_true rfl⟩ (fun u_13 H locs hw_14 hP hD hS => ?_)
            obtain ⟨F_15, V_16⟩ := u_13
            have hf_17 : ∀ j, j ∉ ([12] : List Nat) → F_15 j = F1 j := hw_14.1
            have hv_18 : ∀ j, j ≠ 9 → V_16 j = V1 j := hw_14.2.1
            have hN_19 : ∀ i, i < 4 → F_15 12 i = nI (Lf i) := hw_14.2.2
            have hP : va_P (dC, dI) vwCl (wM cI cZ cJ h F_15 G V_16) H := hP
            have hD : va_D A (wM cI cZ cJ h F_15 G V_16) := hD
            have hN_20 : ∀ i, i < n → F_15 11 i = nI (Pw i) := by rw [hf_17 11 (by decide)]; exact hN_8
            have hN_21 : ∀ i, i < n → F_15 10 i = nI (Ow i) := by rw [hf_17 10 (by decide)]; exact hN_9
            have hV_22 : V_16 2 = nI n := by rw [hv_18 2 (by decide)]; exact hV2_
            exact hret (F_15, V_16) H locs 108 ls dX5_tries_108 (⟨fun j hj => ((hf_17 j (fun h => hj ((by decide : ∀ x ∈ ([12] : List Nat), x ∈ ([12] : List Nat)) j h))).trans (hfr j hj)), fun j hj => (hv_18 j hj).trans (hvr j hj), hN_19⟩) (hP) (hD) hS
          · have c_10 : ¬ 4 ≤ cc := fun h => c_10 ((nI_leI (a := 4) (b := cc) (by omega) (by omega)).mpr h)
            refine lv_iload_n hx hb dX5_tries_48 rfl (lv_at hl 3 rfl) ?_
            refine lv_aload_n hx hb dX5_tries_49 rfl (lv_at hl 0 rfl) ?_
            refine va_get (D := (dC, dI)) (ci := 5) (v := .ref (h 12)) (C := RX5) (T := TX5) (N := 33) hx hb hts hin_X5 hown hK hP 0 rfl rfl 19 (by decide) hw4 (fun _ h9 => h9) rfl dX5_tries_50 ?_
            refine lv_iload hx hb dX5_tries_53 (lv_at hl 4 rfl) ?_
            refine va_iald hx hb hK hP 12 0 rfl rfl (vp_in_nI (n := cc) (N := 4) (by omega) (by decide)) dX5_tries_55 ?_
            have hb_23 := bLf cc (by omega)
            refine lv_topi (fun x_24 ex_24 => ?_)
            obtain rfl : x_24 = nI (Lf cc) := ex_24.trans ((congrArg (F1 12) (nI_clamp (n := cc) (by omega))).trans (hL cc (by omega)))
            refine lv_icmp_le (tgt := 62) hx hb dX5_tries_56 (by decide) (fun c_25 => ?_) (fun c_25 => ?_)
            · have c_25 : (Pw (Ow 6)) ≤ (Lf cc) := (nI_leI (a := Pw (Ow 6)) (b := Lf cc) (by omega) (by omega)).mp c_25
              refine lv_aload_n hx hb dX5_tries_62 rfl (lv_at hl 0 rfl) ?_
              refine va_get (D := (dC, dI)) (ci := 5) (v := .ref (h 12)) (C := RX5) (T := TX5) (N := 33) hx hb hts hin_X5 hown hK hP 0 rfl rfl 19 (by decide) hw4 (fun _ h9 => h9) rfl dX5_tries_63 ?_
              refine lv_iload hx hb dX5_tries_66 (lv_at hl 4 rfl) ?_
              refine lv_dup2_11 hx hb dX5_tries_68 rfl rfl ?_
              refine va_iald hx hb hK hP 12 0 rfl rfl (vp_in_nI (n := cc) (N := 4) (by omega) (by decide)) dX5_tries_69 ?_
              have hb_26 := bLf cc (by omega)
              refine lv_topi (fun x_27 ex_27 => ?_)
              obtain rfl : x_27 = nI (Lf cc) := ex_27.trans ((congrArg (F1 12) (nI_clamp (n := cc) (by omega))).trans (hL cc (by omega)))
              refine lv_iload_n hx hb dX5_tries_70 rfl (lv_at hl 3 rfl) ?_
              refine lv_isub hx hb dX5_tries_71 ?_
              refine lv_topi (fun x_28 ex_28 => ?_)
              obtain rfl : x_28 = nI ((Lf cc) - (Pw (Ow 6))) := ex_28.trans (pk_sub (a := Lf cc) (b := Pw (Ow 6)) (by omega))
              refine va_iast hx hb hK hP hD hS 12 0 rfl rfl (vp_in_nI (n := cc) (N := 4) (by omega) (by decide)) dX5_tries_72 (fun H locs hP hD hS => ?_)
              obtain ⟨F_29, eF_29⟩ : ∃ z : Nat → Nat → Int32, z = va_up F1 12 (upd (F1 12) (nI cc).toNatClampNeg (nI ((Lf cc) - (Pw (Ow 6))))) := ⟨_, rfl⟩
              have hP : va_P (dC, dI) vwCl (wM cI cZ cJ h F_29 G V1) H := by rw [eF_29]; exact hP
              have hD : va_D A (wM cI cZ cJ h F_29 G V1) := by rw [eF_29]; exact hD
              have hN_30 : ∀ i, i < n → F_29 11 i = nI (Pw i) := by rw [eF_29]; exact hN_8
              have hN_31 : ∀ i, i < n → F_29 10 i = nI (Ow i) := by rw [eF_29]; exact hN_9
              obtain ⟨S_32, eS_32⟩ : ∃ z : Nat → Nat, z = nup Lf cc ((Lf cc) - (Pw (Ow 6))) := ⟨_, rfl⟩
              have hN_33 : ∀ i, i < 4 → F_29 12 i = nI (S_32 i) := by rw [eF_29, eS_32]; show ∀ i, i < 4 → upd (F1 12) (nI cc).toNatClampNeg (nI ((Lf cc) - (Pw (Ow 6)))) i = nI _; exact nf_put hL (nI_clamp (n := cc) (by omega))
              have bN_34 : ∀ i, i < 4 → S_32 i ≤ 10000 := by rw [eS_32]; exact nb_put bLf (by omega)
              refine lv_aload_n hx hb dX5_tries_73 rfl (lv_at hl 0 rfl) ?_
              refine lv_iload_n hx hb dX5_tries_74 rfl (lv_at hl 1 rfl) ?_
              refine lv_iconst (v := 1) hx hb dX5_tries_75 (by decide) ?_
              refine lv_iadd hx hb dX5_tries_76 ?_
              refine lv_topi (fun x_35 ex_35 => ?_)
              obtain rfl : x_35 = 7 := ex_35.trans (by decide)
              refine lv_iload_n hx hb dX5_tries_77 rfl (lv_at hl 2 rfl) ?_
              refine lv_iload_n hx hb dX5_tries_78 rfl (lv_at hl 3 rfl) ?_
              refine lv_iadd hx hb dX5_tries_79 ?_
              refine cw_Vv (As := [.int 7, .int (p1 + (nI (Pw (Ow 6))))]) (rest := []) (c_X5_tries7 l dC dI cI cZ cJ h F_29 G V1 n hV2_ (by omega) Pw hN_30 bPw Ow hN_31 bOw S_32 hN_33 bN_34 (p1 + (nI (Pw (Ow 6)))) (by omega)) fx (cwV 2 hts gX5_tries_X5_tries rfl rfl rfl (by decide +kernel) ⟨Nat.le_of_ble_eq_true rfl, Nat.le_of_ble_eq_true rfl⟩) hK hP hD hS hA 0 rfl rfl rfl rfl hl.1 rfl (Nat.le_of_ble_eq_true rfl) dX5_tries_80 ⟨Nat.le_of_ble_eq_true rfl, Nat.le_of_ble_eq_true rfl⟩ (fun u_37 H locs hw_38 hP hD hS => ?_)
              obtain ⟨F_39, V_40⟩ := u_37
              have hf_41 : ∀ j, j ∉ ([12] : List Nat) → F_39 j = F_29 j := hw_38.1
              have hv_42 : ∀ j, j ≠ 9 → V_40 j = V1 j := hw_38.2.1
              have hN_43 : ∀ i, i < 4 → F_39 12 i = nI (S_32 i) := hw_38.2.2
              have hP : va_P (dC, dI) vwCl (wM cI cZ cJ h F_39 G V_40) H := hP
              have hD : va_D A (wM cI cZ cJ h F_39 G V_40) := hD
              have hN_44 : ∀ i, i < n → F_39 11 i = nI (Pw i) := by rw [hf_41 11 (by decide)]; exact hN_30
              have hN_45 : ∀ i, i < n → F_39 10 i = nI (Ow i) := by rw [hf_41 10 (by decide)]; exact hN_31
              have hV_46 : V_40 2 = nI n := by rw [hv_42 2 (by decide)]; exact hV2_
              refine lv_aload_n hx hb dX5_tries_83 rfl (lv_at hl 0 rfl) ?_
              refine va_get (D := (dC, dI)) (ci := 5) (v := .ref (h 12)) (C := RX5) (T := TX5) (N := 33) hx hb hts hin_X5 hown hK hP 0 rfl rfl 19 (by decide) hw4 (fun _ h9 => h9) rfl dX5_tries_84 ?_
              refine lv_iload hx hb dX5_tries_87 (lv_at hl 4 rfl) ?_
              refine lv_dup2_11 hx hb dX5_tries_89 rfl rfl ?_
              refine va_iald hx hb hK hP 12 0 rfl rfl (vp_in_nI (n := cc) (N := 4) (by omega) (by decide)) dX5_tries_90 ?_
              have hb_47 := bN_34 cc (by omega)
              refine lv_topi (fun x_48 ex_48 => ?_)
              obtain rfl : x_48 = nI (S_32 cc) := ex_48.trans ((congrArg (F_39 12) (nI_clamp (n := cc) (by omega))).trans (hN_43 cc (by omega)))
              refine lv_iload_n hx hb dX5_tries_91 rfl (lv_at hl 3 rfl) ?_
              refine lv_iadd hx hb dX5_tries_92 ?_
              refine lv_topi (fun x_49 ex_49 => ?_)
              obtain rfl : x_49 = nI ((S_32 cc) + (Pw (Ow 6))) := ex_49.trans (nI_add (S_32 cc) (Pw (Ow 6)))
              have hsk : S_32 cc = Lf cc - (Pw (Ow 6)) := by rw [eS_32]; exact if_pos rfl
              refine va_iast hx hb hK hP hD hS 12 0 rfl rfl (vp_in_nI (n := cc) (N := 4) (by omega) (by decide)) dX5_tries_93 (fun H locs hP hD hS => ?_)
              obtain ⟨F_50, eF_50⟩ : ∃ z : Nat → Nat → Int32, z = va_up F_39 12 (upd (F_39 12) (nI cc).toNatClampNeg (nI ((S_32 cc) + (Pw (Ow 6))))) := ⟨_, rfl⟩
              have hP : va_P (dC, dI) vwCl (wM cI cZ cJ h F_50 G V_40) H := by rw [eF_50]; exact hP
              have hD : va_D A (wM cI cZ cJ h F_50 G V_40) := by rw [eF_50]; exact hD
              have hN_51 : ∀ i, i < n → F_50 11 i = nI (Pw i) := by rw [eF_50]; exact hN_44
              have hN_52 : ∀ i, i < n → F_50 10 i = nI (Ow i) := by rw [eF_50]; exact hN_45
              obtain ⟨S_53, eS_53⟩ : ∃ z : Nat → Nat, z = nup S_32 cc ((S_32 cc) + (Pw (Ow 6))) := ⟨_, rfl⟩
              have hN_54 : ∀ i, i < 4 → F_50 12 i = nI (S_53 i) := by rw [eF_50, eS_53]; show ∀ i, i < 4 → upd (F_39 12) (nI cc).toNatClampNeg (nI ((S_32 cc) + (Pw (Ow 6)))) i = nI _; exact nf_put hN_43 (nI_clamp (n := cc) (by omega))
              have bN_55 : ∀ i, i < 4 → S_53 i ≤ 10000 := by rw [eS_53]; exact nb_put bN_34 (by omega)
              have hbk : S_53 = Lf := by rw [eS_53]; exact nup_back eS_32 (by omega) rfl
              rw [hbk] at hN_54
              refine lv_iinc (v := nI (cc + 1)) (lv' := [(4, .int (nI (cc + 1))), (0, .ref (h 0)), (1, .int 6), (2, .int p1), (3, .int (nI (Pw (Ow 6))))]) hx hb dX5_tries_94 hl (k := 4) rfl (nI_1 _) (by decide) rfl (fun ls hl => ?_)
              refine lv_goto (tgt := 42) hx hb dX5_tries_97 (by decide) ?_
              exact ih42 (cc + 1) F_50 V_40 (by omega) hN_54 (fun j hj => ((va_ne eF_50 (fun h => hj (by rw [h]; decide))).trans ((hf_41 j (fun h => hj ((by decide : ∀ x ∈ ([12] : List Nat), x ∈ ([12] : List Nat)) j h))).trans ((va_ne eF_29 (fun h => hj (by rw [h]; decide))).trans (hfr j hj))))) (fun j hj => (hv_42 j hj).trans (hvr j hj)) (by omega) H locs ls hP hD hS (lv_sub hl [1, 2, 3, 4, 0] rfl)
            · have c_25 : ¬ (Pw (Ow 6)) ≤ (Lf cc) := fun h => c_25 ((nI_leI (a := Pw (Ow 6)) (b := Lf cc) (by omega) (by omega)).mpr h)
              refine lv_goto (tgt := 94) hx hb dX5_tries_59 (by decide) ?_
              refine lv_iinc (v := nI (cc + 1)) (lv' := [(4, .int (nI (cc + 1))), (0, .ref (h 0)), (1, .int 6), (2, .int p1), (3, .int (nI (Pw (Ow 6))))]) hx hb dX5_tries_94 hl (k := 4) rfl (nI_1 _) (by decide) rfl (fun ls hl => ?_)
              refine lv_goto (tgt := 42) hx hb dX5_tries_97 (by decide) ?_
              exact ih42 (cc + 1) F1 V1 (by omega) hL (fun j hj => (hfr j hj)) (fun j hj => hvr j hj) (by omega) H locs ls hP hD hS (lv_sub hl [1, 2, 3, 4, 0] rfl)
      exact loop42 _ 0 F V (by omega) hLf (fun _ _ => rfl) (fun _ _ => rfl) (Nat.lt_succ_self _) H locs ls hP hD hS (lv_sub hl [2, 3, 4, 1, 0] rfl)
    · have c_3 : 6 = n := (nI_eq (a := 6) (b := n) (by omega) (by omega)).mp c_3
      refine lv_aload_n hx hb dX5_tries_14 rfl (lv_at hl 0 rfl) ?_
      refine lv_aload_n hx hb dX5_tries_15 rfl (lv_at hl 0 rfl) ?_
      refine va_get (D := (dC, dI)) (ci := 5) (v := .int (V 9)) (C := RX5) (T := TX5) (N := 33) hx hb hts hin_X5 hown hK hP 0 rfl rfl 24 (by decide) hw5 (fun _ h9 => h9) rfl dX5_tries_16 ?_
      refine lv_iload_n hx hb dX5_tries_19 rfl (lv_at hl 2 rfl) ?_
      refine va_mmax hx hb (hml.trans hl.1.symm) hown hw6 hw7 hw8 hw9 (Nat.le_of_ble_eq_true rfl) (Nat.le_of_ble_eq_true rfl) (Nat.le_of_ble_eq_true rfl) (Nat.le_of_ble_eq_true rfl) dX5_tries_20 ?_
      refine lv_topi (fun x_56 ex_56 => ?_)
      refine va_put (D := (dC, dI)) (ci := 5) (v := .int x_56) (ty := .int) (C := RX5) (T := TX5) (N := 33) hx hb hts hin_X5 tyX5 tyX5_ok nmX5 hown hK hP hD hS 0 rfl rfl 24 (by decide) hw5 (fun _ h9 => h9) rfl (by decide +kernel) rfl rfl (Nat.le_of_ble_eq_true rfl) dX5_tries_23 (fun H locs hP hD hS => ?_)
      have hP : va_P (dC, dI) vwCl (wM cI cZ cJ h F G (va_up V 9 x_56)) H := hP
      have hD : va_D A (wM cI cZ cJ h F G (va_up V 9 x_56)) := hD
      exact hret (F, va_up V 9 x_56) H locs 26 ls dX5_tries_26 (⟨fun _ _ => rfl, fun j hj => by show (va_up V 9 x_56) j = V j; simp only [va_up, if_neg hj], hLf⟩) (hP) (hD) hS
def rm_X5_tries5 : Room := { frames := 3, cells := 0, slots := 0, locals := 62 }
set_option maxHeartbeats 4000000 in
set_option maxRecDepth 100000 in
theorem c_X5_tries5 (l : Launch) (dC : Nat → ClassId) (dI : Nat → Nat → Nat) (cI cZ cJ : ClassId) (h : Nat → Nat) (F : Nat → Nat → Int32) (G : Nat → Int64) (V : Nat → Int32) (n : Nat) (hV2 : V 2 = nI n) (bV2 : n ≤ 40) (Pw : Nat → Nat) (hPw : ∀ i, i < n → F 11 i = nI (Pw i)) (bPw : ∀ i, i < n → Pw i ≤ 100) (Ow : Nat → Nat) (hOw : ∀ i, i < n → F 10 i = nI (Ow i)) (bOw : ∀ i, i < n → Ow i ≤ n - 1) (Lf : Nat → Nat) (hLf : ∀ i, i < 4 → F 12 i = nI (Lf i)) (bLf : ∀ i, i < 4 → Lf i ≤ 10000) (p1 : Int32)  (hkn : 5 ≤ n) : CtV l (dC, dI) vwCl (tys3 cI cZ cJ) yX5_tries wsX5_tries rm_X5_tries5 [.ref (h 0), .int 5, .int p1] (wM cI cZ cJ h F G V) (S := (Nat → Nat → Int32) × (Nat → Int32)) (fun u => (∀ j, j ∉ ([12] : List Nat) → u.1 j = F j) ∧ (∀ j, j ≠ 9 → u.2 j = V j) ∧ ∀ i, i < 4 → u.1 12 i = nI (Lf i)) (fun u => wM cI cZ cJ h u.1 G u.2) 0 0 := by
  refine ct_V (cc := cX5_tries) (maxL := 5) (own := RX5) (by decide) rfl rfl (Nat.le_of_ble_eq_true rfl) (lv := [(0, .ref (h 0)), (1, .int 5), (2, .int p1)]) rfl ?_
  intro p e s m args below meth c A Q ls hnm fx hK hP hD hA hl hret
  obtain ⟨hx, hb, hml, hown, hts⟩ := id fx
  have hS : va_S A s.heap s.heap [] := va_S.rf
  have hw0 := hts (.fieldLink RX5 91 "MirrorTowerModel" "mirrors" "I") (by decide +kernel)
  have hin_X5 : ∀ w ∈ u_ws RX5 TX5 33, w ∈ wsX5_tries := by decide +kernel
  have hw2 := hts (.fieldLink RX5 50 "MirrorTowerModel" "power" "[I") (by decide +kernel)
  have hw3 := hts (.fieldLink RX5 47 "MirrorTowerModel" "order" "[I") (by decide +kernel)
  have hw4 := hts (.fieldLink RX5 53 "MirrorTowerModel" "left" "[I") (by decide +kernel)
  have hw5 := hts (.fieldLink RX5 148 "MirrorTowerModel" "most" "I") (by decide +kernel)
  have hw6 := hts (.methodLink RX5 134 Lib.Math.max.name) (by decide +kernel)
  have hw7 := hts (.static Lib.Math.max.name) (by decide +kernel)
  have hw8 := hts (.initialized "java/lang/Math") (by decide +kernel)
  have hw9 := hts (.code Lib.Math.max.name Lib.Math.max.code 2 (some .int)) (by decide +kernel)
  obtain ⟨H, hH⟩ : ∃ H, H = s.heap := ⟨_, rfl⟩
  rw [← hH] at hP ⊢
  have hS : va_S A s.heap H [] := by rw [hH]; exact hS
  generalize ([] : List Loc) = locs at hS ⊢
  refine lv_iload_n hx hb dX5_tries_0 rfl (lv_at hl 1 rfl) ?_
  refine lv_bipush (v := 7) hx hb dX5_tries_1 (by decide) ?_
  refine lv_icmp_eq (tgt := 14) hx hb dX5_tries_3 (by decide) (fun c_1 => ?_) (fun c_1 => ?_)
  · exact absurd c_1 (by decide)
  · refine lv_iload_n hx hb dX5_tries_6 rfl (lv_at hl 1 rfl) ?_
    refine lv_aload_n hx hb dX5_tries_7 rfl (lv_at hl 0 rfl) ?_
    refine va_get (D := (dC, dI)) (ci := 5) (v := .int (V 2)) (C := RX5) (T := TX5) (N := 33) hx hb hts hin_X5 hown hK hP 0 rfl rfl 2 (by decide) hw0 (fun _ h9 => h9) rfl dX5_tries_8 ?_
    refine lv_topi (fun x_2 ex_2 => ?_)
    obtain rfl : x_2 = nI n := ex_2.trans (hV2)
    refine lv_icmp_ne (tgt := 27) hx hb dX5_tries_11 (by decide) (fun c_3 => ?_) (fun c_3 => ?_)
    · have c_3 : ¬ 5 = n := fun h => c_3 ((nI_eq (a := 5) (b := n) (by omega) (by omega)).mpr h)
      refine lv_aload_n hx hb dX5_tries_27 rfl (lv_at hl 0 rfl) ?_
      refine va_get (D := (dC, dI)) (ci := 5) (v := .ref (h 11)) (C := RX5) (T := TX5) (N := 33) hx hb hts hin_X5 hown hK hP 0 rfl rfl 18 (by decide) hw2 (fun _ h9 => h9) rfl dX5_tries_28 ?_
      refine lv_aload_n hx hb dX5_tries_31 rfl (lv_at hl 0 rfl) ?_
      refine va_get (D := (dC, dI)) (ci := 5) (v := .ref (h 10)) (C := RX5) (T := TX5) (N := 33) hx hb hts hin_X5 hown hK hP 0 rfl rfl 17 (by decide) hw3 (fun _ h9 => h9) rfl dX5_tries_32 ?_
      refine lv_iload_n hx hb dX5_tries_35 rfl (lv_at hl 1 rfl) ?_
      refine va_iald hx hb hK hP 10 0 rfl rfl (vp_in_nI (n := 5) (N := 40) (by decide) (by decide)) dX5_tries_36 ?_
      have hb_4 := bOw 5 (by omega)
      refine lv_topi (fun x_5 ex_5 => ?_)
      obtain rfl : x_5 = nI (Ow 5) := ex_5.trans ((congrArg (F 10) (by decide : (5 : Int32).toNatClampNeg = 5)).trans (hOw 5 (by omega)))
      refine va_iald hx hb hK hP 11 0 rfl rfl (vp_in_nI (n := Ow 5) (N := 40) (by omega) (by decide)) dX5_tries_37 ?_
      have hb_6 := bPw (Ow 5) (by omega)
      refine lv_topi (fun x_7 ex_7 => ?_)
      obtain rfl : x_7 = nI (Pw (Ow 5)) := ex_7.trans ((congrArg (F 11) (nI_clamp (n := Ow 5) (by omega))).trans (hPw (Ow 5) (by omega)))
      refine lv_istore_n (lv' := [(3, .int (nI (Pw (Ow 5)))), (0, .ref (h 0)), (1, .int 5), (2, .int p1)]) hx hb dX5_tries_38 rfl hl (by decide) rfl (fun ls hl => ?_)
      refine lv_iconst (v := 0) hx hb dX5_tries_39 (by decide) ?_
      refine lv_istore (lv' := [(4, .int 0), (3, .int (nI (Pw (Ow 5)))), (0, .ref (h 0)), (1, .int 5), (2, .int p1)]) hx hb dX5_tries_40 hl (by decide) rfl (fun ls hl => ?_)
      have loop42 : ∀ (fu : Nat) (cc : Nat) (F1 : Nat → Nat → Int32) (V1 : Nat → Int32), (cc ≤ 4) → (∀ i, i < 4 → F1 12 i = nI (Lf i)) → (∀ j, j ∉ ([12] : List Nat) → F1 j = F j) → (∀ j, j ≠ 9 → V1 j = V j) → (4 - cc) < fu → ∀ (H : Heap) (locs : List Loc) (ls : Array Slot), va_P (dC, dI) vwCl (wM cI cZ cJ h F1 G V1) H → va_D A (wM cI cZ cJ h F1 G V1) → va_S A s.heap H locs → lv_has ls 5 [(0, .ref (h 0)), (1, .int 5), (2, .int p1), (3, .int (nI (Pw (Ow 5)))), (4, .int (nI cc))] → W p l e rm_X5_tries5 s m args below meth c H locs 0 0 Q (F0 m 42 ls []) := by
        intro fu
        induction fu with
        | zero => intro cc F1 V1 hc hL hfr hvr hn_; exact absurd hn_ (Nat.not_lt_zero _)
        | succ fu ih42 =>
          intro cc F1 V1 hc hL hfr hvr hn_ H locs ls hP hD hS hl
          have hN_8 : ∀ i, i < n → F1 11 i = nI (Pw i) := by rw [hfr 11 (by decide)]; exact hPw
          have hN_9 : ∀ i, i < n → F1 10 i = nI (Ow i) := by rw [hfr 10 (by decide)]; exact hOw
          have hV2_ : V1 2 = nI n := by rw [hvr 2 (by decide)]; exact hV2
          refine lv_iload hx hb dX5_tries_42 (lv_at hl 4 rfl) ?_
          refine lv_iconst (v := 4) hx hb dX5_tries_44 (by decide) ?_
          refine lv_icmp_ge (tgt := 100) hx hb dX5_tries_45 (by decide) (fun c_10 => ?_) (fun c_10 => ?_)
          · have c_10 : 4 ≤ cc := (nI_leI (a := 4) (b := cc) (by omega) (by omega)).mp c_10
            refine lv_aload_n hx hb dX5_tries_100 rfl (lv_at hl 0 rfl) ?_
            refine lv_iload_n hx hb dX5_tries_101 rfl (lv_at hl 1 rfl) ?_
            refine lv_iconst (v := 1) hx hb dX5_tries_102 (by decide) ?_
            refine lv_iadd hx hb dX5_tries_103 ?_
            refine lv_topi (fun x_11 ex_11 => ?_)
            obtain rfl : x_11 = 6 := ex_11.trans (by decide)
            refine lv_iload_n hx hb dX5_tries_104 rfl (lv_at hl 2 rfl) ?_
            refine cw_Vv (As := [.int 6, .int p1]) (rest := []) (c_X5_tries6 l dC dI cI cZ cJ h F1 G V1 n hV2_ (by omega) Pw hN_8 bPw Ow hN_9 bOw Lf hL bLf p1 (by omega)) fx (cwV 2 hts gX5_tries_X5_tries rfl rfl rfl (by decide +kernel) ⟨Nat.le_of_ble_eq_true rfl, Nat.le_of_ble_eq_true rfl⟩) hK hP hD hS hA 0 rfl rfl rfl rfl hl.1 rfl (Nat.le_of_ble_eq_true rfl) dX5_tries_105 ⟨Nat.le_of_ble_eq_true rfl, Nat.le_of_ble_eq_true rfl⟩ (fun u_13 H locs hw_14 hP hD hS => ?_)
            obtain ⟨F_15, V_16⟩ := u_13
            have hf_17 : ∀ j, j ∉ ([12] : List Nat) → F_15 j = F1 j := hw_14.1
            have hv_18 : ∀ j, j ≠ 9 → V_16 j = V1 j := hw_14.2.1
            have hN_19 : ∀ i, i < 4 → F_15 12 i = nI (Lf i) := hw_14.2.2
            have hP : va_P (dC, dI) vwCl (wM cI cZ cJ h F_15 G V_16) H := hP
            have hD : va_D A (wM cI cZ cJ h F_15 G V_16) := hD
            have hN_20 : ∀ i, i < n → F_15 11 i = nI (Pw i) := by rw [hf_17 11 (by decide)]; exact hN_8
            have hN_21 : ∀ i, i < n → F_15 10 i = nI (Ow i) := by rw [hf_17 10 (by decide)]; exact hN_9
            have hV_22 : V_16 2 = nI n := by rw [hv_18 2 (by decide)]; exact hV2_
            exact hret (F_15, V_16) H locs 108 ls dX5_tries_108 (⟨fun j hj => ((hf_17 j (fun h => hj ((by decide : ∀ x ∈ ([12] : List Nat), x ∈ ([12] : List Nat)) j h))).trans (hfr j hj)), fun j hj => (hv_18 j hj).trans (hvr j hj), hN_19⟩) (hP) (hD) hS
          · have c_10 : ¬ 4 ≤ cc := fun h => c_10 ((nI_leI (a := 4) (b := cc) (by omega) (by omega)).mpr h)
            refine lv_iload_n hx hb dX5_tries_48 rfl (lv_at hl 3 rfl) ?_
            refine lv_aload_n hx hb dX5_tries_49 rfl (lv_at hl 0 rfl) ?_
            refine va_get (D := (dC, dI)) (ci := 5) (v := .ref (h 12)) (C := RX5) (T := TX5) (N := 33) hx hb hts hin_X5 hown hK hP 0 rfl rfl 19 (by decide) hw4 (fun _ h9 => h9) rfl dX5_tries_50 ?_
            refine lv_iload hx hb dX5_tries_53 (lv_at hl 4 rfl) ?_
            refine va_iald hx hb hK hP 12 0 rfl rfl (vp_in_nI (n := cc) (N := 4) (by omega) (by decide)) dX5_tries_55 ?_
            have hb_23 := bLf cc (by omega)
            refine lv_topi (fun x_24 ex_24 => ?_)
            obtain rfl : x_24 = nI (Lf cc) := ex_24.trans ((congrArg (F1 12) (nI_clamp (n := cc) (by omega))).trans (hL cc (by omega)))
            refine lv_icmp_le (tgt := 62) hx hb dX5_tries_56 (by decide) (fun c_25 => ?_) (fun c_25 => ?_)
            · have c_25 : (Pw (Ow 5)) ≤ (Lf cc) := (nI_leI (a := Pw (Ow 5)) (b := Lf cc) (by omega) (by omega)).mp c_25
              refine lv_aload_n hx hb dX5_tries_62 rfl (lv_at hl 0 rfl) ?_
              refine va_get (D := (dC, dI)) (ci := 5) (v := .ref (h 12)) (C := RX5) (T := TX5) (N := 33) hx hb hts hin_X5 hown hK hP 0 rfl rfl 19 (by decide) hw4 (fun _ h9 => h9) rfl dX5_tries_63 ?_
              refine lv_iload hx hb dX5_tries_66 (lv_at hl 4 rfl) ?_
              refine lv_dup2_11 hx hb dX5_tries_68 rfl rfl ?_
              refine va_iald hx hb hK hP 12 0 rfl rfl (vp_in_nI (n := cc) (N := 4) (by omega) (by decide)) dX5_tries_69 ?_
              have hb_26 := bLf cc (by omega)
              refine lv_topi (fun x_27 ex_27 => ?_)
              obtain rfl : x_27 = nI (Lf cc) := ex_27.trans ((congrArg (F1 12) (nI_clamp (n := cc) (by omega))).trans (hL cc (by omega)))
              refine lv_iload_n hx hb dX5_tries_70 rfl (lv_at hl 3 rfl) ?_
              refine lv_isub hx hb dX5_tries_71 ?_
              refine lv_topi (fun x_28 ex_28 => ?_)
              obtain rfl : x_28 = nI ((Lf cc) - (Pw (Ow 5))) := ex_28.trans (pk_sub (a := Lf cc) (b := Pw (Ow 5)) (by omega))
              refine va_iast hx hb hK hP hD hS 12 0 rfl rfl (vp_in_nI (n := cc) (N := 4) (by omega) (by decide)) dX5_tries_72 (fun H locs hP hD hS => ?_)
              obtain ⟨F_29, eF_29⟩ : ∃ z : Nat → Nat → Int32, z = va_up F1 12 (upd (F1 12) (nI cc).toNatClampNeg (nI ((Lf cc) - (Pw (Ow 5))))) := ⟨_, rfl⟩
              have hP : va_P (dC, dI) vwCl (wM cI cZ cJ h F_29 G V1) H := by rw [eF_29]; exact hP
              have hD : va_D A (wM cI cZ cJ h F_29 G V1) := by rw [eF_29]; exact hD
              have hN_30 : ∀ i, i < n → F_29 11 i = nI (Pw i) := by rw [eF_29]; exact hN_8
              have hN_31 : ∀ i, i < n → F_29 10 i = nI (Ow i) := by rw [eF_29]; exact hN_9
              obtain ⟨S_32, eS_32⟩ : ∃ z : Nat → Nat, z = nup Lf cc ((Lf cc) - (Pw (Ow 5))) := ⟨_, rfl⟩
              have hN_33 : ∀ i, i < 4 → F_29 12 i = nI (S_32 i) := by rw [eF_29, eS_32]; show ∀ i, i < 4 → upd (F1 12) (nI cc).toNatClampNeg (nI ((Lf cc) - (Pw (Ow 5)))) i = nI _; exact nf_put hL (nI_clamp (n := cc) (by omega))
              have bN_34 : ∀ i, i < 4 → S_32 i ≤ 10000 := by rw [eS_32]; exact nb_put bLf (by omega)
              refine lv_aload_n hx hb dX5_tries_73 rfl (lv_at hl 0 rfl) ?_
              refine lv_iload_n hx hb dX5_tries_74 rfl (lv_at hl 1 rfl) ?_
              refine lv_iconst (v := 1) hx hb dX5_tries_75 (by decide) ?_
              refine lv_iadd hx hb dX5_tries_76 ?_
              refine lv_topi (fun x_35 ex_35 => ?_)
              obtain rfl : x_35 = 6 := ex_35.trans (by decide)
              refine lv_iload_n hx hb dX5_tries_77 rfl (lv_at hl 2 rfl) ?_
              refine lv_iload_n hx hb dX5_tries_78 rfl (lv_at hl 3 rfl) ?_
              refine lv_iadd hx hb dX5_tries_79 ?_
              refine cw_Vv (As := [.int 6, .int (p1 + (nI (Pw (Ow 5))))]) (rest := []) (c_X5_tries6 l dC dI cI cZ cJ h F_29 G V1 n hV2_ (by omega) Pw hN_30 bPw Ow hN_31 bOw S_32 hN_33 bN_34 (p1 + (nI (Pw (Ow 5)))) (by omega)) fx (cwV 2 hts gX5_tries_X5_tries rfl rfl rfl (by decide +kernel) ⟨Nat.le_of_ble_eq_true rfl, Nat.le_of_ble_eq_true rfl⟩) hK hP hD hS hA 0 rfl rfl rfl rfl hl.1 rfl (Nat.le_of_ble_eq_true rfl) dX5_tries_80 ⟨Nat.le_of_ble_eq_true rfl, Nat.le_of_ble_eq_true rfl⟩ (fun u_37 H locs hw_38 hP hD hS => ?_)
              obtain ⟨F_39, V_40⟩ := u_37
              have hf_41 : ∀ j, j ∉ ([12] : List Nat) → F_39 j = F_29 j := hw_38.1
              have hv_42 : ∀ j, j ≠ 9 → V_40 j = V1 j := hw_38.2.1
              have hN_43 : ∀ i, i < 4 → F_39 12 i = nI (S_32 i) := hw_38.2.2
              have hP : va_P (dC, dI) vwCl (wM cI cZ cJ h F_39 G V_40) H := hP
              have hD : va_D A (wM cI cZ cJ h F_39 G V_40) := hD
              have hN_44 : ∀ i, i < n → F_39 11 i = nI (Pw i) := by rw [hf_41 11 (by decide)]; exact hN_30
              have hN_45 : ∀ i, i < n → F_39 10 i = nI (Ow i) := by rw [hf_41 10 (by decide)]; exact hN_31
              have hV_46 : V_40 2 = nI n := by rw [hv_42 2 (by decide)]; exact hV2_
              refine lv_aload_n hx hb dX5_tries_83 rfl (lv_at hl 0 rfl) ?_
              refine va_get (D := (dC, dI)) (ci := 5) (v := .ref (h 12)) (C := RX5) (T := TX5) (N := 33) hx hb hts hin_X5 hown hK hP 0 rfl rfl 19 (by decide) hw4 (fun _ h9 => h9) rfl dX5_tries_84 ?_
              refine lv_iload hx hb dX5_tries_87 (lv_at hl 4 rfl) ?_
              refine lv_dup2_11 hx hb dX5_tries_89 rfl rfl ?_
              refine va_iald hx hb hK hP 12 0 rfl rfl (vp_in_nI (n := cc) (N := 4) (by omega) (by decide)) dX5_tries_90 ?_
              have hb_47 := bN_34 cc (by omega)
              refine lv_topi (fun x_48 ex_48 => ?_)
              obtain rfl : x_48 = nI (S_32 cc) := ex_48.trans ((congrArg (F_39 12) (nI_clamp (n := cc) (by omega))).trans (hN_43 cc (by omega)))
              refine lv_iload_n hx hb dX5_tries_91 rfl (lv_at hl 3 rfl) ?_
              refine lv_iadd hx hb dX5_tries_92 ?_
              refine lv_topi (fun x_49 ex_49 => ?_)
              obtain rfl : x_49 = nI ((S_32 cc) + (Pw (Ow 5))) := ex_49.trans (nI_add (S_32 cc) (Pw (Ow 5)))
              have hsk : S_32 cc = Lf cc - (Pw (Ow 5)) := by rw [eS_32]; exact if_pos rfl
              refine va_iast hx hb hK hP hD hS 12 0 rfl rfl (vp_in_nI (n := cc) (N := 4) (by omega) (by decide)) dX5_tries_93 (fun H locs hP hD hS => ?_)
              obtain ⟨F_50, eF_50⟩ : ∃ z : Nat → Nat → Int32, z = va_up F_39 12 (upd (F_39 12) (nI cc).toNatClampNeg (nI ((S_32 cc) + (Pw (Ow 5))))) := ⟨_, rfl⟩
              have hP : va_P (dC, dI) vwCl (wM cI cZ cJ h F_50 G V_40) H := by rw [eF_50]; exact hP
              have hD : va_D A (wM cI cZ cJ h F_50 G V_40) := by rw [eF_50]; exact hD
              have hN_51 : ∀ i, i < n → F_50 11 i = nI (Pw i) := by rw [eF_50]; exact hN_44
              have hN_52 : ∀ i, i < n → F_50 10 i = nI (Ow i) := by rw [eF_50]; exact hN_45
              obtain ⟨S_53, eS_53⟩ : ∃ z : Nat → Nat, z = nup S_32 cc ((S_32 cc) + (Pw (Ow 5))) := ⟨_, rfl⟩
              have hN_54 : ∀ i, i < 4 → F_50 12 i = nI (S_53 i) := by rw [eF_50, eS_53]; show ∀ i, i < 4 → upd (F_39 12) (nI cc).toNatClampNeg (nI ((S_32 cc) + (Pw (Ow 5)))) i = nI _; exact nf_put hN_43 (nI_clamp (n := cc) (by omega))
              have bN_55 : ∀ i, i < 4 → S_53 i ≤ 10000 := by rw [eS_53]; exact nb_put bN_34 (by omega)
              have hbk : S_53 = Lf := by rw [eS_53]; exact nup_back eS_32 (by omega) rfl
              rw [hbk] at hN_54
              refine lv_iinc (v := nI (cc + 1)) (lv' := [(4, .int (nI (cc + 1))), (0, .ref (h 0)), (1, .int 5), (2, .int p1), (3, .int (nI (Pw (Ow 5))))]) hx hb dX5_tries_94 hl (k := 4) rfl (nI_1 _) (by decide) rfl (fun ls hl => ?_)
              refine lv_goto (tgt := 42) hx hb dX5_tries_97 (by decide) ?_
              exact ih42 (cc + 1) F_50 V_40 (by omega) hN_54 (fun j hj => ((va_ne eF_50 (fun h => hj (by rw [h]; decide))).trans ((hf_41 j (fun h => hj ((by decide : ∀ x ∈ ([12] : List Nat), x ∈ ([12] : List Nat)) j h))).trans ((va_ne eF_29 (fun h => hj (by rw [h]; decide))).trans (hfr j hj))))) (fun j hj => (hv_42 j hj).trans (hvr j hj)) (by omega) H locs ls hP hD hS (lv_sub hl [1, 2, 3, 4, 0] rfl)
            · have c_25 : ¬ (Pw (Ow 5)) ≤ (Lf cc) := fun h => c_25 ((nI_leI (a := Pw (Ow 5)) (b := Lf cc) (by omega) (by omega)).mpr h)
              refine lv_goto (tgt := 94) hx hb dX5_tries_59 (by decide) ?_
              refine lv_iinc (v := nI (cc + 1)) (lv' := [(4, .int (nI (cc + 1))), (0, .ref (h 0)), (1, .int 5), (2, .int p1), (3, .int (nI (Pw (Ow 5))))]) hx hb dX5_tries_94 hl (k := 4) rfl (nI_1 _) (by decide) rfl (fun ls hl => ?_)
              refine lv_goto (tgt := 42) hx hb dX5_tries_97 (by decide) ?_
              exact ih42 (cc + 1) F1 V1 (by omega) hL (fun j hj => (hfr j hj)) (fun j hj => hvr j hj) (by omega) H locs ls hP hD hS (lv_sub hl [1, 2, 3, 4, 0] rfl)
      exact loop42 _ 0 F V (by omega) hLf (fun _ _ => rfl) (fun _ _ => rfl) (Nat.lt_succ_self _) H locs ls hP hD hS (lv_sub hl [2, 3, 4, 1, 0] rfl)
    · have c_3 : 5 = n := (nI_eq (a := 5) (b := n) (by omega) (by omega)).mp c_3
      refine lv_aload_n hx hb dX5_tries_14 rfl (lv_at hl 0 rfl) ?_
      refine lv_aload_n hx hb dX5_tries_15 rfl (lv_at hl 0 rfl) ?_
      refine va_get (D := (dC, dI)) (ci := 5) (v := .int (V 9)) (C := RX5) (T := TX5) (N := 33) hx hb hts hin_X5 hown hK hP 0 rfl rfl 24 (by decide) hw5 (fun _ h9 => h9) rfl dX5_tries_16 ?_
      refine lv_iload_n hx hb dX5_tries_19 rfl (lv_at hl 2 rfl) ?_
      refine va_mmax hx hb (hml.trans hl.1.symm) hown hw6 hw7 hw8 hw9 (Nat.le_of_ble_eq_true rfl) (Nat.le_of_ble_eq_true rfl) (Nat.le_of_ble_eq_true rfl) (Nat.le_of_ble_eq_true rfl) dX5_tries_20 ?_
      refine lv_topi (fun x_56 ex_56 => ?_)
      refine va_put (D := (dC, dI)) (ci := 5) (v := .int x_56) (ty := .int) (C := RX5) (T := TX5) (N := 33) hx hb hts hin_X5 tyX5 tyX5_ok nmX5 hown hK hP hD hS 0 rfl rfl 24 (by decide) hw5 (fun _ h9 => h9) rfl (by decide +kernel) rfl rfl (Nat.le_of_ble_eq_true rfl) dX5_tries_23 (fun H locs hP hD hS => ?_)
      have hP : va_P (dC, dI) vwCl (wM cI cZ cJ h F G (va_up V 9 x_56)) H := hP
      have hD : va_D A (wM cI cZ cJ h F G (va_up V 9 x_56)) := hD
      exact hret (F, va_up V 9 x_56) H locs 26 ls dX5_tries_26 (⟨fun _ _ => rfl, fun j hj => by show (va_up V 9 x_56) j = V j; simp only [va_up, if_neg hj], hLf⟩) (hP) (hD) hS
def rm_X5_tries4 : Room := { frames := 4, cells := 0, slots := 0, locals := 86 }
set_option maxHeartbeats 4000000 in
set_option maxRecDepth 100000 in
theorem c_X5_tries4 (l : Launch) (dC : Nat → ClassId) (dI : Nat → Nat → Nat) (cI cZ cJ : ClassId) (h : Nat → Nat) (F : Nat → Nat → Int32) (G : Nat → Int64) (V : Nat → Int32) (n : Nat) (hV2 : V 2 = nI n) (bV2 : n ≤ 40) (Pw : Nat → Nat) (hPw : ∀ i, i < n → F 11 i = nI (Pw i)) (bPw : ∀ i, i < n → Pw i ≤ 100) (Ow : Nat → Nat) (hOw : ∀ i, i < n → F 10 i = nI (Ow i)) (bOw : ∀ i, i < n → Ow i ≤ n - 1) (Lf : Nat → Nat) (hLf : ∀ i, i < 4 → F 12 i = nI (Lf i)) (bLf : ∀ i, i < 4 → Lf i ≤ 10000) (p1 : Int32)  (hkn : 4 ≤ n) : CtV l (dC, dI) vwCl (tys3 cI cZ cJ) yX5_tries wsX5_tries rm_X5_tries4 [.ref (h 0), .int 4, .int p1] (wM cI cZ cJ h F G V) (S := (Nat → Nat → Int32) × (Nat → Int32)) (fun u => (∀ j, j ∉ ([12] : List Nat) → u.1 j = F j) ∧ (∀ j, j ≠ 9 → u.2 j = V j) ∧ ∀ i, i < 4 → u.1 12 i = nI (Lf i)) (fun u => wM cI cZ cJ h u.1 G u.2) 0 0 := by
  refine ct_V (cc := cX5_tries) (maxL := 5) (own := RX5) (by decide) rfl rfl (Nat.le_of_ble_eq_true rfl) (lv := [(0, .ref (h 0)), (1, .int 4), (2, .int p1)]) rfl ?_
  intro p e s m args below meth c A Q ls hnm fx hK hP hD hA hl hret
  obtain ⟨hx, hb, hml, hown, hts⟩ := id fx
  have hS : va_S A s.heap s.heap [] := va_S.rf
  have hw0 := hts (.fieldLink RX5 91 "MirrorTowerModel" "mirrors" "I") (by decide +kernel)
  have hin_X5 : ∀ w ∈ u_ws RX5 TX5 33, w ∈ wsX5_tries := by decide +kernel
  have hw2 := hts (.fieldLink RX5 50 "MirrorTowerModel" "power" "[I") (by decide +kernel)
  have hw3 := hts (.fieldLink RX5 47 "MirrorTowerModel" "order" "[I") (by decide +kernel)
  have hw4 := hts (.fieldLink RX5 53 "MirrorTowerModel" "left" "[I") (by decide +kernel)
  have hw5 := hts (.fieldLink RX5 148 "MirrorTowerModel" "most" "I") (by decide +kernel)
  have hw6 := hts (.methodLink RX5 134 Lib.Math.max.name) (by decide +kernel)
  have hw7 := hts (.static Lib.Math.max.name) (by decide +kernel)
  have hw8 := hts (.initialized "java/lang/Math") (by decide +kernel)
  have hw9 := hts (.code Lib.Math.max.name Lib.Math.max.code 2 (some .int)) (by decide +kernel)
  obtain ⟨H, hH⟩ : ∃ H, H = s.heap := ⟨_, rfl⟩
  rw [← hH] at hP ⊢
  have hS : va_S A s.heap H [] := by rw [hH]; exact hS
  generalize ([] : List Loc) = locs at hS ⊢
  refine lv_iload_n hx hb dX5_tries_0 rfl (lv_at hl 1 rfl) ?_
  refine lv_bipush (v := 7) hx hb dX5_tries_1 (by decide) ?_
  refine lv_icmp_eq (tgt := 14) hx hb dX5_tries_3 (by decide) (fun c_1 => ?_) (fun c_1 => ?_)
  · exact absurd c_1 (by decide)
  · refine lv_iload_n hx hb dX5_tries_6 rfl (lv_at hl 1 rfl) ?_
    refine lv_aload_n hx hb dX5_tries_7 rfl (lv_at hl 0 rfl) ?_
    refine va_get (D := (dC, dI)) (ci := 5) (v := .int (V 2)) (C := RX5) (T := TX5) (N := 33) hx hb hts hin_X5 hown hK hP 0 rfl rfl 2 (by decide) hw0 (fun _ h9 => h9) rfl dX5_tries_8 ?_
    refine lv_topi (fun x_2 ex_2 => ?_)
    obtain rfl : x_2 = nI n := ex_2.trans (hV2)
    refine lv_icmp_ne (tgt := 27) hx hb dX5_tries_11 (by decide) (fun c_3 => ?_) (fun c_3 => ?_)
    · have c_3 : ¬ 4 = n := fun h => c_3 ((nI_eq (a := 4) (b := n) (by omega) (by omega)).mpr h)
      refine lv_aload_n hx hb dX5_tries_27 rfl (lv_at hl 0 rfl) ?_
      refine va_get (D := (dC, dI)) (ci := 5) (v := .ref (h 11)) (C := RX5) (T := TX5) (N := 33) hx hb hts hin_X5 hown hK hP 0 rfl rfl 18 (by decide) hw2 (fun _ h9 => h9) rfl dX5_tries_28 ?_
      refine lv_aload_n hx hb dX5_tries_31 rfl (lv_at hl 0 rfl) ?_
      refine va_get (D := (dC, dI)) (ci := 5) (v := .ref (h 10)) (C := RX5) (T := TX5) (N := 33) hx hb hts hin_X5 hown hK hP 0 rfl rfl 17 (by decide) hw3 (fun _ h9 => h9) rfl dX5_tries_32 ?_
      refine lv_iload_n hx hb dX5_tries_35 rfl (lv_at hl 1 rfl) ?_
      refine va_iald hx hb hK hP 10 0 rfl rfl (vp_in_nI (n := 4) (N := 40) (by decide) (by decide)) dX5_tries_36 ?_
      have hb_4 := bOw 4 (by omega)
      refine lv_topi (fun x_5 ex_5 => ?_)
      obtain rfl : x_5 = nI (Ow 4) := ex_5.trans ((congrArg (F 10) (by decide : (4 : Int32).toNatClampNeg = 4)).trans (hOw 4 (by omega)))
      refine va_iald hx hb hK hP 11 0 rfl rfl (vp_in_nI (n := Ow 4) (N := 40) (by omega) (by decide)) dX5_tries_37 ?_
      have hb_6 := bPw (Ow 4) (by omega)
      refine lv_topi (fun x_7 ex_7 => ?_)
      obtain rfl : x_7 = nI (Pw (Ow 4)) := ex_7.trans ((congrArg (F 11) (nI_clamp (n := Ow 4) (by omega))).trans (hPw (Ow 4) (by omega)))
      refine lv_istore_n (lv' := [(3, .int (nI (Pw (Ow 4)))), (0, .ref (h 0)), (1, .int 4), (2, .int p1)]) hx hb dX5_tries_38 rfl hl (by decide) rfl (fun ls hl => ?_)
      refine lv_iconst (v := 0) hx hb dX5_tries_39 (by decide) ?_
      refine lv_istore (lv' := [(4, .int 0), (3, .int (nI (Pw (Ow 4)))), (0, .ref (h 0)), (1, .int 4), (2, .int p1)]) hx hb dX5_tries_40 hl (by decide) rfl (fun ls hl => ?_)
      have loop42 : ∀ (fu : Nat) (cc : Nat) (F1 : Nat → Nat → Int32) (V1 : Nat → Int32), (cc ≤ 4) → (∀ i, i < 4 → F1 12 i = nI (Lf i)) → (∀ j, j ∉ ([12] : List Nat) → F1 j = F j) → (∀ j, j ≠ 9 → V1 j = V j) → (4 - cc) < fu → ∀ (H : Heap) (locs : List Loc) (ls : Array Slot), va_P (dC, dI) vwCl (wM cI cZ cJ h F1 G V1) H → va_D A (wM cI cZ cJ h F1 G V1) → va_S A s.heap H locs → lv_has ls 5 [(0, .ref (h 0)), (1, .int 4), (2, .int p1), (3, .int (nI (Pw (Ow 4)))), (4, .int (nI cc))] → W p l e rm_X5_tries4 s m args below meth c H locs 0 0 Q (F0 m 42 ls []) := by
        intro fu
        induction fu with
        | zero => intro cc F1 V1 hc hL hfr hvr hn_; exact absurd hn_ (Nat.not_lt_zero _)
        | succ fu ih42 =>
          intro cc F1 V1 hc hL hfr hvr hn_ H locs ls hP hD hS hl
          have hN_8 : ∀ i, i < n → F1 11 i = nI (Pw i) := by rw [hfr 11 (by decide)]; exact hPw
          have hN_9 : ∀ i, i < n → F1 10 i = nI (Ow i) := by rw [hfr 10 (by decide)]; exact hOw
          have hV2_ : V1 2 = nI n := by rw [hvr 2 (by decide)]; exact hV2
          refine lv_iload hx hb dX5_tries_42 (lv_at hl 4 rfl) ?_
          refine lv_iconst (v := 4) hx hb dX5_tries_44 (by decide) ?_
          refine lv_icmp_ge (tgt := 100) hx hb dX5_tries_45 (by decide) (fun c_10 => ?_) (fun c_10 => ?_)
          · have c_10 : 4 ≤ cc := (nI_leI (a := 4) (b := cc) (by omega) (by omega)).mp c_10
            refine lv_aload_n hx hb dX5_tries_100 rfl (lv_at hl 0 rfl) ?_
            refine lv_iload_n hx hb dX5_tries_101 rfl (lv_at hl 1 rfl) ?_
            refine lv_iconst (v := 1) hx hb dX5_tries_102 (by decide) ?_
            refine lv_iadd hx hb dX5_tries_103 ?_
            refine lv_topi (fun x_11 ex_11 => ?_)
            obtain rfl : x_11 = 5 := ex_11.trans (by decide)
            refine lv_iload_n hx hb dX5_tries_104 rfl (lv_at hl 2 rfl) ?_
            refine cw_Vv (As := [.int 5, .int p1]) (rest := []) (c_X5_tries5 l dC dI cI cZ cJ h F1 G V1 n hV2_ (by omega) Pw hN_8 bPw Ow hN_9 bOw Lf hL bLf p1 (by omega)) fx (cwV 2 hts gX5_tries_X5_tries rfl rfl rfl (by decide +kernel) ⟨Nat.le_of_ble_eq_true rfl, Nat.le_of_ble_eq_true rfl⟩) hK hP hD hS hA 0 rfl rfl rfl rfl hl.1 rfl (Nat.le_of_ble_eq_true rfl) dX5_tries_105 ⟨Nat.le_of_ble_eq_true rfl, Nat.le_of_ble_eq_true rfl⟩ (fun u_13 H locs hw_14 hP hD hS => ?_)
            obtain ⟨F_15, V_16⟩ := u_13
            have hf_17 : ∀ j, j ∉ ([12] : List Nat) → F_15 j = F1 j := hw_14.1
            have hv_18 : ∀ j, j ≠ 9 → V_16 j = V1 j := hw_14.2.1
            have hN_19 : ∀ i, i < 4 → F_15 12 i = nI (Lf i) := hw_14.2.2
            have hP : va_P (dC, dI) vwCl (wM cI cZ cJ h F_15 G V_16) H := hP
            have hD : va_D A (wM cI cZ cJ h F_15 G V_16) := hD
            have hN_20 : ∀ i, i < n → F_15 11 i = nI (Pw i) := by rw [hf_17 11 (by decide)]; exact hN_8
            have hN_21 : ∀ i, i < n → F_15 10 i = nI (Ow i) := by rw [hf_17 10 (by decide)]; exact hN_9
            have hV_22 : V_16 2 = nI n := by rw [hv_18 2 (by decide)]; exact hV2_
            exact hret (F_15, V_16) H locs 108 ls dX5_tries_108 (⟨fun j hj => ((hf_17 j (fun h => hj ((by decide : ∀ x ∈ ([12] : List Nat), x ∈ ([12] : List Nat)) j h))).trans (hfr j hj)), fun j hj => (hv_18 j hj).trans (hvr j hj), hN_19⟩) (hP) (hD) hS
          · have c_10 : ¬ 4 ≤ cc := fun h => c_10 ((nI_leI (a := 4) (b := cc) (by omega) (by omega)).mpr h)
            refine lv_iload_n hx hb dX5_tries_48 rfl (lv_at hl 3 rfl) ?_
            refine lv_aload_n hx hb dX5_tries_49 rfl (lv_at hl 0 rfl) ?_
            refine va_get (D := (dC, dI)) (ci := 5) (v := .ref (h 12)) (C := RX5) (T := TX5) (N := 33) hx hb hts hin_X5 hown hK hP 0 rfl rfl 19 (by decide) hw4 (fun _ h9 => h9) rfl dX5_tries_50 ?_
            refine lv_iload hx hb dX5_tries_53 (lv_at hl 4 rfl) ?_
            refine va_iald hx hb hK hP 12 0 rfl rfl (vp_in_nI (n := cc) (N := 4) (by omega) (by decide)) dX5_tries_55 ?_
            have hb_23 := bLf cc (by omega)
            refine lv_topi (fun x_24 ex_24 => ?_)
            obtain rfl : x_24 = nI (Lf cc) := ex_24.trans ((congrArg (F1 12) (nI_clamp (n := cc) (by omega))).trans (hL cc (by omega)))
            refine lv_icmp_le (tgt := 62) hx hb dX5_tries_56 (by decide) (fun c_25 => ?_) (fun c_25 => ?_)
            · have c_25 : (Pw (Ow 4)) ≤ (Lf cc) := (nI_leI (a := Pw (Ow 4)) (b := Lf cc) (by omega) (by omega)).mp c_25
              refine lv_aload_n hx hb dX5_tries_62 rfl (lv_at hl 0 rfl) ?_
              refine va_get (D := (dC, dI)) (ci := 5) (v := .ref (h 12)) (C := RX5) (T := TX5) (N := 33) hx hb hts hin_X5 hown hK hP 0 rfl rfl 19 (by decide) hw4 (fun _ h9 => h9) rfl dX5_tries_63 ?_
              refine lv_iload hx hb dX5_tries_66 (lv_at hl 4 rfl) ?_
              refine lv_dup2_11 hx hb dX5_tries_68 rfl rfl ?_
              refine va_iald hx hb hK hP 12 0 rfl rfl (vp_in_nI (n := cc) (N := 4) (by omega) (by decide)) dX5_tries_69 ?_
              have hb_26 := bLf cc (by omega)
              refine lv_topi (fun x_27 ex_27 => ?_)
              obtain rfl : x_27 = nI (Lf cc) := ex_27.trans ((congrArg (F1 12) (nI_clamp (n := cc) (by omega))).trans (hL cc (by omega)))
              refine lv_iload_n hx hb dX5_tries_70 rfl (lv_at hl 3 rfl) ?_
              refine lv_isub hx hb dX5_tries_71 ?_
              refine lv_topi (fun x_28 ex_28 => ?_)
              obtain rfl : x_28 = nI ((Lf cc) - (Pw (Ow 4))) := ex_28.trans (pk_sub (a := Lf cc) (b := Pw (Ow 4)) (by omega))
              refine va_iast hx hb hK hP hD hS 12 0 rfl rfl (vp_in_nI (n := cc) (N := 4) (by omega) (by decide)) dX5_tries_72 (fun H locs hP hD hS => ?_)
              obtain ⟨F_29, eF_29⟩ : ∃ z : Nat → Nat → Int32, z = va_up F1 12 (upd (F1 12) (nI cc).toNatClampNeg (nI ((Lf cc) - (Pw (Ow 4))))) := ⟨_, rfl⟩
              have hP : va_P (dC, dI) vwCl (wM cI cZ cJ h F_29 G V1) H := by rw [eF_29]; exact hP
              have hD : va_D A (wM cI cZ cJ h F_29 G V1) := by rw [eF_29]; exact hD
              have hN_30 : ∀ i, i < n → F_29 11 i = nI (Pw i) := by rw [eF_29]; exact hN_8
              have hN_31 : ∀ i, i < n → F_29 10 i = nI (Ow i) := by rw [eF_29]; exact hN_9
              obtain ⟨S_32, eS_32⟩ : ∃ z : Nat → Nat, z = nup Lf cc ((Lf cc) - (Pw (Ow 4))) := ⟨_, rfl⟩
              have hN_33 : ∀ i, i < 4 → F_29 12 i = nI (S_32 i) := by rw [eF_29, eS_32]; show ∀ i, i < 4 → upd (F1 12) (nI cc).toNatClampNeg (nI ((Lf cc) - (Pw (Ow 4)))) i = nI _; exact nf_put hL (nI_clamp (n := cc) (by omega))
              have bN_34 : ∀ i, i < 4 → S_32 i ≤ 10000 := by rw [eS_32]; exact nb_put bLf (by omega)
              refine lv_aload_n hx hb dX5_tries_73 rfl (lv_at hl 0 rfl) ?_
              refine lv_iload_n hx hb dX5_tries_74 rfl (lv_at hl 1 rfl) ?_
              refine lv_iconst (v := 1) hx hb dX5_tries_75 (by decide) ?_
              refine lv_iadd hx hb dX5_tries_76 ?_
              refine lv_topi (fun x_35 ex_35 => ?_)
              obtain rfl : x_35 = 5 := ex_35.trans (by decide)
              refine lv_iload_n hx hb dX5_tries_77 rfl (lv_at hl 2 rfl) ?_
              refine lv_iload_n hx hb dX5_tries_78 rfl (lv_at hl 3 rfl) ?_
              refine lv_iadd hx hb dX5_tries_79 ?_
              refine cw_Vv (As := [.int 5, .int (p1 + (nI (Pw (Ow 4))))]) (rest := []) (c_X5_tries5 l dC dI cI cZ cJ h F_29 G V1 n hV2_ (by omega) Pw hN_30 bPw Ow hN_31 bOw S_32 hN_33 bN_34 (p1 + (nI (Pw (Ow 4)))) (by omega)) fx (cwV 2 hts gX5_tries_X5_tries rfl rfl rfl (by decide +kernel) ⟨Nat.le_of_ble_eq_true rfl, Nat.le_of_ble_eq_true rfl⟩) hK hP hD hS hA 0 rfl rfl rfl rfl hl.1 rfl (Nat.le_of_ble_eq_true rfl) dX5_tries_80 ⟨Nat.le_of_ble_eq_true rfl, Nat.le_of_ble_eq_true rfl⟩ (fun u_37 H locs hw_38 hP hD hS => ?_)
              obtain ⟨F_39, V_40⟩ := u_37
              have hf_41 : ∀ j, j ∉ ([12] : List Nat) → F_39 j = F_29 j := hw_38.1
              have hv_42 : ∀ j, j ≠ 9 → V_40 j = V1 j := hw_38.2.1
              have hN_43 : ∀ i, i < 4 → F_39 12 i = nI (S_32 i) := hw_38.2.2
              have hP : va_P (dC, dI) vwCl (wM cI cZ cJ h F_39 G V_40) H := hP
              have hD : va_D A (wM cI cZ cJ h F_39 G V_40) := hD
              have hN_44 : ∀ i, i < n → F_39 11 i = nI (Pw i) := by rw [hf_41 11 (by decide)]; exact hN_30
              have hN_45 : ∀ i, i < n → F_39 10 i = nI (Ow i) := by rw [hf_41 10 (by decide)]; exact hN_31
              have hV_46 : V_40 2 = nI n := by rw [hv_42 2 (by decide)]; exact hV2_
              refine lv_aload_n hx hb dX5_tries_83 rfl (lv_at hl 0 rfl) ?_
              refine va_get (D := (dC, dI)) (ci := 5) (v := .ref (h 12)) (C := RX5) (T := TX5) (N := 33) hx hb hts hin_X5 hown hK hP 0 rfl rfl 19 (by decide) hw4 (fun _ h9 => h9) rfl dX5_tries_84 ?_
              refine lv_iload hx hb dX5_tries_87 (lv_at hl 4 rfl) ?_
              refine lv_dup2_11 hx hb dX5_tries_89 rfl rfl ?_
              refine va_iald hx hb hK hP 12 0 rfl rfl (vp_in_nI (n := cc) (N := 4) (by omega) (by decide)) dX5_tries_90 ?_
              have hb_47 := bN_34 cc (by omega)
              refine lv_topi (fun x_48 ex_48 => ?_)
              obtain rfl : x_48 = nI (S_32 cc) := ex_48.trans ((congrArg (F_39 12) (nI_clamp (n := cc) (by omega))).trans (hN_43 cc (by omega)))
              refine lv_iload_n hx hb dX5_tries_91 rfl (lv_at hl 3 rfl) ?_
              refine lv_iadd hx hb dX5_tries_92 ?_
              refine lv_topi (fun x_49 ex_49 => ?_)
              obtain rfl : x_49 = nI ((S_32 cc) + (Pw (Ow 4))) := ex_49.trans (nI_add (S_32 cc) (Pw (Ow 4)))
              have hsk : S_32 cc = Lf cc - (Pw (Ow 4)) := by rw [eS_32]; exact if_pos rfl
              refine va_iast hx hb hK hP hD hS 12 0 rfl rfl (vp_in_nI (n := cc) (N := 4) (by omega) (by decide)) dX5_tries_93 (fun H locs hP hD hS => ?_)
              obtain ⟨F_50, eF_50⟩ : ∃ z : Nat → Nat → Int32, z = va_up F_39 12 (upd (F_39 12) (nI cc).toNatClampNeg (nI ((S_32 cc) + (Pw (Ow 4))))) := ⟨_, rfl⟩
              have hP : va_P (dC, dI) vwCl (wM cI cZ cJ h F_50 G V_40) H := by rw [eF_50]; exact hP
              have hD : va_D A (wM cI cZ cJ h F_50 G V_40) := by rw [eF_50]; exact hD
              have hN_51 : ∀ i, i < n → F_50 11 i = nI (Pw i) := by rw [eF_50]; exact hN_44
              have hN_52 : ∀ i, i < n → F_50 10 i = nI (Ow i) := by rw [eF_50]; exact hN_45
              obtain ⟨S_53, eS_53⟩ : ∃ z : Nat → Nat, z = nup S_32 cc ((S_32 cc) + (Pw (Ow 4))) := ⟨_, rfl⟩
              have hN_54 : ∀ i, i < 4 → F_50 12 i = nI (S_53 i) := by rw [eF_50, eS_53]; show ∀ i, i < 4 → upd (F_39 12) (nI cc).toNatClampNeg (nI ((S_32 cc) + (Pw (Ow 4)))) i = nI _; exact nf_put hN_43 (nI_clamp (n := cc) (by omega))
              have bN_55 : ∀ i, i < 4 → S_53 i ≤ 10000 := by rw [eS_53]; exact nb_put bN_34 (by omega)
              have hbk : S_53 = Lf := by rw [eS_53]; exact nup_back eS_32 (by omega) rfl
              rw [hbk] at hN_54
              refine lv_iinc (v := nI (cc + 1)) (lv' := [(4, .int (nI (cc + 1))), (0, .ref (h 0)), (1, .int 4), (2, .int p1), (3, .int (nI (Pw (Ow 4))))]) hx hb dX5_tries_94 hl (k := 4) rfl (nI_1 _) (by decide) rfl (fun ls hl => ?_)
              refine lv_goto (tgt := 42) hx hb dX5_tries_97 (by decide) ?_
              exact ih42 (cc + 1) F_50 V_40 (by omega) hN_54 (fun j hj => ((va_ne eF_50 (fun h => hj (by rw [h]; decide))).trans ((hf_41 j (fun h => hj ((by decide : ∀ x ∈ ([12] : List Nat), x ∈ ([12] : List Nat)) j h))).trans ((va_ne eF_29 (fun h => hj (by rw [h]; decide))).trans (hfr j hj))))) (fun j hj => (hv_42 j hj).trans (hvr j hj)) (by omega) H locs ls hP hD hS (lv_sub hl [1, 2, 3, 4, 0] rfl)
            · have c_25 : ¬ (Pw (Ow 4)) ≤ (Lf cc) := fun h => c_25 ((nI_leI (a := Pw (Ow 4)) (b := Lf cc) (by omega) (by omega)).mpr h)
              refine lv_goto (tgt := 94) hx hb dX5_tries_59 (by decide) ?_
              refine lv_iinc (v := nI (cc + 1)) (lv' := [(4, .int (nI (cc + 1))), (0, .ref (h 0)), (1, .int 4), (2, .int p1), (3, .int (nI (Pw (Ow 4))))]) hx hb dX5_tries_94 hl (k := 4) rfl (nI_1 _) (by decide) rfl (fun ls hl => ?_)
              refine lv_goto (tgt := 42) hx hb dX5_tries_97 (by decide) ?_
              exact ih42 (cc + 1) F1 V1 (by omega) hL (fun j hj => (hfr j hj)) (fun j hj => hvr j hj) (by omega) H locs ls hP hD hS (lv_sub hl [1, 2, 3, 4, 0] rfl)
      exact loop42 _ 0 F V (by omega) hLf (fun _ _ => rfl) (fun _ _ => rfl) (Nat.lt_succ_self _) H locs ls hP hD hS (lv_sub hl [2, 3, 4, 1, 0] rfl)
    · have c_3 : 4 = n := (nI_eq (a := 4) (b := n) (by omega) (by omega)).mp c_3
      refine lv_aload_n hx hb dX5_tries_14 rfl (lv_at hl 0 rfl) ?_
      refine lv_aload_n hx hb dX5_tries_15 rfl (lv_at hl 0 rfl) ?_
      refine va_get (D := (dC, dI)) (ci := 5) (v := .int (V 9)) (C := RX5) (T := TX5) (N := 33) hx hb hts hin_X5 hown hK hP 0 rfl rfl 24 (by decide) hw5 (fun _ h9 => h9) rfl dX5_tries_16 ?_
      refine lv_iload_n hx hb dX5_tries_19 rfl (lv_at hl 2 rfl) ?_
      refine va_mmax hx hb (hml.trans hl.1.symm) hown hw6 hw7 hw8 hw9 (Nat.le_of_ble_eq_true rfl) (Nat.le_of_ble_eq_true rfl) (Nat.le_of_ble_eq_true rfl) (Nat.le_of_ble_eq_true rfl) dX5_tries_20 ?_
      refine lv_topi (fun x_56 ex_56 => ?_)
      refine va_put (D := (dC, dI)) (ci := 5) (v := .int x_56) (ty := .int) (C := RX5) (T := TX5) (N := 33) hx hb hts hin_X5 tyX5 tyX5_ok nmX5 hown hK hP hD hS 0 rfl rfl 24 (by decide) hw5 (fun _ h9 => h9) rfl (by decide +kernel) rfl rfl (Nat.le_of_ble_eq_true rfl) dX5_tries_23 (fun H locs hP hD hS => ?_)
      have hP : va_P (dC, dI) vwCl (wM cI cZ cJ h F G (va_up V 9 x_56)) H := hP
      have hD : va_D A (wM cI cZ cJ h F G (va_up V 9 x_56)) := hD
      exact hret (F, va_up V 9 x_56) H locs 26 ls dX5_tries_26 (⟨fun _ _ => rfl, fun j hj => by show (va_up V 9 x_56) j = V j; simp only [va_up, if_neg hj], hLf⟩) (hP) (hD) hS
def rm_X5_tries3 : Room := { frames := 5, cells := 0, slots := 0, locals := 110 }
set_option maxHeartbeats 4000000 in
set_option maxRecDepth 100000 in
theorem c_X5_tries3 (l : Launch) (dC : Nat → ClassId) (dI : Nat → Nat → Nat) (cI cZ cJ : ClassId) (h : Nat → Nat) (F : Nat → Nat → Int32) (G : Nat → Int64) (V : Nat → Int32) (n : Nat) (hV2 : V 2 = nI n) (bV2 : n ≤ 40) (Pw : Nat → Nat) (hPw : ∀ i, i < n → F 11 i = nI (Pw i)) (bPw : ∀ i, i < n → Pw i ≤ 100) (Ow : Nat → Nat) (hOw : ∀ i, i < n → F 10 i = nI (Ow i)) (bOw : ∀ i, i < n → Ow i ≤ n - 1) (Lf : Nat → Nat) (hLf : ∀ i, i < 4 → F 12 i = nI (Lf i)) (bLf : ∀ i, i < 4 → Lf i ≤ 10000) (p1 : Int32)  (hkn : 3 ≤ n) : CtV l (dC, dI) vwCl (tys3 cI cZ cJ) yX5_tries wsX5_tries rm_X5_tries3 [.ref (h 0), .int 3, .int p1] (wM cI cZ cJ h F G V) (S := (Nat → Nat → Int32) × (Nat → Int32)) (fun u => (∀ j, j ∉ ([12] : List Nat) → u.1 j = F j) ∧ (∀ j, j ≠ 9 → u.2 j = V j) ∧ ∀ i, i < 4 → u.1 12 i = nI (Lf i)) (fun u => wM cI cZ cJ h u.1 G u.2) 0 0 := by
  refine ct_V (cc := cX5_tries) (maxL := 5) (own := RX5) (by decide) rfl rfl (Nat.le_of_ble_eq_true rfl) (lv := [(0, .ref (h 0)), (1, .int 3), (2, .int p1)]) rfl ?_
  intro p e s m args below meth c A Q ls hnm fx hK hP hD hA hl hret
  obtain ⟨hx, hb, hml, hown, hts⟩ := id fx
  have hS : va_S A s.heap s.heap [] := va_S.rf
  have hw0 := hts (.fieldLink RX5 91 "MirrorTowerModel" "mirrors" "I") (by decide +kernel)
  have hin_X5 : ∀ w ∈ u_ws RX5 TX5 33, w ∈ wsX5_tries := by decide +kernel
  have hw2 := hts (.fieldLink RX5 50 "MirrorTowerModel" "power" "[I") (by decide +kernel)
  have hw3 := hts (.fieldLink RX5 47 "MirrorTowerModel" "order" "[I") (by decide +kernel)
  have hw4 := hts (.fieldLink RX5 53 "MirrorTowerModel" "left" "[I") (by decide +kernel)
  have hw5 := hts (.fieldLink RX5 148 "MirrorTowerModel" "most" "I") (by decide +kernel)
  have hw6 := hts (.methodLink RX5 134 Lib.Math.max.name) (by decide +kernel)
  have hw7 := hts (.static Lib.Math.max.name) (by decide +kernel)
  have hw8 := hts (.initialized "java/lang/Math") (by decide +kernel)
  have hw9 := hts (.code Lib.Math.max.name Lib.Math.max.code 2 (some .int)) (by decide +kernel)
  obtain ⟨H, hH⟩ : ∃ H, H = s.heap := ⟨_, rfl⟩
  rw [← hH] at hP ⊢
  have hS : va_S A s.heap H [] := by rw [hH]; exact hS
  generalize ([] : List Loc) = locs at hS ⊢
  refine lv_iload_n hx hb dX5_tries_0 rfl (lv_at hl 1 rfl) ?_
  refine lv_bipush (v := 7) hx hb dX5_tries_1 (by decide) ?_
  refine lv_icmp_eq (tgt := 14) hx hb dX5_tries_3 (by decide) (fun c_1 => ?_) (fun c_1 => ?_)
  · exact absurd c_1 (by decide)
  · refine lv_iload_n hx hb dX5_tries_6 rfl (lv_at hl 1 rfl) ?_
    refine lv_aload_n hx hb dX5_tries_7 rfl (lv_at hl 0 rfl) ?_
    refine va_get (D := (dC, dI)) (ci := 5) (v := .int (V 2)) (C := RX5) (T := TX5) (N := 33) hx hb hts hin_X5 hown hK hP 0 rfl rfl 2 (by decide) hw0 (fun _ h9 => h9) rfl dX5_tries_8 ?_
    refine lv_topi (fun x_2 ex_2 => ?_)
    obtain rfl : x_2 = nI n := ex_2.trans (hV2)
    refine lv_icmp_ne (tgt := 27) hx hb dX5_tries_11 (by decide) (fun c_3 => ?_) (fun c_3 => ?_)
    · have c_3 : ¬ 3 = n := fun h => c_3 ((nI_eq (a := 3) (b := n) (by omega) (by omega)).mpr h)
      refine lv_aload_n hx hb dX5_tries_27 rfl (lv_at hl 0 rfl) ?_
      refine va_get (D := (dC, dI)) (ci := 5) (v := .ref (h 11)) (C := RX5) (T := TX5) (N := 33) hx hb hts hin_X5 hown hK hP 0 rfl rfl 18 (by decide) hw2 (fun _ h9 => h9) rfl dX5_tries_28 ?_
      refine lv_aload_n hx hb dX5_tries_31 rfl (lv_at hl 0 rfl) ?_
      refine va_get (D := (dC, dI)) (ci := 5) (v := .ref (h 10)) (C := RX5) (T := TX5) (N := 33) hx hb hts hin_X5 hown hK hP 0 rfl rfl 17 (by decide) hw3 (fun _ h9 => h9) rfl dX5_tries_32 ?_
      refine lv_iload_n hx hb dX5_tries_35 rfl (lv_at hl 1 rfl) ?_
      refine va_iald hx hb hK hP 10 0 rfl rfl (vp_in_nI (n := 3) (N := 40) (by decide) (by decide)) dX5_tries_36 ?_
      have hb_4 := bOw 3 (by omega)
      refine lv_topi (fun x_5 ex_5 => ?_)
      obtain rfl : x_5 = nI (Ow 3) := ex_5.trans ((congrArg (F 10) (by decide : (3 : Int32).toNatClampNeg = 3)).trans (hOw 3 (by omega)))
      refine va_iald hx hb hK hP 11 0 rfl rfl (vp_in_nI (n := Ow 3) (N := 40) (by omega) (by decide)) dX5_tries_37 ?_
      have hb_6 := bPw (Ow 3) (by omega)
      refine lv_topi (fun x_7 ex_7 => ?_)
      obtain rfl : x_7 = nI (Pw (Ow 3)) := ex_7.trans ((congrArg (F 11) (nI_clamp (n := Ow 3) (by omega))).trans (hPw (Ow 3) (by omega)))
      refine lv_istore_n (lv' := [(3, .int (nI (Pw (Ow 3)))), (0, .ref (h 0)), (1, .int 3), (2, .int p1)]) hx hb dX5_tries_38 rfl hl (by decide) rfl (fun ls hl => ?_)
      refine lv_iconst (v := 0) hx hb dX5_tries_39 (by decide) ?_
      refine lv_istore (lv' := [(4, .int 0), (3, .int (nI (Pw (Ow 3)))), (0, .ref (h 0)), (1, .int 3), (2, .int p1)]) hx hb dX5_tries_40 hl (by decide) rfl (fun ls hl => ?_)
      have loop42 : ∀ (fu : Nat) (cc : Nat) (F1 : Nat → Nat → Int32) (V1 : Nat → Int32), (cc ≤ 4) → (∀ i, i < 4 → F1 12 i = nI (Lf i)) → (∀ j, j ∉ ([12] : List Nat) → F1 j = F j) → (∀ j, j ≠ 9 → V1 j = V j) → (4 - cc) < fu → ∀ (H : Heap) (locs : List Loc) (ls : Array Slot), va_P (dC, dI) vwCl (wM cI cZ cJ h F1 G V1) H → va_D A (wM cI cZ cJ h F1 G V1) → va_S A s.heap H locs → lv_has ls 5 [(0, .ref (h 0)), (1, .int 3), (2, .int p1), (3, .int (nI (Pw (Ow 3)))), (4, .int (nI cc))] → W p l e rm_X5_tries3 s m args below meth c H locs 0 0 Q (F0 m 42 ls []) := by
        intro fu
        induction fu with
        | zero => intro cc F1 V1 hc hL hfr hvr hn_; exact absurd hn_ (Nat.not_lt_zero _)
        | succ fu ih42 =>
          intro cc F1 V1 hc hL hfr hvr hn_ H locs ls hP hD hS hl
          have hN_8 : ∀ i, i < n → F1 11 i = nI (Pw i) := by rw [hfr 11 (by decide)]; exact hPw
          have hN_9 : ∀ i, i < n → F1 10 i = nI (Ow i) := by rw [hfr 10 (by decide)]; exact hOw
          have hV2_ : V1 2 = nI n := by rw [hvr 2 (by decide)]; exact hV2
          refine lv_iload hx hb dX5_tries_42 (lv_at hl 4 rfl) ?_
          refine lv_iconst (v := 4) hx hb dX5_tries_44 (by decide) ?_
          refine lv_icmp_ge (tgt := 100) hx hb dX5_tries_45 (by decide) (fun c_10 => ?_) (fun c_10 => ?_)
          · have c_10 : 4 ≤ cc := (nI_leI (a := 4) (b := cc) (by omega) (by omega)).mp c_10
            refine lv_aload_n hx hb dX5_tries_100 rfl (lv_at hl 0 rfl) ?_
            refine lv_iload_n hx hb dX5_tries_101 rfl (lv_at hl 1 rfl) ?_
            refine lv_iconst (v := 1) hx hb dX5_tries_102 (by decide) ?_
            refine lv_iadd hx hb dX5_tries_103 ?_
            refine lv_topi (fun x_11 ex_11 => ?_)
            obtain rfl : x_11 = 4 := ex_11.trans (by decide)
            refine lv_iload_n hx hb dX5_tries_104 rfl (lv_at hl 2 rfl) ?_
            refine cw_Vv (As := [.int 4, .int p1]) (rest := []) (c_X5_tries4 l dC dI cI cZ cJ h F1 G V1 n hV2_ (by omega) Pw hN_8 bPw Ow hN_9 bOw Lf hL bLf p1 (by omega)) fx (cwV 2 hts gX5_tries_X5_tries rfl rfl rfl (by decide +kernel) ⟨Nat.le_of_ble_eq_true rfl, Nat.le_of_ble_eq_true rfl⟩) hK hP hD hS hA 0 rfl rfl rfl rfl hl.1 rfl (Nat.le_of_ble_eq_true rfl) dX5_tries_105 ⟨Nat.le_of_ble_eq_true rfl, Nat.le_of_ble_eq_true rfl⟩ (fun u_13 H locs hw_14 hP hD hS => ?_)
            obtain ⟨F_15, V_16⟩ := u_13
            have hf_17 : ∀ j, j ∉ ([12] : List Nat) → F_15 j = F1 j := hw_14.1
            have hv_18 : ∀ j, j ≠ 9 → V_16 j = V1 j := hw_14.2.1
            have hN_19 : ∀ i, i < 4 → F_15 12 i = nI (Lf i) := hw_14.2.2
            have hP : va_P (dC, dI) vwCl (wM cI cZ cJ h F_15 G V_16) H := hP
            have hD : va_D A (wM cI cZ cJ h F_15 G V_16) := hD
            have hN_20 : ∀ i, i < n → F_15 11 i = nI (Pw i) := by rw [hf_17 11 (by decide)]; exact hN_8
            have hN_21 : ∀ i, i < n → F_15 10 i = nI (Ow i) := by rw [hf_17 10 (by decide)]; exact hN_9
            have hV_22 : V_16 2 = nI n := by rw [hv_18 2 (by decide)]; exact hV2_
            exact hret (F_15, V_16) H locs 108 ls dX5_tries_108 (⟨fun j hj => ((hf_17 j (fun h => hj ((by decide : ∀ x ∈ ([12] : List Nat), x ∈ ([12] : List Nat)) j h))).trans (hfr j hj)), fun j hj => (hv_18 j hj).trans (hvr j hj), hN_19⟩) (hP) (hD) hS
          · have c_10 : ¬ 4 ≤ cc := fun h => c_10 ((nI_leI (a := 4) (b := cc) (by omega) (by omega)).mpr h)
            refine lv_iload_n hx hb dX5_tries_48 rfl (lv_at hl 3 rfl) ?_
            refine lv_aload_n hx hb dX5_tries_49 rfl (lv_at hl 0 rfl) ?_
            refine va_get (D := (dC, dI)) (ci := 5) (v := .ref (h 12)) (C := RX5) (T := TX5) (N := 33) hx hb hts hin_X5 hown hK hP 0 rfl rfl 19 (by decide) hw4 (fun _ h9 => h9) rfl dX5_tries_50 ?_
            refine lv_iload hx hb dX5_tries_53 (lv_at hl 4 rfl) ?_
            refine va_iald hx hb hK hP 12 0 rfl rfl (vp_in_nI (n := cc) (N := 4) (by omega) (by decide)) dX5_tries_55 ?_
            have hb_23 := bLf cc (by omega)
            refine lv_topi (fun x_24 ex_24 => ?_)
            obtain rfl : x_24 = nI (Lf cc) := ex_24.trans ((congrArg (F1 12) (nI_clamp (n := cc) (by omega))).trans (hL cc (by omega)))
            refine lv_icmp_le (tgt := 62) hx hb dX5_tries_56 (by decide) (fun c_25 => ?_) (fun c_25 => ?_)
            · have c_25 : (Pw (Ow 3)) ≤ (Lf cc) := (nI_leI (a := Pw (Ow 3)) (b := Lf cc) (by omega) (by omega)).mp c_25
              refine lv_aload_n hx hb dX5_tries_62 rfl (lv_at hl 0 rfl) ?_
              refine va_get (D := (dC, dI)) (ci := 5) (v := .ref (h 12)) (C := RX5) (T := TX5) (N := 33) hx hb hts hin_X5 hown hK hP 0 rfl rfl 19 (by decide) hw4 (fun _ h9 => h9) rfl dX5_tries_63 ?_
              refine lv_iload hx hb dX5_tries_66 (lv_at hl 4 rfl) ?_
              refine lv_dup2_11 hx hb dX5_tries_68 rfl rfl ?_
              refine va_iald hx hb hK hP 12 0 rfl rfl (vp_in_nI (n := cc) (N := 4) (by omega) (by decide)) dX5_tries_69 ?_
              have hb_26 := bLf cc (by omega)
              refine lv_topi (fun x_27 ex_27 => ?_)
              obtain rfl : x_27 = nI (Lf cc) := ex_27.trans ((congrArg (F1 12) (nI_clamp (n := cc) (by omega))).trans (hL cc (by omega)))
              refine lv_iload_n hx hb dX5_tries_70 rfl (lv_at hl 3 rfl) ?_
              refine lv_isub hx hb dX5_tries_71 ?_
              refine lv_topi (fun x_28 ex_28 => ?_)
              obtain rfl : x_28 = nI ((Lf cc) - (Pw (Ow 3))) := ex_28.trans (pk_sub (a := Lf cc) (b := Pw (Ow 3)) (by omega))
              refine va_iast hx hb hK hP hD hS 12 0 rfl rfl (vp_in_nI (n := cc) (N := 4) (by omega) (by decide)) dX5_tries_72 (fun H locs hP hD hS => ?_)
              obtain ⟨F_29, eF_29⟩ : ∃ z : Nat → Nat → Int32, z = va_up F1 12 (upd (F1 12) (nI cc).toNatClampNeg (nI ((Lf cc) - (Pw (Ow 3))))) := ⟨_, rfl⟩
              have hP : va_P (dC, dI) vwCl (wM cI cZ cJ h F_29 G V1) H := by rw [eF_29]; exact hP
              have hD : va_D A (wM cI cZ cJ h F_29 G V1) := by rw [eF_29]; exact hD
              have hN_30 : ∀ i, i < n → F_29 11 i = nI (Pw i) := by rw [eF_29]; exact hN_8
              have hN_31 : ∀ i, i < n → F_29 10 i = nI (Ow i) := by rw [eF_29]; exact hN_9
              obtain ⟨S_32, eS_32⟩ : ∃ z : Nat → Nat, z = nup Lf cc ((Lf cc) - (Pw (Ow 3))) := ⟨_, rfl⟩
              have hN_33 : ∀ i, i < 4 → F_29 12 i = nI (S_32 i) := by rw [eF_29, eS_32]; show ∀ i, i < 4 → upd (F1 12) (nI cc).toNatClampNeg (nI ((Lf cc) - (Pw (Ow 3)))) i = nI _; exact nf_put hL (nI_clamp (n := cc) (by omega))
              have bN_34 : ∀ i, i < 4 → S_32 i ≤ 10000 := by rw [eS_32]; exact nb_put bLf (by omega)
              refine lv_aload_n hx hb dX5_tries_73 rfl (lv_at hl 0 rfl) ?_
              refine lv_iload_n hx hb dX5_tries_74 rfl (lv_at hl 1 rfl) ?_
              refine lv_iconst (v := 1) hx hb dX5_tries_75 (by decide) ?_
              refine lv_iadd hx hb dX5_tries_76 ?_
              refine lv_topi (fun x_35 ex_35 => ?_)
              obtain rfl : x_35 = 4 := ex_35.trans (by decide)
              refine lv_iload_n hx hb dX5_tries_77 rfl (lv_at hl 2 rfl) ?_
              refine lv_iload_n hx hb dX5_tries_78 rfl (lv_at hl 3 rfl) ?_
              refine lv_iadd hx hb dX5_tries_79 ?_
              refine cw_Vv (As := [.int 4, .int (p1 + (nI (Pw (Ow 3))))]) (rest := []) (c_X5_tries4 l dC dI cI cZ cJ h F_29 G V1 n hV2_ (by omega) Pw hN_30 bPw Ow hN_31 bOw S_32 hN_33 bN_34 (p1 + (nI (Pw (Ow 3)))) (by omega)) fx (cwV 2 hts gX5_tries_X5_tries rfl rfl rfl (by decide +kernel) ⟨Nat.le_of_ble_eq_true rfl, Nat.le_of_ble_eq_true rfl⟩) hK hP hD hS hA 0 rfl rfl rfl rfl hl.1 rfl (Nat.le_of_ble_eq_true rfl) dX5_tries_80 ⟨Nat.le_of_ble_eq_true rfl, Nat.le_of_ble_eq_true rfl⟩ (fun u_37 H locs hw_38 hP hD hS => ?_)
              obtain ⟨F_39, V_40⟩ := u_37
              have hf_41 : ∀ j, j ∉ ([12] : List Nat) → F_39 j = F_29 j := hw_38.1
              have hv_42 : ∀ j, j ≠ 9 → V_40 j = V1 j := hw_38.2.1
              have hN_43 : ∀ i, i < 4 → F_39 12 i = nI (S_32 i) := hw_38.2.2
              have hP : va_P (dC, dI) vwCl (wM cI cZ cJ h F_39 G V_40) H := hP
              have hD : va_D A (wM cI cZ cJ h F_39 G V_40) := hD
              have hN_44 : ∀ i, i < n → F_39 11 i = nI (Pw i) := by rw [hf_41 11 (by decide)]; exact hN_30
              have hN_45 : ∀ i, i < n → F_39 10 i = nI (Ow i) := by rw [hf_41 10 (by decide)]; exact hN_31
              have hV_46 : V_40 2 = nI n := by rw [hv_42 2 (by decide)]; exact hV2_
              refine lv_aload_n hx hb dX5_tries_83 rfl (lv_at hl 0 rfl) ?_
              refine va_get (D := (dC, dI)) (ci := 5) (v := .ref (h 12)) (C := RX5) (T := TX5) (N := 33) hx hb hts hin_X5 hown hK hP 0 rfl rfl 19 (by decide) hw4 (fun _ h9 => h9) rfl dX5_tries_84 ?_
              refine lv_iload hx hb dX5_tries_87 (lv_at hl 4 rfl) ?_
              refine lv_dup2_11 hx hb dX5_tries_89 rfl rfl ?_
              refine va_iald hx hb hK hP 12 0 rfl rfl (vp_in_nI (n := cc) (N := 4) (by omega) (by decide)) dX5_tries_90 ?_
              have hb_47 := bN_34 cc (by omega)
              refine lv_topi (fun x_48 ex_48 => ?_)
              obtain rfl : x_48 = nI (S_32 cc) := ex_48.trans ((congrArg (F_39 12) (nI_clamp (n := cc) (by omega))).trans (hN_43 cc (by omega)))
              refine lv_iload_n hx hb dX5_tries_91 rfl (lv_at hl 3 rfl) ?_
              refine lv_iadd hx hb dX5_tries_92 ?_
              refine lv_topi (fun x_49 ex_49 => ?_)
              obtain rfl : x_49 = nI ((S_32 cc) + (Pw (Ow 3))) := ex_49.trans (nI_add (S_32 cc) (Pw (Ow 3)))
              have hsk : S_32 cc = Lf cc - (Pw (Ow 3)) := by rw [eS_32]; exact if_pos rfl
              refine va_iast hx hb hK hP hD hS 12 0 rfl rfl (vp_in_nI (n := cc) (N := 4) (by omega) (by decide)) dX5_tries_93 (fun H locs hP hD hS => ?_)
              obtain ⟨F_50, eF_50⟩ : ∃ z : Nat → Nat → Int32, z = va_up F_39 12 (upd (F_39 12) (nI cc).toNatClampNeg (nI ((S_32 cc) + (Pw (Ow 3))))) := ⟨_, rfl⟩
              have hP : va_P (dC, dI) vwCl (wM cI cZ cJ h F_50 G V_40) H := by rw [eF_50]; exact hP
              have hD : va_D A (wM cI cZ cJ h F_50 G V_40) := by rw [eF_50]; exact hD
              have hN_51 : ∀ i, i < n → F_50 11 i = nI (Pw i) := by rw [eF_50]; exact hN_44
              have hN_52 : ∀ i, i < n → F_50 10 i = nI (Ow i) := by rw [eF_50]; exact hN_45
              obtain ⟨S_53, eS_53⟩ : ∃ z : Nat → Nat, z = nup S_32 cc ((S_32 cc) + (Pw (Ow 3))) := ⟨_, rfl⟩
              have hN_54 : ∀ i, i < 4 → F_50 12 i = nI (S_53 i) := by rw [eF_50, eS_53]; show ∀ i, i < 4 → upd (F_39 12) (nI cc).toNatClampNeg (nI ((S_32 cc) + (Pw (Ow 3)))) i = nI _; exact nf_put hN_43 (nI_clamp (n := cc) (by omega))
              have bN_55 : ∀ i, i < 4 → S_53 i ≤ 10000 := by rw [eS_53]; exact nb_put bN_34 (by omega)
              have hbk : S_53 = Lf := by rw [eS_53]; exact nup_back eS_32 (by omega) rfl
              rw [hbk] at hN_54
              refine lv_iinc (v := nI (cc + 1)) (lv' := [(4, .int (nI (cc + 1))), (0, .ref (h 0)), (1, .int 3), (2, .int p1), (3, .int (nI (Pw (Ow 3))))]) hx hb dX5_tries_94 hl (k := 4) rfl (nI_1 _) (by decide) rfl (fun ls hl => ?_)
              refine lv_goto (tgt := 42) hx hb dX5_tries_97 (by decide) ?_
              exact ih42 (cc + 1) F_50 V_40 (by omega) hN_54 (fun j hj => ((va_ne eF_50 (fun h => hj (by rw [h]; decide))).trans ((hf_41 j (fun h => hj ((by decide : ∀ x ∈ ([12] : List Nat), x ∈ ([12] : List Nat)) j h))).trans ((va_ne eF_29 (fun h => hj (by rw [h]; decide))).trans (hfr j hj))))) (fun j hj => (hv_42 j hj).trans (hvr j hj)) (by omega) H locs ls hP hD hS (lv_sub hl [1, 2, 3, 4, 0] rfl)
            · have c_25 : ¬ (Pw (Ow 3)) ≤ (Lf cc) := fun h => c_25 ((nI_leI (a := Pw (Ow 3)) (b := Lf cc) (by omega) (by omega)).mpr h)
              refine lv_goto (tgt := 94) hx hb dX5_tries_59 (by decide) ?_
              refine lv_iinc (v := nI (cc + 1)) (lv' := [(4, .int (nI (cc + 1))), (0, .ref (h 0)), (1, .int 3), (2, .int p1), (3, .int (nI (Pw (Ow 3))))]) hx hb dX5_tries_94 hl (k := 4) rfl (nI_1 _) (by decide) rfl (fun ls hl => ?_)
              refine lv_goto (tgt := 42) hx hb dX5_tries_97 (by decide) ?_
              exact ih42 (cc + 1) F1 V1 (by omega) hL (fun j hj => (hfr j hj)) (fun j hj => hvr j hj) (by omega) H locs ls hP hD hS (lv_sub hl [1, 2, 3, 4, 0] rfl)
      exact loop42 _ 0 F V (by omega) hLf (fun _ _ => rfl) (fun _ _ => rfl) (Nat.lt_succ_self _) H locs ls hP hD hS (lv_sub hl [2, 3, 4, 1, 0] rfl)
    · have c_3 : 3 = n := (nI_eq (a := 3) (b := n) (by omega) (by omega)).mp c_3
      refine lv_aload_n hx hb dX5_tries_14 rfl (lv_at hl 0 rfl) ?_
      refine lv_aload_n hx hb dX5_tries_15 rfl (lv_at hl 0 rfl) ?_
      refine va_get (D := (dC, dI)) (ci := 5) (v := .int (V 9)) (C := RX5) (T := TX5) (N := 33) hx hb hts hin_X5 hown hK hP 0 rfl rfl 24 (by decide) hw5 (fun _ h9 => h9) rfl dX5_tries_16 ?_
      refine lv_iload_n hx hb dX5_tries_19 rfl (lv_at hl 2 rfl) ?_
      refine va_mmax hx hb (hml.trans hl.1.symm) hown hw6 hw7 hw8 hw9 (Nat.le_of_ble_eq_true rfl) (Nat.le_of_ble_eq_true rfl) (Nat.le_of_ble_eq_true rfl) (Nat.le_of_ble_eq_true rfl) dX5_tries_20 ?_
      refine lv_topi (fun x_56 ex_56 => ?_)
      refine va_put (D := (dC, dI)) (ci := 5) (v := .int x_56) (ty := .int) (C := RX5) (T := TX5) (N := 33) hx hb hts hin_X5 tyX5 tyX5_ok nmX5 hown hK hP hD hS 0 rfl rfl 24 (by decide) hw5 (fun _ h9 => h9) rfl (by decide +kernel) rfl rfl (Nat.le_of_ble_eq_true rfl) dX5_tries_23 (fun H locs hP hD hS => ?_)
      have hP : va_P (dC, dI) vwCl (wM cI cZ cJ h F G (va_up V 9 x_56)) H := hP
      have hD : va_D A (wM cI cZ cJ h F G (va_up V 9 x_56)) := hD
      exact hret (F, va_up V 9 x_56) H locs 26 ls dX5_tries_26 (⟨fun _ _ => rfl, fun j hj => by show (va_up V 9 x_56) j = V j; simp only [va_up, if_neg hj], hLf⟩) (hP) (hD) hS
def rm_X5_tries2 : Room := { frames := 6, cells := 0, slots := 0, locals := 134 }
set_option maxHeartbeats 4000000 in
set_option maxRecDepth 100000 in
theorem c_X5_tries2 (l : Launch) (dC : Nat → ClassId) (dI : Nat → Nat → Nat) (cI cZ cJ : ClassId) (h : Nat → Nat) (F : Nat → Nat → Int32) (G : Nat → Int64) (V : Nat → Int32) (n : Nat) (hV2 : V 2 = nI n) (bV2 : n ≤ 40) (Pw : Nat → Nat) (hPw : ∀ i, i < n → F 11 i = nI (Pw i)) (bPw : ∀ i, i < n → Pw i ≤ 100) (Ow : Nat → Nat) (hOw : ∀ i, i < n → F 10 i = nI (Ow i)) (bOw : ∀ i, i < n → Ow i ≤ n - 1) (Lf : Nat → Nat) (hLf : ∀ i, i < 4 → F 12 i = nI (Lf i)) (bLf : ∀ i, i < 4 → Lf i ≤ 10000) (p1 : Int32)  (hkn : 2 ≤ n) : CtV l (dC, dI) vwCl (tys3 cI cZ cJ) yX5_tries wsX5_tries rm_X5_tries2 [.ref (h 0), .int 2, .int p1] (wM cI cZ cJ h F G V) (S := (Nat → Nat → Int32) × (Nat → Int32)) (fun u => (∀ j, j ∉ ([12] : List Nat) → u.1 j = F j) ∧ (∀ j, j ≠ 9 → u.2 j = V j) ∧ ∀ i, i < 4 → u.1 12 i = nI (Lf i)) (fun u => wM cI cZ cJ h u.1 G u.2) 0 0 := by
  refine ct_V (cc := cX5_tries) (maxL := 5) (own := RX5) (by decide) rfl rfl (Nat.le_of_ble_eq_true rfl) (lv := [(0, .ref (h 0)), (1, .int 2), (2, .int p1)]) rfl ?_
  intro p e s m args below meth c A Q ls hnm fx hK hP hD hA hl hret
  obtain ⟨hx, hb, hml, hown, hts⟩ := id fx
  have hS : va_S A s.heap s.heap [] := va_S.rf
  have hw0 := hts (.fieldLink RX5 91 "MirrorTowerModel" "mirrors" "I") (by decide +kernel)
  have hin_X5 : ∀ w ∈ u_ws RX5 TX5 33, w ∈ wsX5_tries := by decide +kernel
  have hw2 := hts (.fieldLink RX5 50 "MirrorTowerModel" "power" "[I") (by decide +kernel)
  have hw3 := hts (.fieldLink RX5 47 "MirrorTowerModel" "order" "[I") (by decide +kernel)
  have hw4 := hts (.fieldLink RX5 53 "MirrorTowerModel" "left" "[I") (by decide +kernel)
  have hw5 := hts (.fieldLink RX5 148 "MirrorTowerModel" "most" "I") (by decide +kernel)
  have hw6 := hts (.methodLink RX5 134 Lib.Math.max.name) (by decide +kernel)
  have hw7 := hts (.static Lib.Math.max.name) (by decide +kernel)
  have hw8 := hts (.initialized "java/lang/Math") (by decide +kernel)
  have hw9 := hts (.code Lib.Math.max.name Lib.Math.max.code 2 (some .int)) (by decide +kernel)
  obtain ⟨H, hH⟩ : ∃ H, H = s.heap := ⟨_, rfl⟩
  rw [← hH] at hP ⊢
  have hS : va_S A s.heap H [] := by rw [hH]; exact hS
  generalize ([] : List Loc) = locs at hS ⊢
  refine lv_iload_n hx hb dX5_tries_0 rfl (lv_at hl 1 rfl) ?_
  refine lv_bipush (v := 7) hx hb dX5_tries_1 (by decide) ?_
  refine lv_icmp_eq (tgt := 14) hx hb dX5_tries_3 (by decide) (fun c_1 => ?_) (fun c_1 => ?_)
  · exact absurd c_1 (by decide)
  · refine lv_iload_n hx hb dX5_tries_6 rfl (lv_at hl 1 rfl) ?_
    refine lv_aload_n hx hb dX5_tries_7 rfl (lv_at hl 0 rfl) ?_
    refine va_get (D := (dC, dI)) (ci := 5) (v := .int (V 2)) (C := RX5) (T := TX5) (N := 33) hx hb hts hin_X5 hown hK hP 0 rfl rfl 2 (by decide) hw0 (fun _ h9 => h9) rfl dX5_tries_8 ?_
    refine lv_topi (fun x_2 ex_2 => ?_)
    obtain rfl : x_2 = nI n := ex_2.trans (hV2)
    refine lv_icmp_ne (tgt := 27) hx hb dX5_tries_11 (by decide) (fun c_3 => ?_) (fun c_3 => ?_)
    · have c_3 : ¬ 2 = n := fun h => c_3 ((nI_eq (a := 2) (b := n) (by omega) (by omega)).mpr h)
      refine lv_aload_n hx hb dX5_tries_27 rfl (lv_at hl 0 rfl) ?_
      refine va_get (D := (dC, dI)) (ci := 5) (v := .ref (h 11)) (C := RX5) (T := TX5) (N := 33) hx hb hts hin_X5 hown hK hP 0 rfl rfl 18 (by decide) hw2 (fun _ h9 => h9) rfl dX5_tries_28 ?_
      refine lv_aload_n hx hb dX5_tries_31 rfl (lv_at hl 0 rfl) ?_
      refine va_get (D := (dC, dI)) (ci := 5) (v := .ref (h 10)) (C := RX5) (T := TX5) (N := 33) hx hb hts hin_X5 hown hK hP 0 rfl rfl 17 (by decide) hw3 (fun _ h9 => h9) rfl dX5_tries_32 ?_
      refine lv_iload_n hx hb dX5_tries_35 rfl (lv_at hl 1 rfl) ?_
      refine va_iald hx hb hK hP 10 0 rfl rfl (vp_in_nI (n := 2) (N := 40) (by decide) (by decide)) dX5_tries_36 ?_
      have hb_4 := bOw 2 (by omega)
      refine lv_topi (fun x_5 ex_5 => ?_)
      obtain rfl : x_5 = nI (Ow 2) := ex_5.trans ((congrArg (F 10) (by decide : (2 : Int32).toNatClampNeg = 2)).trans (hOw 2 (by omega)))
      refine va_iald hx hb hK hP 11 0 rfl rfl (vp_in_nI (n := Ow 2) (N := 40) (by omega) (by decide)) dX5_tries_37 ?_
      have hb_6 := bPw (Ow 2) (by omega)
      refine lv_topi (fun x_7 ex_7 => ?_)
      obtain rfl : x_7 = nI (Pw (Ow 2)) := ex_7.trans ((congrArg (F 11) (nI_clamp (n := Ow 2) (by omega))).trans (hPw (Ow 2) (by omega)))
      refine lv_istore_n (lv' := [(3, .int (nI (Pw (Ow 2)))), (0, .ref (h 0)), (1, .int 2), (2, .int p1)]) hx hb dX5_tries_38 rfl hl (by decide) rfl (fun ls hl => ?_)
      refine lv_iconst (v := 0) hx hb dX5_tries_39 (by decide) ?_
      refine lv_istore (lv' := [(4, .int 0), (3, .int (nI (Pw (Ow 2)))), (0, .ref (h 0)), (1, .int 2), (2, .int p1)]) hx hb dX5_tries_40 hl (by decide) rfl (fun ls hl => ?_)
      have loop42 : ∀ (fu : Nat) (cc : Nat) (F1 : Nat → Nat → Int32) (V1 : Nat → Int32), (cc ≤ 4) → (∀ i, i < 4 → F1 12 i = nI (Lf i)) → (∀ j, j ∉ ([12] : List Nat) → F1 j = F j) → (∀ j, j ≠ 9 → V1 j = V j) → (4 - cc) < fu → ∀ (H : Heap) (locs : List Loc) (ls : Array Slot), va_P (dC, dI) vwCl (wM cI cZ cJ h F1 G V1) H → va_D A (wM cI cZ cJ h F1 G V1) → va_S A s.heap H locs → lv_has ls 5 [(0, .ref (h 0)), (1, .int 2), (2, .int p1), (3, .int (nI (Pw (Ow 2)))), (4, .int (nI cc))] → W p l e rm_X5_tries2 s m args below meth c H locs 0 0 Q (F0 m 42 ls []) := by
        intro fu
        induction fu with
        | zero => intro cc F1 V1 hc hL hfr hvr hn_; exact absurd hn_ (Nat.not_lt_zero _)
        | succ fu ih42 =>
          intro cc F1 V1 hc hL hfr hvr hn_ H locs ls hP hD hS hl
          have hN_8 : ∀ i, i < n → F1 11 i = nI (Pw i) := by rw [hfr 11 (by decide)]; exact hPw
          have hN_9 : ∀ i, i < n → F1 10 i = nI (Ow i) := by rw [hfr 10 (by decide)]; exact hOw
          have hV2_ : V1 2 = nI n := by rw [hvr 2 (by decide)]; exact hV2
          refine lv_iload hx hb dX5_tries_42 (lv_at hl 4 rfl) ?_
          refine lv_iconst (v := 4) hx hb dX5_tries_44 (by decide) ?_
          refine lv_icmp_ge (tgt := 100) hx hb dX5_tries_45 (by decide) (fun c_10 => ?_) (fun c_10 => ?_)
          · have c_10 : 4 ≤ cc := (nI_leI (a := 4) (b := cc) (by omega) (by omega)).mp c_10
            refine lv_aload_n hx hb dX5_tries_100 rfl (lv_at hl 0 rfl) ?_
            refine lv_iload_n hx hb dX5_tries_101 rfl (lv_at hl 1 rfl) ?_
            refine lv_iconst (v := 1) hx hb dX5_tries_102 (by decide) ?_
            refine lv_iadd hx hb dX5_tries_103 ?_
            refine lv_topi (fun x_11 ex_11 => ?_)
            obtain rfl : x_11 = 3 := ex_11.trans (by decide)
            refine lv_iload_n hx hb dX5_tries_104 rfl (lv_at hl 2 rfl) ?_
            refine cw_Vv (As := [.int 3, .int p1]) (rest := []) (c_X5_tries3 l dC dI cI cZ cJ h F1 G V1 n hV2_ (by omega) Pw hN_8 bPw Ow hN_9 bOw Lf hL bLf p1 (by omega)) fx (cwV 2 hts gX5_tries_X5_tries rfl rfl rfl (by decide +kernel) ⟨Nat.le_of_ble_eq_true rfl, Nat.le_of_ble_eq_true rfl⟩) hK hP hD hS hA 0 rfl rfl rfl rfl hl.1 rfl (Nat.le_of_ble_eq_true rfl) dX5_tries_105 ⟨Nat.le_of_ble_eq_true rfl, Nat.le_of_ble_eq_true rfl⟩ (fun u_13 H locs hw_14 hP hD hS => ?_)
            obtain ⟨F_15, V_16⟩ := u_13
            have hf_17 : ∀ j, j ∉ ([12] : List Nat) → F_15 j = F1 j := hw_14.1
            have hv_18 : ∀ j, j ≠ 9 → V_16 j = V1 j := hw_14.2.1
            have hN_19 : ∀ i, i < 4 → F_15 12 i = nI (Lf i) := hw_14.2.2
            have hP : va_P (dC, dI) vwCl (wM cI cZ cJ h F_15 G V_16) H := hP
            have hD : va_D A (wM cI cZ cJ h F_15 G V_16) := hD
            have hN_20 : ∀ i, i < n → F_15 11 i = nI (Pw i) := by rw [hf_17 11 (by decide)]; exact hN_8
            have hN_21 : ∀ i, i < n → F_15 10 i = nI (Ow i) := by rw [hf_17 10 (by decide)]; exact hN_9
            have hV_22 : V_16 2 = nI n := by rw [hv_18 2 (by decide)]; exact hV2_
            exact hret (F_15, V_16) H locs 108 ls dX5_tries_108 (⟨fun j hj => ((hf_17 j (fun h => hj ((by decide : ∀ x ∈ ([12] : List Nat), x ∈ ([12] : List Nat)) j h))).trans (hfr j hj)), fun j hj => (hv_18 j hj).trans (hvr j hj), hN_19⟩) (hP) (hD) hS
          · have c_10 : ¬ 4 ≤ cc := fun h => c_10 ((nI_leI (a := 4) (b := cc) (by omega) (by omega)).mpr h)
            refine lv_iload_n hx hb dX5_tries_48 rfl (lv_at hl 3 rfl) ?_
            refine lv_aload_n hx hb dX5_tries_49 rfl (lv_at hl 0 rfl) ?_
            refine va_get (D := (dC, dI)) (ci := 5) (v := .ref (h 12)) (C := RX5) (T := TX5) (N := 33) hx hb hts hin_X5 hown hK hP 0 rfl rfl 19 (by decide) hw4 (fun _ h9 => h9) rfl dX5_tries_50 ?_
            refine lv_iload hx hb dX5_tries_53 (lv_at hl 4 rfl) ?_
            refine va_iald hx hb hK hP 12 0 rfl rfl (vp_in_nI (n := cc) (N := 4) (by omega) (by decide)) dX5_tries_55 ?_
            have hb_23 := bLf cc (by omega)
            refine lv_topi (fun x_24 ex_24 => ?_)
            obtain rfl : x_24 = nI (Lf cc) := ex_24.trans ((congrArg (F1 12) (nI_clamp (n := cc) (by omega))).trans (hL cc (by omega)))
            refine lv_icmp_le (tgt := 62) hx hb dX5_tries_56 (by decide) (fun c_25 => ?_) (fun c_25 => ?_)
            · have c_25 : (Pw (Ow 2)) ≤ (Lf cc) := (nI_leI (a := Pw (Ow 2)) (b := Lf cc) (by omega) (by omega)).mp c_25
              refine lv_aload_n hx hb dX5_tries_62 rfl (lv_at hl 0 rfl) ?_
              refine va_get (D := (dC, dI)) (ci := 5) (v := .ref (h 12)) (C := RX5) (T := TX5) (N := 33) hx hb hts hin_X5 hown hK hP 0 rfl rfl 19 (by decide) hw4 (fun _ h9 => h9) rfl dX5_tries_63 ?_
              refine lv_iload hx hb dX5_tries_66 (lv_at hl 4 rfl) ?_
              refine lv_dup2_11 hx hb dX5_tries_68 rfl rfl ?_
              refine va_iald hx hb hK hP 12 0 rfl rfl (vp_in_nI (n := cc) (N := 4) (by omega) (by decide)) dX5_tries_69 ?_
              have hb_26 := bLf cc (by omega)
              refine lv_topi (fun x_27 ex_27 => ?_)
              obtain rfl : x_27 = nI (Lf cc) := ex_27.trans ((congrArg (F1 12) (nI_clamp (n := cc) (by omega))).trans (hL cc (by omega)))
              refine lv_iload_n hx hb dX5_tries_70 rfl (lv_at hl 3 rfl) ?_
              refine lv_isub hx hb dX5_tries_71 ?_
              refine lv_topi (fun x_28 ex_28 => ?_)
              obtain rfl : x_28 = nI ((Lf cc) - (Pw (Ow 2))) := ex_28.trans (pk_sub (a := Lf cc) (b := Pw (Ow 2)) (by omega))
              refine va_iast hx hb hK hP hD hS 12 0 rfl rfl (vp_in_nI (n := cc) (N := 4) (by omega) (by decide)) dX5_tries_72 (fun H locs hP hD hS => ?_)
              obtain ⟨F_29, eF_29⟩ : ∃ z : Nat → Nat → Int32, z = va_up F1 12 (upd (F1 12) (nI cc).toNatClampNeg (nI ((Lf cc) - (Pw (Ow 2))))) := ⟨_, rfl⟩
              have hP : va_P (dC, dI) vwCl (wM cI cZ cJ h F_29 G V1) H := by rw [eF_29]; exact hP
              have hD : va_D A (wM cI cZ cJ h F_29 G V1) := by rw [eF_29]; exact hD
              have hN_30 : ∀ i, i < n → F_29 11 i = nI (Pw i) := by rw [eF_29]; exact hN_8
              have hN_31 : ∀ i, i < n → F_29 10 i = nI (Ow i) := by rw [eF_29]; exact hN_9
              obtain ⟨S_32, eS_32⟩ : ∃ z : Nat → Nat, z = nup Lf cc ((Lf cc) - (Pw (Ow 2))) := ⟨_, rfl⟩
              have hN_33 : ∀ i, i < 4 → F_29 12 i = nI (S_32 i) := by rw [eF_29, eS_32]; show ∀ i, i < 4 → upd (F1 12) (nI cc).toNatClampNeg (nI ((Lf cc) - (Pw (Ow 2)))) i = nI _; exact nf_put hL (nI_clamp (n := cc) (by omega))
              have bN_34 : ∀ i, i < 4 → S_32 i ≤ 10000 := by rw [eS_32]; exact nb_put bLf (by omega)
              refine lv_aload_n hx hb dX5_tries_73 rfl (lv_at hl 0 rfl) ?_
              refine lv_iload_n hx hb dX5_tries_74 rfl (lv_at hl 1 rfl) ?_
              refine lv_iconst (v := 1) hx hb dX5_tries_75 (by decide) ?_
              refine lv_iadd hx hb dX5_tries_76 ?_
              refine lv_topi (fun x_35 ex_35 => ?_)
              obtain rfl : x_35 = 3 := ex_35.trans (by decide)
              refine lv_iload_n hx hb dX5_tries_77 rfl (lv_at hl 2 rfl) ?_
              refine lv_iload_n hx hb dX5_tries_78 rfl (lv_at hl 3 rfl) ?_
              refine lv_iadd hx hb dX5_tries_79 ?_
              refine cw_Vv (As := [.int 3, .int (p1 + (nI (Pw (Ow 2))))]) (rest := []) (c_X5_tries3 l dC dI cI cZ cJ h F_29 G V1 n hV2_ (by omega) Pw hN_30 bPw Ow hN_31 bOw S_32 hN_33 bN_34 (p1 + (nI (Pw (Ow 2)))) (by omega)) fx (cwV 2 hts gX5_tries_X5_tries rfl rfl rfl (by decide +kernel) ⟨Nat.le_of_ble_eq_true rfl, Nat.le_of_ble_eq_true rfl⟩) hK hP hD hS hA 0 rfl rfl rfl rfl hl.1 rfl (Nat.le_of_ble_eq_true rfl) dX5_tries_80 ⟨Nat.le_of_ble_eq_true rfl, Nat.le_of_ble_eq_true rfl⟩ (fun u_37 H locs hw_38 hP hD hS => ?_)
              obtain ⟨F_39, V_40⟩ := u_37
              have hf_41 : ∀ j, j ∉ ([12] : List Nat) → F_39 j = F_29 j := hw_38.1
              have hv_42 : ∀ j, j ≠ 9 → V_40 j = V1 j := hw_38.2.1
              have hN_43 : ∀ i, i < 4 → F_39 12 i = nI (S_32 i) := hw_38.2.2
              have hP : va_P (dC, dI) vwCl (wM cI cZ cJ h F_39 G V_40) H := hP
              have hD : va_D A (wM cI cZ cJ h F_39 G V_40) := hD
              have hN_44 : ∀ i, i < n → F_39 11 i = nI (Pw i) := by rw [hf_41 11 (by decide)]; exact hN_30
              have hN_45 : ∀ i, i < n → F_39 10 i = nI (Ow i) := by rw [hf_41 10 (by decide)]; exact hN_31
              have hV_46 : V_40 2 = nI n := by rw [hv_42 2 (by decide)]; exact hV2_
              refine lv_aload_n hx hb dX5_tries_83 rfl (lv_at hl 0 rfl) ?_
              refine va_get (D := (dC, dI)) (ci := 5) (v := .ref (h 12)) (C := RX5) (T := TX5) (N := 33) hx hb hts hin_X5 hown hK hP 0 rfl rfl 19 (by decide) hw4 (fun _ h9 => h9) rfl dX5_tries_84 ?_
              refine lv_iload hx hb dX5_tries_87 (lv_at hl 4 rfl) ?_
              refine lv_dup2_11 hx hb dX5_tries_89 rfl rfl ?_
              refine va_iald hx hb hK hP 12 0 rfl rfl (vp_in_nI (n := cc) (N := 4) (by omega) (by decide)) dX5_tries_90 ?_
              have hb_47 := bN_34 cc (by omega)
              refine lv_topi (fun x_48 ex_48 => ?_)
              obtain rfl : x_48 = nI (S_32 cc) := ex_48.trans ((congrArg (F_39 12) (nI_clamp (n := cc) (by omega))).trans (hN_43 cc (by omega)))
              refine lv_iload_n hx hb dX5_tries_91 rfl (lv_at hl 3 rfl) ?_
              refine lv_iadd hx hb dX5_tries_92 ?_
              refine lv_topi (fun x_49 ex_49 => ?_)
              obtain rfl : x_49 = nI ((S_32 cc) + (Pw (Ow 2))) := ex_49.trans (nI_add (S_32 cc) (Pw (Ow 2)))
              have hsk : S_32 cc = Lf cc - (Pw (Ow 2)) := by rw [eS_32]; exact if_pos rfl
              refine va_iast hx hb hK hP hD hS 12 0 rfl rfl (vp_in_nI (n := cc) (N := 4) (by omega) (by decide)) dX5_tries_93 (fun H locs hP hD hS => ?_)
              obtain ⟨F_50, eF_50⟩ : ∃ z : Nat → Nat → Int32, z = va_up F_39 12 (upd (F_39 12) (nI cc).toNatClampNeg (nI ((S_32 cc) + (Pw (Ow 2))))) := ⟨_, rfl⟩
              have hP : va_P (dC, dI) vwCl (wM cI cZ cJ h F_50 G V_40) H := by rw [eF_50]; exact hP
              have hD : va_D A (wM cI cZ cJ h F_50 G V_40) := by rw [eF_50]; exact hD
              have hN_51 : ∀ i, i < n → F_50 11 i = nI (Pw i) := by rw [eF_50]; exact hN_44
              have hN_52 : ∀ i, i < n → F_50 10 i = nI (Ow i) := by rw [eF_50]; exact hN_45
              obtain ⟨S_53, eS_53⟩ : ∃ z : Nat → Nat, z = nup S_32 cc ((S_32 cc) + (Pw (Ow 2))) := ⟨_, rfl⟩
              have hN_54 : ∀ i, i < 4 → F_50 12 i = nI (S_53 i) := by rw [eF_50, eS_53]; show ∀ i, i < 4 → upd (F_39 12) (nI cc).toNatClampNeg (nI ((S_32 cc) + (Pw (Ow 2)))) i = nI _; exact nf_put hN_43 (nI_clamp (n := cc) (by omega))
              have bN_55 : ∀ i, i < 4 → S_53 i ≤ 10000 := by rw [eS_53]; exact nb_put bN_34 (by omega)
              have hbk : S_53 = Lf := by rw [eS_53]; exact nup_back eS_32 (by omega) rfl
              rw [hbk] at hN_54
              refine lv_iinc (v := nI (cc + 1)) (lv' := [(4, .int (nI (cc + 1))), (0, .ref (h 0)), (1, .int 2), (2, .int p1), (3, .int (nI (Pw (Ow 2))))]) hx hb dX5_tries_94 hl (k := 4) rfl (nI_1 _) (by decide) rfl (fun ls hl => ?_)
              refine lv_goto (tgt := 42) hx hb dX5_tries_97 (by decide) ?_
              exact ih42 (cc + 1) F_50 V_40 (by omega) hN_54 (fun j hj => ((va_ne eF_50 (fun h => hj (by rw [h]; decide))).trans ((hf_41 j (fun h => hj ((by decide : ∀ x ∈ ([12] : List Nat), x ∈ ([12] : List Nat)) j h))).trans ((va_ne eF_29 (fun h => hj (by rw [h]; decide))).trans (hfr j hj))))) (fun j hj => (hv_42 j hj).trans (hvr j hj)) (by omega) H locs ls hP hD hS (lv_sub hl [1, 2, 3, 4, 0] rfl)
            · have c_25 : ¬ (Pw (Ow 2)) ≤ (Lf cc) := fun h => c_25 ((nI_leI (a := Pw (Ow 2)) (b := Lf cc) (by omega) (by omega)).mpr h)
              refine lv_goto (tgt := 94) hx hb dX5_tries_59 (by decide) ?_
              refine lv_iinc (v := nI (cc + 1)) (lv' := [(4, .int (nI (cc + 1))), (0, .ref (h 0)), (1, .int 2), (2, .int p1), (3, .int (nI (Pw (Ow 2))))]) hx hb dX5_tries_94 hl (k := 4) rfl (nI_1 _) (by decide) rfl (fun ls hl => ?_)
              refine lv_goto (tgt := 42) hx hb dX5_tries_97 (by decide) ?_
              exact ih42 (cc + 1) F1 V1 (by omega) hL (fun j hj => (hfr j hj)) (fun j hj => hvr j hj) (by omega) H locs ls hP hD hS (lv_sub hl [1, 2, 3, 4, 0] rfl)
      exact loop42 _ 0 F V (by omega) hLf (fun _ _ => rfl) (fun _ _ => rfl) (Nat.lt_succ_self _) H locs ls hP hD hS (lv_sub hl [2, 3, 4, 1, 0] rfl)
    · have c_3 : 2 = n := (nI_eq (a := 2) (b := n) (by omega) (by omega)).mp c_3
      refine lv_aload_n hx hb dX5_tries_14 rfl (lv_at hl 0 rfl) ?_
      refine lv_aload_n hx hb dX5_tries_15 rfl (lv_at hl 0 rfl) ?_
      refine va_get (D := (dC, dI)) (ci := 5) (v := .int (V 9)) (C := RX5) (T := TX5) (N := 33) hx hb hts hin_X5 hown hK hP 0 rfl rfl 24 (by decide) hw5 (fun _ h9 => h9) rfl dX5_tries_16 ?_
      refine lv_iload_n hx hb dX5_tries_19 rfl (lv_at hl 2 rfl) ?_
      refine va_mmax hx hb (hml.trans hl.1.symm) hown hw6 hw7 hw8 hw9 (Nat.le_of_ble_eq_true rfl) (Nat.le_of_ble_eq_true rfl) (Nat.le_of_ble_eq_true rfl) (Nat.le_of_ble_eq_true rfl) dX5_tries_20 ?_
      refine lv_topi (fun x_56 ex_56 => ?_)
      refine va_put (D := (dC, dI)) (ci := 5) (v := .int x_56) (ty := .int) (C := RX5) (T := TX5) (N := 33) hx hb hts hin_X5 tyX5 tyX5_ok nmX5 hown hK hP hD hS 0 rfl rfl 24 (by decide) hw5 (fun _ h9 => h9) rfl (by decide +kernel) rfl rfl (Nat.le_of_ble_eq_true rfl) dX5_tries_23 (fun H locs hP hD hS => ?_)
      have hP : va_P (dC, dI) vwCl (wM cI cZ cJ h F G (va_up V 9 x_56)) H := hP
      have hD : va_D A (wM cI cZ cJ h F G (va_up V 9 x_56)) := hD
      exact hret (F, va_up V 9 x_56) H locs 26 ls dX5_tries_26 (⟨fun _ _ => rfl, fun j hj => by show (va_up V 9 x_56) j = V j; simp only [va_up, if_neg hj], hLf⟩) (hP) (hD) hS
def rm_X5_tries1 : Room := { frames := 7, cells := 0, slots := 0, locals := 158 }
set_option maxHeartbeats 4000000 in
set_option maxRecDepth 100000 in
theorem c_X5_tries1 (l : Launch) (dC : Nat → ClassId) (dI : Nat → Nat → Nat) (cI cZ cJ : ClassId) (h : Nat → Nat) (F : Nat → Nat → Int32) (G : Nat → Int64) (V : Nat → Int32) (n : Nat) (hV2 : V 2 = nI n) (bV2 : n ≤ 40) (Pw : Nat → Nat) (hPw : ∀ i, i < n → F 11 i = nI (Pw i)) (bPw : ∀ i, i < n → Pw i ≤ 100) (Ow : Nat → Nat) (hOw : ∀ i, i < n → F 10 i = nI (Ow i)) (bOw : ∀ i, i < n → Ow i ≤ n - 1) (Lf : Nat → Nat) (hLf : ∀ i, i < 4 → F 12 i = nI (Lf i)) (bLf : ∀ i, i < 4 → Lf i ≤ 10000) (p1 : Int32)  (hkn : 1 ≤ n) : CtV l (dC, dI) vwCl (tys3 cI cZ cJ) yX5_tries wsX5_tries rm_X5_tries1 [.ref (h 0), .int 1, .int p1] (wM cI cZ cJ h F G V) (S := (Nat → Nat → Int32) × (Nat → Int32)) (fun u => (∀ j, j ∉ ([12] : List Nat) → u.1 j = F j) ∧ (∀ j, j ≠ 9 → u.2 j = V j) ∧ ∀ i, i < 4 → u.1 12 i = nI (Lf i)) (fun u => wM cI cZ cJ h u.1 G u.2) 0 0 := by
  refine ct_V (cc := cX5_tries) (maxL := 5) (own := RX5) (by decide) rfl rfl (Nat.le_of_ble_eq_true rfl) (lv := [(0, .ref (h 0)), (1, .int 1), (2, .int p1)]) rfl ?_
  intro p e s m args below meth c A Q ls hnm fx hK hP hD hA hl hret
  obtain ⟨hx, hb, hml, hown, hts⟩ := id fx
  have hS : va_S A s.heap s.heap [] := va_S.rf
  have hw0 := hts (.fieldLink RX5 91 "MirrorTowerModel" "mirrors" "I") (by decide +kernel)
  have hin_X5 : ∀ w ∈ u_ws RX5 TX5 33, w ∈ wsX5_tries := by decide +kernel
  have hw2 := hts (.fieldLink RX5 50 "MirrorTowerModel" "power" "[I") (by decide +kernel)
  have hw3 := hts (.fieldLink RX5 47 "MirrorTowerModel" "order" "[I") (by decide +kernel)
  have hw4 := hts (.fieldLink RX5 53 "MirrorTowerModel" "left" "[I") (by decide +kernel)
  have hw5 := hts (.fieldLink RX5 148 "MirrorTowerModel" "most" "I") (by decide +kernel)
  have hw6 := hts (.methodLink RX5 134 Lib.Math.max.name) (by decide +kernel)
  have hw7 := hts (.static Lib.Math.max.name) (by decide +kernel)
  have hw8 := hts (.initialized "java/lang/Math") (by decide +kernel)
  have hw9 := hts (.code Lib.Math.max.name Lib.Math.max.code 2 (some .int)) (by decide +kernel)
  obtain ⟨H, hH⟩ : ∃ H, H = s.heap := ⟨_, rfl⟩
  rw [← hH] at hP ⊢
  have hS : va_S A s.heap H [] := by rw [hH]; exact hS
  generalize ([] : List Loc) = locs at hS ⊢
  refine lv_iload_n hx hb dX5_tries_0 rfl (lv_at hl 1 rfl) ?_
  refine lv_bipush (v := 7) hx hb dX5_tries_1 (by decide) ?_
  refine lv_icmp_eq (tgt := 14) hx hb dX5_tries_3 (by decide) (fun c_1 => ?_) (fun c_1 => ?_)
  · exact absurd c_1 (by decide)
  · refine lv_iload_n hx hb dX5_tries_6 rfl (lv_at hl 1 rfl) ?_
    refine lv_aload_n hx hb dX5_tries_7 rfl (lv_at hl 0 rfl) ?_
    refine va_get (D := (dC, dI)) (ci := 5) (v := .int (V 2)) (C := RX5) (T := TX5) (N := 33) hx hb hts hin_X5 hown hK hP 0 rfl rfl 2 (by decide) hw0 (fun _ h9 => h9) rfl dX5_tries_8 ?_
    refine lv_topi (fun x_2 ex_2 => ?_)
    obtain rfl : x_2 = nI n := ex_2.trans (hV2)
    refine lv_icmp_ne (tgt := 27) hx hb dX5_tries_11 (by decide) (fun c_3 => ?_) (fun c_3 => ?_)
    · have c_3 : ¬ 1 = n := fun h => c_3 ((nI_eq (a := 1) (b := n) (by omega) (by omega)).mpr h)
      refine lv_aload_n hx hb dX5_tries_27 rfl (lv_at hl 0 rfl) ?_
      refine va_get (D := (dC, dI)) (ci := 5) (v := .ref (h 11)) (C := RX5) (T := TX5) (N := 33) hx hb hts hin_X5 hown hK hP 0 rfl rfl 18 (by decide) hw2 (fun _ h9 => h9) rfl dX5_tries_28 ?_
      refine lv_aload_n hx hb dX5_tries_31 rfl (lv_at hl 0 rfl) ?_
      refine va_get (D := (dC, dI)) (ci := 5) (v := .ref (h 10)) (C := RX5) (T := TX5) (N := 33) hx hb hts hin_X5 hown hK hP 0 rfl rfl 17 (by decide) hw3 (fun _ h9 => h9) rfl dX5_tries_32 ?_
      refine lv_iload_n hx hb dX5_tries_35 rfl (lv_at hl 1 rfl) ?_
      refine va_iald hx hb hK hP 10 0 rfl rfl (vp_in_nI (n := 1) (N := 40) (by decide) (by decide)) dX5_tries_36 ?_
      have hb_4 := bOw 1 (by omega)
      refine lv_topi (fun x_5 ex_5 => ?_)
      obtain rfl : x_5 = nI (Ow 1) := ex_5.trans ((congrArg (F 10) (by decide : (1 : Int32).toNatClampNeg = 1)).trans (hOw 1 (by omega)))
      refine va_iald hx hb hK hP 11 0 rfl rfl (vp_in_nI (n := Ow 1) (N := 40) (by omega) (by decide)) dX5_tries_37 ?_
      have hb_6 := bPw (Ow 1) (by omega)
      refine lv_topi (fun x_7 ex_7 => ?_)
      obtain rfl : x_7 = nI (Pw (Ow 1)) := ex_7.trans ((congrArg (F 11) (nI_clamp (n := Ow 1) (by omega))).trans (hPw (Ow 1) (by omega)))
      refine lv_istore_n (lv' := [(3, .int (nI (Pw (Ow 1)))), (0, .ref (h 0)), (1, .int 1), (2, .int p1)]) hx hb dX5_tries_38 rfl hl (by decide) rfl (fun ls hl => ?_)
      refine lv_iconst (v := 0) hx hb dX5_tries_39 (by decide) ?_
      refine lv_istore (lv' := [(4, .int 0), (3, .int (nI (Pw (Ow 1)))), (0, .ref (h 0)), (1, .int 1), (2, .int p1)]) hx hb dX5_tries_40 hl (by decide) rfl (fun ls hl => ?_)
      have loop42 : ∀ (fu : Nat) (cc : Nat) (F1 : Nat → Nat → Int32) (V1 : Nat → Int32), (cc ≤ 4) → (∀ i, i < 4 → F1 12 i = nI (Lf i)) → (∀ j, j ∉ ([12] : List Nat) → F1 j = F j) → (∀ j, j ≠ 9 → V1 j = V j) → (4 - cc) < fu → ∀ (H : Heap) (locs : List Loc) (ls : Array Slot), va_P (dC, dI) vwCl (wM cI cZ cJ h F1 G V1) H → va_D A (wM cI cZ cJ h F1 G V1) → va_S A s.heap H locs → lv_has ls 5 [(0, .ref (h 0)), (1, .int 1), (2, .int p1), (3, .int (nI (Pw (Ow 1)))), (4, .int (nI cc))] → W p l e rm_X5_tries1 s m args below meth c H locs 0 0 Q (F0 m 42 ls []) := by
        intro fu
        induction fu with
        | zero => intro cc F1 V1 hc hL hfr hvr hn_; exact absurd hn_ (Nat.not_lt_zero _)
        | succ fu ih42 =>
          intro cc F1 V1 hc hL hfr hvr hn_ H locs ls hP hD hS hl
          have hN_8 : ∀ i, i < n → F1 11 i = nI (Pw i) := by rw [hfr 11 (by decide)]; exact hPw
          have hN_9 : ∀ i, i < n → F1 10 i = nI (Ow i) := by rw [hfr 10 (by decide)]; exact hOw
          have hV2_ : V1 2 = nI n := by rw [hvr 2 (by decide)]; exact hV2
          refine lv_iload hx hb dX5_tries_42 (lv_at hl 4 rfl) ?_
          refine lv_iconst (v := 4) hx hb dX5_tries_44 (by decide) ?_
          refine lv_icmp_ge (tgt := 100) hx hb dX5_tries_45 (by decide) (fun c_10 => ?_) (fun c_10 => ?_)
          · have c_10 : 4 ≤ cc := (nI_leI (a := 4) (b := cc) (by omega) (by omega)).mp c_10
            refine lv_aload_n hx hb dX5_tries_100 rfl (lv_at hl 0 rfl) ?_
            refine lv_iload_n hx hb dX5_tries_101 rfl (lv_at hl 1 rfl) ?_
            refine lv_iconst (v := 1) hx hb dX5_tries_102 (by decide) ?_
            refine lv_iadd hx hb dX5_tries_103 ?_
            refine lv_topi (fun x_11 ex_11 => ?_)
            obtain rfl : x_11 = 2 := ex_11.trans (by decide)
            refine lv_iload_n hx hb dX5_tries_104 rfl (lv_at hl 2 rfl) ?_
            refine cw_Vv (As := [.int 2, .int p1]) (rest := []) (c_X5_tries2 l dC dI cI cZ cJ h F1 G V1 n hV2_ (by omega) Pw hN_8 bPw Ow hN_9 bOw Lf hL bLf p1 (by omega)) fx (cwV 2 hts gX5_tries_X5_tries rfl rfl rfl (by decide +kernel) ⟨Nat.le_of_ble_eq_true rfl, Nat.le_of_ble_eq_true rfl⟩) hK hP hD hS hA 0 rfl rfl rfl rfl hl.1 rfl (Nat.le_of_ble_eq_true rfl) dX5_tries_105 ⟨Nat.le_of_ble_eq_true rfl, Nat.le_of_ble_eq_true rfl⟩ (fun u_13 H locs hw_14 hP hD hS => ?_)
            obtain ⟨F_15, V_16⟩ := u_13
            have hf_17 : ∀ j, j ∉ ([12] : List Nat) → F_15 j = F1 j := hw_14.1
            have hv_18 : ∀ j, j ≠ 9 → V_16 j = V1 j := hw_14.2.1
            have hN_19 : ∀ i, i < 4 → F_15 12 i = nI (Lf i) := hw_14.2.2
            have hP : va_P (dC, dI) vwCl (wM cI cZ cJ h F_15 G V_16) H := hP
            have hD : va_D A (wM cI cZ cJ h F_15 G V_16) := hD
            have hN_20 : ∀ i, i < n → F_15 11 i = nI (Pw i) := by rw [hf_17 11 (by decide)]; exact hN_8
            have hN_21 : ∀ i, i < n → F_15 10 i = nI (Ow i) := by rw [hf_17 10 (by decide)]; exact hN_9
            have hV_22 : V_16 2 = nI n := by rw [hv_18 2 (by decide)]; exact hV2_
            exact hret (F_15, V_16) H locs 108 ls dX5_tries_108 (⟨fun j hj => ((hf_17 j (fun h => hj ((by decide : ∀ x ∈ ([12] : List Nat), x ∈ ([12] : List Nat)) j h))).trans (hfr j hj)), fun j hj => (hv_18 j hj).trans (hvr j hj), hN_19⟩) (hP) (hD) hS
          · have c_10 : ¬ 4 ≤ cc := fun h => c_10 ((nI_leI (a := 4) (b := cc) (by omega) (by omega)).mpr h)
            refine lv_iload_n hx hb dX5_tries_48 rfl (lv_at hl 3 rfl) ?_
            refine lv_aload_n hx hb dX5_tries_49 rfl (lv_at hl 0 rfl) ?_
            refine va_get (D := (dC, dI)) (ci := 5) (v := .ref (h 12)) (C := RX5) (T := TX5) (N := 33) hx hb hts hin_X5 hown hK hP 0 rfl rfl 19 (by decide) hw4 (fun _ h9 => h9) rfl dX5_tries_50 ?_
            refine lv_iload hx hb dX5_tries_53 (lv_at hl 4 rfl) ?_
            refine va_iald hx hb hK hP 12 0 rfl rfl (vp_in_nI (n := cc) (N := 4) (by omega) (by decide)) dX5_tries_55 ?_
            have hb_23 := bLf cc (by omega)
            refine lv_topi (fun x_24 ex_24 => ?_)
            obtain rfl : x_24 = nI (Lf cc) := ex_24.trans ((congrArg (F1 12) (nI_clamp (n := cc) (by omega))).trans (hL cc (by omega)))
            refine lv_icmp_le (tgt := 62) hx hb dX5_tries_56 (by decide) (fun c_25 => ?_) (fun c_25 => ?_)
            · have c_25 : (Pw (Ow 1)) ≤ (Lf cc) := (nI_leI (a := Pw (Ow 1)) (b := Lf cc) (by omega) (by omega)).mp c_25
              refine lv_aload_n hx hb dX5_tries_62 rfl (lv_at hl 0 rfl) ?_
              refine va_get (D := (dC, dI)) (ci := 5) (v := .ref (h 12)) (C := RX5) (T := TX5) (N := 33) hx hb hts hin_X5 hown hK hP 0 rfl rfl 19 (by decide) hw4 (fun _ h9 => h9) rfl dX5_tries_63 ?_
              refine lv_iload hx hb dX5_tries_66 (lv_at hl 4 rfl) ?_
              refine lv_dup2_11 hx hb dX5_tries_68 rfl rfl ?_
              refine va_iald hx hb hK hP 12 0 rfl rfl (vp_in_nI (n := cc) (N := 4) (by omega) (by decide)) dX5_tries_69 ?_
              have hb_26 := bLf cc (by omega)
              refine lv_topi (fun x_27 ex_27 => ?_)
              obtain rfl : x_27 = nI (Lf cc) := ex_27.trans ((congrArg (F1 12) (nI_clamp (n := cc) (by omega))).trans (hL cc (by omega)))
              refine lv_iload_n hx hb dX5_tries_70 rfl (lv_at hl 3 rfl) ?_
              refine lv_isub hx hb dX5_tries_71 ?_
              refine lv_topi (fun x_28 ex_28 => ?_)
              obtain rfl : x_28 = nI ((Lf cc) - (Pw (Ow 1))) := ex_28.trans (pk_sub (a := Lf cc) (b := Pw (Ow 1)) (by omega))
              refine va_iast hx hb hK hP hD hS 12 0 rfl rfl (vp_in_nI (n := cc) (N := 4) (by omega) (by decide)) dX5_tries_72 (fun H locs hP hD hS => ?_)
              obtain ⟨F_29, eF_29⟩ : ∃ z : Nat → Nat → Int32, z = va_up F1 12 (upd (F1 12) (nI cc).toNatClampNeg (nI ((Lf cc) - (Pw (Ow 1))))) := ⟨_, rfl⟩
              have hP : va_P (dC, dI) vwCl (wM cI cZ cJ h F_29 G V1) H := by rw [eF_29]; exact hP
              have hD : va_D A (wM cI cZ cJ h F_29 G V1) := by rw [eF_29]; exact hD
              have hN_30 : ∀ i, i < n → F_29 11 i = nI (Pw i) := by rw [eF_29]; exact hN_8
              have hN_31 : ∀ i, i < n → F_29 10 i = nI (Ow i) := by rw [eF_29]; exact hN_9
              obtain ⟨S_32, eS_32⟩ : ∃ z : Nat → Nat, z = nup Lf cc ((Lf cc) - (Pw (Ow 1))) := ⟨_, rfl⟩
              have hN_33 : ∀ i, i < 4 → F_29 12 i = nI (S_32 i) := by rw [eF_29, eS_32]; show ∀ i, i < 4 → upd (F1 12) (nI cc).toNatClampNeg (nI ((Lf cc) - (Pw (Ow 1)))) i = nI _; exact nf_put hL (nI_clamp (n := cc) (by omega))
              have bN_34 : ∀ i, i < 4 → S_32 i ≤ 10000 := by rw [eS_32]; exact nb_put bLf (by omega)
              refine lv_aload_n hx hb dX5_tries_73 rfl (lv_at hl 0 rfl) ?_
              refine lv_iload_n hx hb dX5_tries_74 rfl (lv_at hl 1 rfl) ?_
              refine lv_iconst (v := 1) hx hb dX5_tries_75 (by decide) ?_
              refine lv_iadd hx hb dX5_tries_76 ?_
              refine lv_topi (fun x_35 ex_35 => ?_)
              obtain rfl : x_35 = 2 := ex_35.trans (by decide)
              refine lv_iload_n hx hb dX5_tries_77 rfl (lv_at hl 2 rfl) ?_
              refine lv_iload_n hx hb dX5_tries_78 rfl (lv_at hl 3 rfl) ?_
              refine lv_iadd hx hb dX5_tries_79 ?_
              refine cw_Vv (As := [.int 2, .int (p1 + (nI (Pw (Ow 1))))]) (rest := []) (c_X5_tries2 l dC dI cI cZ cJ h F_29 G V1 n hV2_ (by omega) Pw hN_30 bPw Ow hN_31 bOw S_32 hN_33 bN_34 (p1 + (nI (Pw (Ow 1)))) (by omega)) fx (cwV 2 hts gX5_tries_X5_tries rfl rfl rfl (by decide +kernel) ⟨Nat.le_of_ble_eq_true rfl, Nat.le_of_ble_eq_true rfl⟩) hK hP hD hS hA 0 rfl rfl rfl rfl hl.1 rfl (Nat.le_of_ble_eq_true rfl) dX5_tries_80 ⟨Nat.le_of_ble_eq_true rfl, Nat.le_of_ble_eq_true rfl⟩ (fun u_37 H locs hw_38 hP hD hS => ?_)
              obtain ⟨F_39, V_40⟩ := u_37
              have hf_41 : ∀ j, j ∉ ([12] : List Nat) → F_39 j = F_29 j := hw_38.1
              have hv_42 : ∀ j, j ≠ 9 → V_40 j = V1 j := hw_38.2.1
              have hN_43 : ∀ i, i < 4 → F_39 12 i = nI (S_32 i) := hw_38.2.2
              have hP : va_P (dC, dI) vwCl (wM cI cZ cJ h F_39 G V_40) H := hP
              have hD : va_D A (wM cI cZ cJ h F_39 G V_40) := hD
              have hN_44 : ∀ i, i < n → F_39 11 i = nI (Pw i) := by rw [hf_41 11 (by decide)]; exact hN_30
              have hN_45 : ∀ i, i < n → F_39 10 i = nI (Ow i) := by rw [hf_41 10 (by decide)]; exact hN_31
              have hV_46 : V_40 2 = nI n := by rw [hv_42 2 (by decide)]; exact hV2_
              refine lv_aload_n hx hb dX5_tries_83 rfl (lv_at hl 0 rfl) ?_
              refine va_get (D := (dC, dI)) (ci := 5) (v := .ref (h 12)) (C := RX5) (T := TX5) (N := 33) hx hb hts hin_X5 hown hK hP 0 rfl rfl 19 (by decide) hw4 (fun _ h9 => h9) rfl dX5_tries_84 ?_
              refine lv_iload hx hb dX5_tries_87 (lv_at hl 4 rfl) ?_
              refine lv_dup2_11 hx hb dX5_tries_89 rfl rfl ?_
              refine va_iald hx hb hK hP 12 0 rfl rfl (vp_in_nI (n := cc) (N := 4) (by omega) (by decide)) dX5_tries_90 ?_
              have hb_47 := bN_34 cc (by omega)
              refine lv_topi (fun x_48 ex_48 => ?_)
              obtain rfl : x_48 = nI (S_32 cc) := ex_48.trans ((congrArg (F_39 12) (nI_clamp (n := cc) (by omega))).trans (hN_43 cc (by omega)))
              refine lv_iload_n hx hb dX5_tries_91 rfl (lv_at hl 3 rfl) ?_
              refine lv_iadd hx hb dX5_tries_92 ?_
              refine lv_topi (fun x_49 ex_49 => ?_)
              obtain rfl : x_49 = nI ((S_32 cc) + (Pw (Ow 1))) := ex_49.trans (nI_add (S_32 cc) (Pw (Ow 1)))
              have hsk : S_32 cc = Lf cc - (Pw (Ow 1)) := by rw [eS_32]; exact if_pos rfl
              refine va_iast hx hb hK hP hD hS 12 0 rfl rfl (vp_in_nI (n := cc) (N := 4) (by omega) (by decide)) dX5_tries_93 (fun H locs hP hD hS => ?_)
              obtain ⟨F_50, eF_50⟩ : ∃ z : Nat → Nat → Int32, z = va_up F_39 12 (upd (F_39 12) (nI cc).toNatClampNeg (nI ((S_32 cc) + (Pw (Ow 1))))) := ⟨_, rfl⟩
              have hP : va_P (dC, dI) vwCl (wM cI cZ cJ h F_50 G V_40) H := by rw [eF_50]; exact hP
              have hD : va_D A (wM cI cZ cJ h F_50 G V_40) := by rw [eF_50]; exact hD
              have hN_51 : ∀ i, i < n → F_50 11 i = nI (Pw i) := by rw [eF_50]; exact hN_44
              have hN_52 : ∀ i, i < n → F_50 10 i = nI (Ow i) := by rw [eF_50]; exact hN_45
              obtain ⟨S_53, eS_53⟩ : ∃ z : Nat → Nat, z = nup S_32 cc ((S_32 cc) + (Pw (Ow 1))) := ⟨_, rfl⟩
              have hN_54 : ∀ i, i < 4 → F_50 12 i = nI (S_53 i) := by rw [eF_50, eS_53]; show ∀ i, i < 4 → upd (F_39 12) (nI cc).toNatClampNeg (nI ((S_32 cc) + (Pw (Ow 1)))) i = nI _; exact nf_put hN_43 (nI_clamp (n := cc) (by omega))
              have bN_55 : ∀ i, i < 4 → S_53 i ≤ 10000 := by rw [eS_53]; exact nb_put bN_34 (by omega)
              have hbk : S_53 = Lf := by rw [eS_53]; exact nup_back eS_32 (by omega) rfl
              rw [hbk] at hN_54
              refine lv_iinc (v := nI (cc + 1)) (lv' := [(4, .int (nI (cc + 1))), (0, .ref (h 0)), (1, .int 1), (2, .int p1), (3, .int (nI (Pw (Ow 1))))]) hx hb dX5_tries_94 hl (k := 4) rfl (nI_1 _) (by decide) rfl (fun ls hl => ?_)
              refine lv_goto (tgt := 42) hx hb dX5_tries_97 (by decide) ?_
              exact ih42 (cc + 1) F_50 V_40 (by omega) hN_54 (fun j hj => ((va_ne eF_50 (fun h => hj (by rw [h]; decide))).trans ((hf_41 j (fun h => hj ((by decide : ∀ x ∈ ([12] : List Nat), x ∈ ([12] : List Nat)) j h))).trans ((va_ne eF_29 (fun h => hj (by rw [h]; decide))).trans (hfr j hj))))) (fun j hj => (hv_42 j hj).trans (hvr j hj)) (by omega) H locs ls hP hD hS (lv_sub hl [1, 2, 3, 4, 0] rfl)
            · have c_25 : ¬ (Pw (Ow 1)) ≤ (Lf cc) := fun h => c_25 ((nI_leI (a := Pw (Ow 1)) (b := Lf cc) (by omega) (by omega)).mpr h)
              refine lv_goto (tgt := 94) hx hb dX5_tries_59 (by decide) ?_
              refine lv_iinc (v := nI (cc + 1)) (lv' := [(4, .int (nI (cc + 1))), (0, .ref (h 0)), (1, .int 1), (2, .int p1), (3, .int (nI (Pw (Ow 1))))]) hx hb dX5_tries_94 hl (k := 4) rfl (nI_1 _) (by decide) rfl (fun ls hl => ?_)
              refine lv_goto (tgt := 42) hx hb dX5_tries_97 (by decide) ?_
              exact ih42 (cc + 1) F1 V1 (by omega) hL (fun j hj => (hfr j hj)) (fun j hj => hvr j hj) (by omega) H locs ls hP hD hS (lv_sub hl [1, 2, 3, 4, 0] rfl)
      exact loop42 _ 0 F V (by omega) hLf (fun _ _ => rfl) (fun _ _ => rfl) (Nat.lt_succ_self _) H locs ls hP hD hS (lv_sub hl [2, 3, 4, 1, 0] rfl)
    · have c_3 : 1 = n := (nI_eq (a := 1) (b := n) (by omega) (by omega)).mp c_3
      refine lv_aload_n hx hb dX5_tries_14 rfl (lv_at hl 0 rfl) ?_
      refine lv_aload_n hx hb dX5_tries_15 rfl (lv_at hl 0 rfl) ?_
      refine va_get (D := (dC, dI)) (ci := 5) (v := .int (V 9)) (C := RX5) (T := TX5) (N := 33) hx hb hts hin_X5 hown hK hP 0 rfl rfl 24 (by decide) hw5 (fun _ h9 => h9) rfl dX5_tries_16 ?_
      refine lv_iload_n hx hb dX5_tries_19 rfl (lv_at hl 2 rfl) ?_
      refine va_mmax hx hb (hml.trans hl.1.symm) hown hw6 hw7 hw8 hw9 (Nat.le_of_ble_eq_true rfl) (Nat.le_of_ble_eq_true rfl) (Nat.le_of_ble_eq_true rfl) (Nat.le_of_ble_eq_true rfl) dX5_tries_20 ?_
      refine lv_topi (fun x_56 ex_56 => ?_)
      refine va_put (D := (dC, dI)) (ci := 5) (v := .int x_56) (ty := .int) (C := RX5) (T := TX5) (N := 33) hx hb hts hin_X5 tyX5 tyX5_ok nmX5 hown hK hP hD hS 0 rfl rfl 24 (by decide) hw5 (fun _ h9 => h9) rfl (by decide +kernel) rfl rfl (Nat.le_of_ble_eq_true rfl) dX5_tries_23 (fun H locs hP hD hS => ?_)
      have hP : va_P (dC, dI) vwCl (wM cI cZ cJ h F G (va_up V 9 x_56)) H := hP
      have hD : va_D A (wM cI cZ cJ h F G (va_up V 9 x_56)) := hD
      exact hret (F, va_up V 9 x_56) H locs 26 ls dX5_tries_26 (⟨fun _ _ => rfl, fun j hj => by show (va_up V 9 x_56) j = V j; simp only [va_up, if_neg hj], hLf⟩) (hP) (hD) hS
def rm_X5_tries0 : Room := { frames := 8, cells := 0, slots := 0, locals := 182 }
set_option maxHeartbeats 4000000 in
set_option maxRecDepth 100000 in
theorem c_X5_tries0 (l : Launch) (dC : Nat → ClassId) (dI : Nat → Nat → Nat) (cI cZ cJ : ClassId) (h : Nat → Nat) (F : Nat → Nat → Int32) (G : Nat → Int64) (V : Nat → Int32) (n : Nat) (hV2 : V 2 = nI n) (bV2 : n ≤ 40) (Pw : Nat → Nat) (hPw : ∀ i, i < n → F 11 i = nI (Pw i)) (bPw : ∀ i, i < n → Pw i ≤ 100) (Ow : Nat → Nat) (hOw : ∀ i, i < n → F 10 i = nI (Ow i)) (bOw : ∀ i, i < n → Ow i ≤ n - 1) (Lf : Nat → Nat) (hLf : ∀ i, i < 4 → F 12 i = nI (Lf i)) (bLf : ∀ i, i < 4 → Lf i ≤ 10000) (p1 : Int32)  (hkn : 0 ≤ n) : CtV l (dC, dI) vwCl (tys3 cI cZ cJ) yX5_tries wsX5_tries rm_X5_tries0 [.ref (h 0), .int 0, .int p1] (wM cI cZ cJ h F G V) (S := (Nat → Nat → Int32) × (Nat → Int32)) (fun u => (∀ j, j ∉ ([12] : List Nat) → u.1 j = F j) ∧ (∀ j, j ≠ 9 → u.2 j = V j) ∧ ∀ i, i < 4 → u.1 12 i = nI (Lf i)) (fun u => wM cI cZ cJ h u.1 G u.2) 0 0 := by
  refine ct_V (cc := cX5_tries) (maxL := 5) (own := RX5) (by decide) rfl rfl (Nat.le_of_ble_eq_true rfl) (lv := [(0, .ref (h 0)), (1, .int 0), (2, .int p1)]) rfl ?_
  intro p e s m args below meth c A Q ls hnm fx hK hP hD hA hl hret
  obtain ⟨hx, hb, hml, hown, hts⟩ := id fx
  have hS : va_S A s.heap s.heap [] := va_S.rf
  have hw0 := hts (.fieldLink RX5 91 "MirrorTowerModel" "mirrors" "I") (by decide +kernel)
  have hin_X5 : ∀ w ∈ u_ws RX5 TX5 33, w ∈ wsX5_tries := by decide +kernel
  have hw2 := hts (.fieldLink RX5 50 "MirrorTowerModel" "power" "[I") (by decide +kernel)
  have hw3 := hts (.fieldLink RX5 47 "MirrorTowerModel" "order" "[I") (by decide +kernel)
  have hw4 := hts (.fieldLink RX5 53 "MirrorTowerModel" "left" "[I") (by decide +kernel)
  have hw5 := hts (.fieldLink RX5 148 "MirrorTowerModel" "most" "I") (by decide +kernel)
  have hw6 := hts (.methodLink RX5 134 Lib.Math.max.name) (by decide +kernel)
  have hw7 := hts (.static Lib.Math.max.name) (by decide +kernel)
  have hw8 := hts (.initialized "java/lang/Math") (by decide +kernel)
  have hw9 := hts (.code Lib.Math.max.name Lib.Math.max.code 2 (some .int)) (by decide +kernel)
  obtain ⟨H, hH⟩ : ∃ H, H = s.heap := ⟨_, rfl⟩
  rw [← hH] at hP ⊢
  have hS : va_S A s.heap H [] := by rw [hH]; exact hS
  generalize ([] : List Loc) = locs at hS ⊢
  refine lv_iload_n hx hb dX5_tries_0 rfl (lv_at hl 1 rfl) ?_
  refine lv_bipush (v := 7) hx hb dX5_tries_1 (by decide) ?_
  refine lv_icmp_eq (tgt := 14) hx hb dX5_tries_3 (by decide) (fun c_1 => ?_) (fun c_1 => ?_)
  · exact absurd c_1 (by decide)
  · refine lv_iload_n hx hb dX5_tries_6 rfl (lv_at hl 1 rfl) ?_
    refine lv_aload_n hx hb dX5_tries_7 rfl (lv_at hl 0 rfl) ?_
    refine va_get (D := (dC, dI)) (ci := 5) (v := .int (V 2)) (C := RX5) (T := TX5) (N := 33) hx hb hts hin_X5 hown hK hP 0 rfl rfl 2 (by decide) hw0 (fun _ h9 => h9) rfl dX5_tries_8 ?_
    refine lv_topi (fun x_2 ex_2 => ?_)
    obtain rfl : x_2 = nI n := ex_2.trans (hV2)
    refine lv_icmp_ne (tgt := 27) hx hb dX5_tries_11 (by decide) (fun c_3 => ?_) (fun c_3 => ?_)
    · have c_3 : ¬ 0 = n := fun h => c_3 ((nI_eq (a := 0) (b := n) (by omega) (by omega)).mpr h)
      refine lv_aload_n hx hb dX5_tries_27 rfl (lv_at hl 0 rfl) ?_
      refine va_get (D := (dC, dI)) (ci := 5) (v := .ref (h 11)) (C := RX5) (T := TX5) (N := 33) hx hb hts hin_X5 hown hK hP 0 rfl rfl 18 (by decide) hw2 (fun _ h9 => h9) rfl dX5_tries_28 ?_
      refine lv_aload_n hx hb dX5_tries_31 rfl (lv_at hl 0 rfl) ?_
      refine va_get (D := (dC, dI)) (ci := 5) (v := .ref (h 10)) (C := RX5) (T := TX5) (N := 33) hx hb hts hin_X5 hown hK hP 0 rfl rfl 17 (by decide) hw3 (fun _ h9 => h9) rfl dX5_tries_32 ?_
      refine lv_iload_n hx hb dX5_tries_35 rfl (lv_at hl 1 rfl) ?_
      refine va_iald hx hb hK hP 10 0 rfl rfl (vp_in_nI (n := 0) (N := 40) (by decide) (by decide)) dX5_tries_36 ?_
      have hb_4 := bOw 0 (by omega)
      refine lv_topi (fun x_5 ex_5 => ?_)
      obtain rfl : x_5 = nI (Ow 0) := ex_5.trans ((congrArg (F 10) (by decide : (0 : Int32).toNatClampNeg = 0)).trans (hOw 0 (by omega)))
      refine va_iald hx hb hK hP 11 0 rfl rfl (vp_in_nI (n := Ow 0) (N := 40) (by omega) (by decide)) dX5_tries_37 ?_
      have hb_6 := bPw (Ow 0) (by omega)
      refine lv_topi (fun x_7 ex_7 => ?_)
      obtain rfl : x_7 = nI (Pw (Ow 0)) := ex_7.trans ((congrArg (F 11) (nI_clamp (n := Ow 0) (by omega))).trans (hPw (Ow 0) (by omega)))
      refine lv_istore_n (lv' := [(3, .int (nI (Pw (Ow 0)))), (0, .ref (h 0)), (1, .int 0), (2, .int p1)]) hx hb dX5_tries_38 rfl hl (by decide) rfl (fun ls hl => ?_)
      refine lv_iconst (v := 0) hx hb dX5_tries_39 (by decide) ?_
      refine lv_istore (lv' := [(4, .int 0), (3, .int (nI (Pw (Ow 0)))), (0, .ref (h 0)), (1, .int 0), (2, .int p1)]) hx hb dX5_tries_40 hl (by decide) rfl (fun ls hl => ?_)
      have loop42 : ∀ (fu : Nat) (cc : Nat) (F1 : Nat → Nat → Int32) (V1 : Nat → Int32), (cc ≤ 4) → (∀ i, i < 4 → F1 12 i = nI (Lf i)) → (∀ j, j ∉ ([12] : List Nat) → F1 j = F j) → (∀ j, j ≠ 9 → V1 j = V j) → (4 - cc) < fu → ∀ (H : Heap) (locs : List Loc) (ls : Array Slot), va_P (dC, dI) vwCl (wM cI cZ cJ h F1 G V1) H → va_D A (wM cI cZ cJ h F1 G V1) → va_S A s.heap H locs → lv_has ls 5 [(0, .ref (h 0)), (1, .int 0), (2, .int p1), (3, .int (nI (Pw (Ow 0)))), (4, .int (nI cc))] → W p l e rm_X5_tries0 s m args below meth c H locs 0 0 Q (F0 m 42 ls []) := by
        intro fu
        induction fu with
        | zero => intro cc F1 V1 hc hL hfr hvr hn_; exact absurd hn_ (Nat.not_lt_zero _)
        | succ fu ih42 =>
          intro cc F1 V1 hc hL hfr hvr hn_ H locs ls hP hD hS hl
          have hN_8 : ∀ i, i < n → F1 11 i = nI (Pw i) := by rw [hfr 11 (by decide)]; exact hPw
          have hN_9 : ∀ i, i < n → F1 10 i = nI (Ow i) := by rw [hfr 10 (by decide)]; exact hOw
          have hV2_ : V1 2 = nI n := by rw [hvr 2 (by decide)]; exact hV2
          refine lv_iload hx hb dX5_tries_42 (lv_at hl 4 rfl) ?_
          refine lv_iconst (v := 4) hx hb dX5_tries_44 (by decide) ?_
          refine lv_icmp_ge (tgt := 100) hx hb dX5_tries_45 (by decide) (fun c_10 => ?_) (fun c_10 => ?_)
          · have c_10 : 4 ≤ cc := (nI_leI (a := 4) (b := cc) (by omega) (by omega)).mp c_10
            refine lv_aload_n hx hb dX5_tries_100 rfl (lv_at hl 0 rfl) ?_
            refine lv_iload_n hx hb dX5_tries_101 rfl (lv_at hl 1 rfl) ?_
            refine lv_iconst (v := 1) hx hb dX5_tries_102 (by decide) ?_
            refine lv_iadd hx hb dX5_tries_103 ?_
            refine lv_topi (fun x_11 ex_11 => ?_)
            obtain rfl : x_11 = 1 := ex_11.trans (by decide)
            refine lv_iload_n hx hb dX5_tries_104 rfl (lv_at hl 2 rfl) ?_
            refine cw_Vv (As := [.int 1, .int p1]) (rest := []) (c_X5_tries1 l dC dI cI cZ cJ h F1 G V1 n hV2_ (by omega) Pw hN_8 bPw Ow hN_9 bOw Lf hL bLf p1 (by omega)) fx (cwV 2 hts gX5_tries_X5_tries rfl rfl rfl (by decide +kernel) ⟨Nat.le_of_ble_eq_true rfl, Nat.le_of_ble_eq_true rfl⟩) hK hP hD hS hA 0 rfl rfl rfl rfl hl.1 rfl (Nat.le_of_ble_eq_true rfl) dX5_tries_105 ⟨Nat.le_of_ble_eq_true rfl, Nat.le_of_ble_eq_true rfl⟩ (fun u_13 H locs hw_14 hP hD hS => ?_)
            obtain ⟨F_15, V_16⟩ := u_13
            have hf_17 : ∀ j, j ∉ ([12] : List Nat) → F_15 j = F1 j := hw_14.1
            have hv_18 : ∀ j, j ≠ 9 → V_16 j = V1 j := hw_14.2.1
            have hN_19 : ∀ i, i < 4 → F_15 12 i = nI (Lf i) := hw_14.2.2
            have hP : va_P (dC, dI) vwCl (wM cI cZ cJ h F_15 G V_16) H := hP
            have hD : va_D A (wM cI cZ cJ h F_15 G V_16) := hD
            have hN_20 : ∀ i, i < n → F_15 11 i = nI (Pw i) := by rw [hf_17 11 (by decide)]; exact hN_8
            have hN_21 : ∀ i, i < n → F_15 10 i = nI (Ow i) := by rw [hf_17 10 (by decide)]; exact hN_9
            have hV_22 : V_16 2 = nI n := by rw [hv_18 2 (by decide)]; exact hV2_
            exact hret (F_15, V_16) H locs 108 ls dX5_tries_108 (⟨fun j hj => ((hf_17 j (fun h => hj ((by decide : ∀ x ∈ ([12] : List Nat), x ∈ ([12] : List Nat)) j h))).trans (hfr j hj)), fun j hj => (hv_18 j hj).trans (hvr j hj), hN_19⟩) (hP) (hD) hS
          · have c_10 : ¬ 4 ≤ cc := fun h => c_10 ((nI_leI (a := 4) (b := cc) (by omega) (by omega)).mpr h)
            refine lv_iload_n hx hb dX5_tries_48 rfl (lv_at hl 3 rfl) ?_
            refine lv_aload_n hx hb dX5_tries_49 rfl (lv_at hl 0 rfl) ?_
            refine va_get (D := (dC, dI)) (ci := 5) (v := .ref (h 12)) (C := RX5) (T := TX5) (N := 33) hx hb hts hin_X5 hown hK hP 0 rfl rfl 19 (by decide) hw4 (fun _ h9 => h9) rfl dX5_tries_50 ?_
            refine lv_iload hx hb dX5_tries_53 (lv_at hl 4 rfl) ?_
            refine va_iald hx hb hK hP 12 0 rfl rfl (vp_in_nI (n := cc) (N := 4) (by omega) (by decide)) dX5_tries_55 ?_
            have hb_23 := bLf cc (by omega)
            refine lv_topi (fun x_24 ex_24 => ?_)
            obtain rfl : x_24 = nI (Lf cc) := ex_24.trans ((congrArg (F1 12) (nI_clamp (n := cc) (by omega))).trans (hL cc (by omega)))
            refine lv_icmp_le (tgt := 62) hx hb dX5_tries_56 (by decide) (fun c_25 => ?_) (fun c_25 => ?_)
            · have c_25 : (Pw (Ow 0)) ≤ (Lf cc) := (nI_leI (a := Pw (Ow 0)) (b := Lf cc) (by omega) (by omega)).mp c_25
              refine lv_aload_n hx hb dX5_tries_62 rfl (lv_at hl 0 rfl) ?_
              refine va_get (D := (dC, dI)) (ci := 5) (v := .ref (h 12)) (C := RX5) (T := TX5) (N := 33) hx hb hts hin_X5 hown hK hP 0 rfl rfl 19 (by decide) hw4 (fun _ h9 => h9) rfl dX5_tries_63 ?_
              refine lv_iload hx hb dX5_tries_66 (lv_at hl 4 rfl) ?_
              refine lv_dup2_11 hx hb dX5_tries_68 rfl rfl ?_
              refine va_iald hx hb hK hP 12 0 rfl rfl (vp_in_nI (n := cc) (N := 4) (by omega) (by decide)) dX5_tries_69 ?_
              have hb_26 := bLf cc (by omega)
              refine lv_topi (fun x_27 ex_27 => ?_)
              obtain rfl : x_27 = nI (Lf cc) := ex_27.trans ((congrArg (F1 12) (nI_clamp (n := cc) (by omega))).trans (hL cc (by omega)))
              refine lv_iload_n hx hb dX5_tries_70 rfl (lv_at hl 3 rfl) ?_
              refine lv_isub hx hb dX5_tries_71 ?_
              refine lv_topi (fun x_28 ex_28 => ?_)
              obtain rfl : x_28 = nI ((Lf cc) - (Pw (Ow 0))) := ex_28.trans (pk_sub (a := Lf cc) (b := Pw (Ow 0)) (by omega))
              refine va_iast hx hb hK hP hD hS 12 0 rfl rfl (vp_in_nI (n := cc) (N := 4) (by omega) (by decide)) dX5_tries_72 (fun H locs hP hD hS => ?_)
              obtain ⟨F_29, eF_29⟩ : ∃ z : Nat → Nat → Int32, z = va_up F1 12 (upd (F1 12) (nI cc).toNatClampNeg (nI ((Lf cc) - (Pw (Ow 0))))) := ⟨_, rfl⟩
              have hP : va_P (dC, dI) vwCl (wM cI cZ cJ h F_29 G V1) H := by rw [eF_29]; exact hP
              have hD : va_D A (wM cI cZ cJ h F_29 G V1) := by rw [eF_29]; exact hD
              have hN_30 : ∀ i, i < n → F_29 11 i = nI (Pw i) := by rw [eF_29]; exact hN_8
              have hN_31 : ∀ i, i < n → F_29 10 i = nI (Ow i) := by rw [eF_29]; exact hN_9
              obtain ⟨S_32, eS_32⟩ : ∃ z : Nat → Nat, z = nup Lf cc ((Lf cc) - (Pw (Ow 0))) := ⟨_, rfl⟩
              have hN_33 : ∀ i, i < 4 → F_29 12 i = nI (S_32 i) := by rw [eF_29, eS_32]; show ∀ i, i < 4 → upd (F1 12) (nI cc).toNatClampNeg (nI ((Lf cc) - (Pw (Ow 0)))) i = nI _; exact nf_put hL (nI_clamp (n := cc) (by omega))
              have bN_34 : ∀ i, i < 4 → S_32 i ≤ 10000 := by rw [eS_32]; exact nb_put bLf (by omega)
              refine lv_aload_n hx hb dX5_tries_73 rfl (lv_at hl 0 rfl) ?_
              refine lv_iload_n hx hb dX5_tries_74 rfl (lv_at hl 1 rfl) ?_
              refine lv_iconst (v := 1) hx hb dX5_tries_75 (by decide) ?_
              refine lv_iadd hx hb dX5_tries_76 ?_
              refine lv_topi (fun x_35 ex_35 => ?_)
              obtain rfl : x_35 = 1 := ex_35.trans (by decide)
              refine lv_iload_n hx hb dX5_tries_77 rfl (lv_at hl 2 rfl) ?_
              refine lv_iload_n hx hb dX5_tries_78 rfl (lv_at hl 3 rfl) ?_
              refine lv_iadd hx hb dX5_tries_79 ?_
              refine cw_Vv (As := [.int 1, .int (p1 + (nI (Pw (Ow 0))))]) (rest := []) (c_X5_tries1 l dC dI cI cZ cJ h F_29 G V1 n hV2_ (by omega) Pw hN_30 bPw Ow hN_31 bOw S_32 hN_33 bN_34 (p1 + (nI (Pw (Ow 0)))) (by omega)) fx (cwV 2 hts gX5_tries_X5_tries rfl rfl rfl (by decide +kernel) ⟨Nat.le_of_ble_eq_true rfl, Nat.le_of_ble_eq_true rfl⟩) hK hP hD hS hA 0 rfl rfl rfl rfl hl.1 rfl (Nat.le_of_ble_eq_true rfl) dX5_tries_80 ⟨Nat.le_of_ble_eq_true rfl, Nat.le_of_ble_eq_true rfl⟩ (fun u_37 H locs hw_38 hP hD hS => ?_)
              obtain ⟨F_39, V_40⟩ := u_37
              have hf_41 : ∀ j, j ∉ ([12] : List Nat) → F_39 j = F_29 j := hw_38.1
              have hv_42 : ∀ j, j ≠ 9 → V_40 j = V1 j := hw_38.2.1
              have hN_43 : ∀ i, i < 4 → F_39 12 i = nI (S_32 i) := hw_38.2.2
              have hP : va_P (dC, dI) vwCl (wM cI cZ cJ h F_39 G V_40) H := hP
              have hD : va_D A (wM cI cZ cJ h F_39 G V_40) := hD
              have hN_44 : ∀ i, i < n → F_39 11 i = nI (Pw i) := by rw [hf_41 11 (by decide)]; exact hN_30
              have hN_45 : ∀ i, i < n → F_39 10 i = nI (Ow i) := by rw [hf_41 10 (by decide)]; exact hN_31
              have hV_46 : V_40 2 = nI n := by rw [hv_42 2 (by decide)]; exact hV2_
              refine lv_aload_n hx hb dX5_tries_83 rfl (lv_at hl 0 rfl) ?_
              refine va_get (D := (dC, dI)) (ci := 5) (v := .ref (h 12)) (C := RX5) (T := TX5) (N := 33) hx hb hts hin_X5 hown hK hP 0 rfl rfl 19 (by decide) hw4 (fun _ h9 => h9) rfl dX5_tries_84 ?_
              refine lv_iload hx hb dX5_tries_87 (lv_at hl 4 rfl) ?_
              refine lv_dup2_11 hx hb dX5_tries_89 rfl rfl ?_
              refine va_iald hx hb hK hP 12 0 rfl rfl (vp_in_nI (n := cc) (N := 4) (by omega) (by decide)) dX5_tries_90 ?_
              have hb_47 := bN_34 cc (by omega)
              refine lv_topi (fun x_48 ex_48 => ?_)
              obtain rfl : x_48 = nI (S_32 cc) := ex_48.trans ((congrArg (F_39 12) (nI_clamp (n := cc) (by omega))).trans (hN_43 cc (by omega)))
              refine lv_iload_n hx hb dX5_tries_91 rfl (lv_at hl 3 rfl) ?_
              refine lv_iadd hx hb dX5_tries_92 ?_
              refine lv_topi (fun x_49 ex_49 => ?_)
              obtain rfl : x_49 = nI ((S_32 cc) + (Pw (Ow 0))) := ex_49.trans (nI_add (S_32 cc) (Pw (Ow 0)))
              have hsk : S_32 cc = Lf cc - (Pw (Ow 0)) := by rw [eS_32]; exact if_pos rfl
              refine va_iast hx hb hK hP hD hS 12 0 rfl rfl (vp_in_nI (n := cc) (N := 4) (by omega) (by decide)) dX5_tries_93 (fun H locs hP hD hS => ?_)
              obtain ⟨F_50, eF_50⟩ : ∃ z : Nat → Nat → Int32, z = va_up F_39 12 (upd (F_39 12) (nI cc).toNatClampNeg (nI ((S_32 cc) + (Pw (Ow 0))))) := ⟨_, rfl⟩
              have hP : va_P (dC, dI) vwCl (wM cI cZ cJ h F_50 G V_40) H := by rw [eF_50]; exact hP
              have hD : va_D A (wM cI cZ cJ h F_50 G V_40) := by rw [eF_50]; exact hD
              have hN_51 : ∀ i, i < n → F_50 11 i = nI (Pw i) := by rw [eF_50]; exact hN_44
              have hN_52 : ∀ i, i < n → F_50 10 i = nI (Ow i) := by rw [eF_50]; exact hN_45
              obtain ⟨S_53, eS_53⟩ : ∃ z : Nat → Nat, z = nup S_32 cc ((S_32 cc) + (Pw (Ow 0))) := ⟨_, rfl⟩
              have hN_54 : ∀ i, i < 4 → F_50 12 i = nI (S_53 i) := by rw [eF_50, eS_53]; show ∀ i, i < 4 → upd (F_39 12) (nI cc).toNatClampNeg (nI ((S_32 cc) + (Pw (Ow 0)))) i = nI _; exact nf_put hN_43 (nI_clamp (n := cc) (by omega))
              have bN_55 : ∀ i, i < 4 → S_53 i ≤ 10000 := by rw [eS_53]; exact nb_put bN_34 (by omega)
              have hbk : S_53 = Lf := by rw [eS_53]; exact nup_back eS_32 (by omega) rfl
              rw [hbk] at hN_54
              refine lv_iinc (v := nI (cc + 1)) (lv' := [(4, .int (nI (cc + 1))), (0, .ref (h 0)), (1, .int 0), (2, .int p1), (3, .int (nI (Pw (Ow 0))))]) hx hb dX5_tries_94 hl (k := 4) rfl (nI_1 _) (by decide) rfl (fun ls hl => ?_)
              refine lv_goto (tgt := 42) hx hb dX5_tries_97 (by decide) ?_
              exact ih42 (cc + 1) F_50 V_40 (by omega) hN_54 (fun j hj => ((va_ne eF_50 (fun h => hj (by rw [h]; decide))).trans ((hf_41 j (fun h => hj ((by decide : ∀ x ∈ ([12] : List Nat), x ∈ ([12] : List Nat)) j h))).trans ((va_ne eF_29 (fun h => hj (by rw [h]; decide))).trans (hfr j hj))))) (fun j hj => (hv_42 j hj).trans (hvr j hj)) (by omega) H locs ls hP hD hS (lv_sub hl [1, 2, 3, 4, 0] rfl)
            · have c_25 : ¬ (Pw (Ow 0)) ≤ (Lf cc) := fun h => c_25 ((nI_leI (a := Pw (Ow 0)) (b := Lf cc) (by omega) (by omega)).mpr h)
              refine lv_goto (tgt := 94) hx hb dX5_tries_59 (by decide) ?_
              refine lv_iinc (v := nI (cc + 1)) (lv' := [(4, .int (nI (cc + 1))), (0, .ref (h 0)), (1, .int 0), (2, .int p1), (3, .int (nI (Pw (Ow 0))))]) hx hb dX5_tries_94 hl (k := 4) rfl (nI_1 _) (by decide) rfl (fun ls hl => ?_)
              refine lv_goto (tgt := 42) hx hb dX5_tries_97 (by decide) ?_
              exact ih42 (cc + 1) F1 V1 (by omega) hL (fun j hj => (hfr j hj)) (fun j hj => hvr j hj) (by omega) H locs ls hP hD hS (lv_sub hl [1, 2, 3, 4, 0] rfl)
      exact loop42 _ 0 F V (by omega) hLf (fun _ _ => rfl) (fun _ _ => rfl) (Nat.lt_succ_self _) H locs ls hP hD hS (lv_sub hl [2, 3, 4, 1, 0] rfl)
    · have c_3 : 0 = n := (nI_eq (a := 0) (b := n) (by omega) (by omega)).mp c_3
      refine lv_aload_n hx hb dX5_tries_14 rfl (lv_at hl 0 rfl) ?_
      refine lv_aload_n hx hb dX5_tries_15 rfl (lv_at hl 0 rfl) ?_
      refine va_get (D := (dC, dI)) (ci := 5) (v := .int (V 9)) (C := RX5) (T := TX5) (N := 33) hx hb hts hin_X5 hown hK hP 0 rfl rfl 24 (by decide) hw5 (fun _ h9 => h9) rfl dX5_tries_16 ?_
      refine lv_iload_n hx hb dX5_tries_19 rfl (lv_at hl 2 rfl) ?_
      refine va_mmax hx hb (hml.trans hl.1.symm) hown hw6 hw7 hw8 hw9 (Nat.le_of_ble_eq_true rfl) (Nat.le_of_ble_eq_true rfl) (Nat.le_of_ble_eq_true rfl) (Nat.le_of_ble_eq_true rfl) dX5_tries_20 ?_
      refine lv_topi (fun x_56 ex_56 => ?_)
      refine va_put (D := (dC, dI)) (ci := 5) (v := .int x_56) (ty := .int) (C := RX5) (T := TX5) (N := 33) hx hb hts hin_X5 tyX5 tyX5_ok nmX5 hown hK hP hD hS 0 rfl rfl 24 (by decide) hw5 (fun _ h9 => h9) rfl (by decide +kernel) rfl rfl (Nat.le_of_ble_eq_true rfl) dX5_tries_23 (fun H locs hP hD hS => ?_)
      have hP : va_P (dC, dI) vwCl (wM cI cZ cJ h F G (va_up V 9 x_56)) H := hP
      have hD : va_D A (wM cI cZ cJ h F G (va_up V 9 x_56)) := hD
      exact hret (F, va_up V 9 x_56) H locs 26 ls dX5_tries_26 (⟨fun _ _ => rfl, fun j hj => by show (va_up V 9 x_56) j = V j; simp only [va_up, if_neg hj], hLf⟩) (hP) (hD) hS
