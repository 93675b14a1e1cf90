def rm_X5_orders : Room := { frames := 2, cells := 0, slots := 0, locals := 53 }
set_option maxHeartbeats 4000000 in
set_option maxRecDepth 100000 in
theorem c_X5_orders (l : Launch) (dC : Nat → ClassId) (dI : Nat → Nat → Nat) (cI cZ cJ : ClassId) (h : Nat → Nat) (F : Nat → Nat → Int32) (G : Nat → Int64) (V : Nat → Int32) (n : Nat) (hV2 : V 2 = nI n) (bV2 : n ≤ 40) (So : Nat → Nat) (hSo : ∀ i, i < 40 → F 3 i = nI (So i)) (bSo : ∀ i, i < 40 → So i ≤ 90) (Hh : Nat → Nat) (hHh : ∀ i, i < 24 → F 7 i = nI (Hh i)) (bHh : ∀ i, i < 24 → Hh i ≤ 9) (Wd : Nat → Nat) (hWd : ∀ i, i < 24 → F 8 i = nI (Wd i)) (bWd : ∀ i, i < 24 → Wd i ≤ 99) (X : Nat → Nat) (hX : ∀ i, i < n → F 1 i = nI (X i)) (bX : ∀ i, i < n → X i ≤ 14) (Y : Nat → Nat) (hY : ∀ i, i < n → F 2 i = nI (Y i)) (bY : ∀ i, i < n → Y i ≤ 14) (k1 mo : Nat) (hk1 : k1 < 24) (hmo : mo ≤ 460)  (SX SY : Nat → Int32) (hSX : ∀ i, i < 24 → F 5 i = SX i) (hSY : ∀ i, i < 24 → F 6 i = SY i) (hGP : GP n X Y) : CtV l (dC, dI) vwCl (tys3 cI cZ cJ) yX5_orders wsX5_orders rm_X5_orders [.ref (h 0), .int (nI k1), .int (nI mo)] (wM cI cZ cJ h F G V) (S := Nat → Nat → Int32) (fun u => (∀ j, j ∉ ([10, 11] : List Nat) → u j = F j) ∧ ((∀ i, i < n → u 11 i = nI (pwA X Y n SX SY Hh So Wd k1 mo i)) ∧ ∀ i, i < n → u 10 i = nI (ordn (pwA X Y n SX SY Hh So Wd k1 mo) n i))) (fun u => wM cI cZ cJ h u G V) 0 0 := by
  refine ct_V (cc := cX5_orders) (maxL := 5) (own := RX5) (by decide) rfl rfl (Nat.le_of_ble_eq_true rfl) (lv := [(0, .ref (h 0)), (1, .int (nI k1)), (2, .int (nI mo))]) rfl ?_
  intro p e s m args below meth c A Q ls hnm fx hK hP hD hA hl hret
  obtain ⟨hx, hb, hml, hown, hts⟩ := id fx
  have hS : va_S A s.heap s.heap [] := va_S.rf
  have hw0 := hts (.fieldLink RX5 91 "MirrorTowerModel" "mirrors" "I") (by decide +kernel)
  have hin_X5 : ∀ w ∈ u_ws RX5 TX5 33, w ∈ wsX5_orders := by decide +kernel
  have hw2 := hts (.fieldLink RX5 50 "MirrorTowerModel" "power" "[I") (by decide +kernel)
  have hw3 := hts (.fieldLink RX5 47 "MirrorTowerModel" "order" "[I") (by decide +kernel)
  obtain ⟨Pn, ePn⟩ : ∃ z : Nat → Nat, z = pwA X Y n SX SY Hh So Wd k1 mo := ⟨_, rfl⟩
  have bPz : ∀ i, Pn i ≤ 100 := fun i => by rw [ePn]; exact pwA_le (bHh k1 hk1)
  obtain ⟨H, hH⟩ : ∃ H, H = s.heap := ⟨_, rfl⟩
  rw [← hH] at hP ⊢
  have hS : va_S A s.heap H [] := by rw [hH]; exact hS
  generalize ([] : List Loc) = locs at hS ⊢
  refine lv_iconst (v := 0) hx hb dX5_orders_0 (by decide) ?_
  refine lv_istore_n (lv' := [(3, .int 0), (0, .ref (h 0)), (1, .int (nI k1)), (2, .int (nI mo))]) hx hb dX5_orders_1 rfl hl (by decide) rfl (fun ls hl => ?_)
  have loop2 : ∀ (fu : Nat) (mm : Nat) (F1 : Nat → Nat → Int32), (mm ≤ n) → (∀ i, i < mm → F1 11 i = nI (Pn i)) → (∀ i, i < mm → F1 10 i = nI (ordn Pn mm i)) → (∀ j, j ∉ ([10, 11] : List Nat) → F1 j = F j) → (n - mm) < fu → ∀ (H : Heap) (locs : List Loc) (ls : Array Slot), va_P (dC, dI) vwCl (wM cI cZ cJ h F1 G V) H → va_D A (wM cI cZ cJ h F1 G V) → va_S A s.heap H locs → lv_has ls 5 [(0, .ref (h 0)), (1, .int (nI k1)), (2, .int (nI mo)), (3, .int (nI mm))] → W p l e rm_X5_orders s m args below meth c H locs 0 0 Q (F0 m 2 ls []) := by
    intro fu
    induction fu with
    | zero => intro mm F1 hm hPp hO hfr hn_; exact absurd hn_ (Nat.not_lt_zero _)
    | succ fu ih2 =>
      intro mm F1 hm hPp hO hfr hn_ H locs ls hP hD hS hl
      have hN_1 : ∀ i, i < 40 → F1 3 i = nI (So i) := by rw [hfr 3 (by decide)]; exact hSo
      have hN_2 : ∀ i, i < 24 → F1 7 i = nI (Hh i) := by rw [hfr 7 (by decide)]; exact hHh
      have hN_3 : ∀ i, i < 24 → F1 8 i = nI (Wd i) := by rw [hfr 8 (by decide)]; exact hWd
      have hN_4 : ∀ i, i < n → F1 1 i = nI (X i) := by rw [hfr 1 (by decide)]; exact hX
      have hN_5 : ∀ i, i < n → F1 2 i = nI (Y i) := by rw [hfr 2 (by decide)]; exact hY
      refine lv_iload_n hx hb dX5_orders_2 rfl (lv_at hl 3 rfl) ?_
      refine lv_aload_n hx hb dX5_orders_3 rfl (lv_at hl 0 rfl) ?_
      refine va_get (D := (dC, dI)) (ci := 5) (v := .int (V 2)) (C := RX5) (T := TX5) (N := 33) hx hb hts hin_X5 hown hK hP 0 rfl rfl 2 (by decide) hw0 (fun _ h9 => h9) rfl dX5_orders_4 ?_
      refine lv_topi (fun x_6 ex_6 => ?_)
      obtain rfl : x_6 = nI n := ex_6.trans (hV2)
      refine lv_icmp_ge (tgt := 90) hx hb dX5_orders_7 (by decide) (fun c_7 => ?_) (fun c_7 => ?_)
      · have c_7 : n ≤ mm := (nI_leI (a := n) (b := mm) (by omega) (by omega)).mp c_7
        exact hret F1 H locs 90 ls dX5_orders_90 (by
                    have hm_ : mm = n := by omega
                    rw [hm_] at hPp hO
                    rw [← ePn]
                    exact ⟨hfr, hPp, hO⟩) (hP) (hD) hS
      · have c_7 : ¬ n ≤ mm := fun h => c_7 ((nI_leI (a := n) (b := mm) (by omega) (by omega)).mpr h)
        refine lv_aload_n hx hb dX5_orders_10 rfl (lv_at hl 0 rfl) ?_
        refine va_get (D := (dC, dI)) (ci := 5) (v := .ref (h 11)) (C := RX5) (T := TX5) (N := 33) hx hb hts hin_X5 hown hK hP 0 rfl rfl 18 (by decide) hw2 (fun _ h9 => h9) rfl dX5_orders_11 ?_
        refine lv_iload_n hx hb dX5_orders_14 rfl (lv_at hl 3 rfl) ?_
        refine lv_aload_n hx hb dX5_orders_15 rfl (lv_at hl 0 rfl) ?_
        refine lv_iload_n hx hb dX5_orders_16 rfl (lv_at hl 3 rfl) ?_
        refine lv_iload_n hx hb dX5_orders_17 rfl (lv_at hl 1 rfl) ?_
        refine lv_iload_n hx hb dX5_orders_18 rfl (lv_at hl 2 rfl) ?_
        refine cw_Vi (As := [.int (nI mm), .int (nI k1), .int (nI mo)]) (rest := [.int (nI mm), .ref (h 11)]) (c_X5_powerOf l dC dI cI cZ cJ h F1 G V n hV2 (by omega) So hN_1 bSo Hh hN_2 bHh Wd hN_3 bWd X hN_4 bX Y hN_5 bY mm k1 mo (by omega) (by omega) (by omega) SX SY (fun i hi => (congrFun (hfr 5 (by decide)) i).trans (hSX i hi)) (fun i hi => (congrFun (hfr 6 (by decide)) i).trans (hSY i hi)) hGP) fx (cwV 3 hts gX5_orders_X5_powerOf rfl rfl rfl (by decide +kernel) ⟨Nat.le_of_ble_eq_true rfl, Nat.le_of_ble_eq_true rfl⟩) hK hP hD hS hA 0 rfl rfl rfl rfl hl.1 rfl (Nat.le_of_ble_eq_true rfl) dX5_orders_19 ⟨Nat.le_of_ble_eq_true rfl, Nat.le_of_ble_eq_true rfl⟩ (fun r_8 u_9 H locs hw_10 hP hD hS => ?_)
        have hP : va_P (dC, dI) vwCl (wM cI cZ cJ h F1 G V) H := hP
        have hD : va_D A (wM cI cZ cJ h F1 G V) := hD
        obtain rfl : r_8 = nI (pwA X Y n SX SY Hh So Wd k1 mo mm) := hw_10
        have hb_11 : pwA X Y n SX SY Hh So Wd k1 mo mm ≤ 100 := pwA_le (bHh k1 (by omega))
        refine va_iast hx hb hK hP hD hS 11 0 rfl rfl (vp_in_nI (n := mm) (N := 40) (by omega) (by decide)) dX5_orders_22 (fun H locs hP hD hS => ?_)
        obtain ⟨F_12, eF_12⟩ : ∃ z : Nat → Nat → Int32, z = va_up F1 11 (upd (F1 11) (nI mm).toNatClampNeg (nI (pwA X Y n SX SY Hh So Wd k1 mo mm))) := ⟨_, rfl⟩
        have hP : va_P (dC, dI) vwCl (wM cI cZ cJ h F_12 G V) H := by rw [eF_12]; exact hP
        have hD : va_D A (wM cI cZ cJ h F_12 G V) := by rw [eF_12]; exact hD
        have hN_13 : ∀ i, i < 40 → F_12 3 i = nI (So i) := by rw [eF_12]; exact hN_1
        have hN_14 : ∀ i, i < 24 → F_12 7 i = nI (Hh i) := by rw [eF_12]; exact hN_2
        have hN_15 : ∀ i, i < 24 → F_12 8 i = nI (Wd i) := by rw [eF_12]; exact hN_3
        have hN_16 : ∀ i, i < n → F_12 1 i = nI (X i) := by rw [eF_12]; exact hN_4
        have hN_17 : ∀ i, i < n → F_12 2 i = nI (Y i) := by rw [eF_12]; exact hN_5
        have hPn : ∀ i, i < mm + 1 → F_12 11 i = nI (Pn i) := fun i hi => by
          rw [eF_12]
          show upd (F1 11) (nI mm).toNatClampNeg _ i = nI (Pn i)
          rw [nI_clamp (by omega)]
          by_cases q : i = mm
          · rw [q, ePn]; exact pk_us
          · rw [pk_un q]; exact hPp i (by omega)
        have bPn : ∀ i, i < mm + 1 → Pn i ≤ 100 := fun i _ => bPz i
        have hOn : ∀ i, i < mm → F_12 10 i = nI (ordn Pn mm i) := fun i hi => by
          rw [eF_12]; exact hO i hi
        refine lv_iload_n hx hb dX5_orders_23 rfl (lv_at hl 3 rfl) ?_
        refine lv_istore (lv' := [(4, .int (nI mm)), (0, .ref (h 0)), (1, .int (nI k1)), (2, .int (nI mo)), (3, .int (nI mm))]) hx hb dX5_orders_24 hl (by decide) rfl (fun ls hl => ?_)
        have loop26 : ∀ (fu : Nat) (t : Nat) (F2 : Nat → Nat → Int32), (t ≤ mm) → (posn Pn (ordn Pn mm) mm mm = posn Pn (ordn Pn mm) mm t) → (∀ i, i < t → F2 10 i = nI (ordn Pn mm i)) → (∀ i, t < i → i ≤ mm → F2 10 i = nI (ordn Pn mm (i - 1))) → (∀ j, j ∉ ([10] : List Nat) → F2 j = F_12 j) → (t) < fu → ∀ (H : Heap) (locs : List Loc) (ls : Array Slot), va_P (dC, dI) vwCl (wM cI cZ cJ h F2 G V) H → va_D A (wM cI cZ cJ h F2 G V) → va_S A s.heap H locs → lv_has ls 5 [(0, .ref (h 0)), (1, .int (nI k1)), (2, .int (nI mo)), (3, .int (nI mm)), (4, .int (nI t))] → W p l e rm_X5_orders s m args below meth c H locs 0 0 Q (F0 m 26 ls []) := by
          intro fu
          induction fu with
          | zero => intro t F2 ht hps hlo hhi hfr2 hn_; exact absurd hn_ (Nat.not_lt_zero _)
          | succ fu ih26 =>
            intro t F2 ht hps hlo hhi hfr2 hn_ H locs ls hP hD hS hl
            have hN_18 : ∀ i, i < mm + 1 → F2 11 i = nI (Pn i) := by rw [hfr2 11 (by decide)]; exact hPn
            refine lv_iload hx hb dX5_orders_26 (lv_at hl 4 rfl) ?_
            refine lv_if_le (tgt := 76) hx hb dX5_orders_28 (by decide) (fun c_19 => ?_) (fun c_19 => ?_)
            · have c_19 : t ≤ 0 := (nI_leI (a := t) (b := 0) (by omega) (by omega)).mp c_19
              refine lv_aload_n hx hb dX5_orders_76 rfl (lv_at hl 0 rfl) ?_
              refine va_get (D := (dC, dI)) (ci := 5) (v := .ref (h 10)) (C := RX5) (T := TX5) (N := 33) hx hb hts hin_X5 hown hK hP 0 rfl rfl 17 (by decide) hw3 (fun _ h9 => h9) rfl dX5_orders_77 ?_
              refine lv_iload hx hb dX5_orders_80 (lv_at hl 4 rfl) ?_
              refine lv_iload_n hx hb dX5_orders_82 rfl (lv_at hl 3 rfl) ?_
              refine va_iast hx hb hK hP hD hS 10 0 rfl rfl (vp_in_nI (n := t) (N := 40) (by omega) (by decide)) dX5_orders_83 (fun H locs hP hD hS => ?_)
              obtain ⟨F_20, eF_20⟩ : ∃ z : Nat → Nat → Int32, z = va_up F2 10 (upd (F2 10) (nI t).toNatClampNeg (nI mm)) := ⟨_, rfl⟩
              have hP : va_P (dC, dI) vwCl (wM cI cZ cJ h F_20 G V) H := by rw [eF_20]; exact hP
              have hD : va_D A (wM cI cZ cJ h F_20 G V) := by rw [eF_20]; exact hD
              have hN_21 : ∀ i, i < mm + 1 → F_20 11 i = nI (Pn i) := by rw [eF_20]; exact hN_18
              refine lv_iinc (v := nI (mm + 1)) (lv' := [(3, .int (nI (mm + 1))), (0, .ref (h 0)), (1, .int (nI k1)), (2, .int (nI mo)), (4, .int (nI t))]) hx hb dX5_orders_84 hl (k := 3) rfl (nI_1 _) (by decide) rfl (fun ls hl => ?_)
              refine lv_goto (tgt := 2) hx hb dX5_orders_87 (by decide) ?_
              have hb_23 : posn Pn (ordn Pn mm) mm mm = t := by
                rw [hps]
                by_cases h0 : t = 0
                · rw [h0]; rfl
                · exact posn_e (by omega) (by omega)
              have hb_22 : ∀ i, i < mm + 1 → F_20 10 i = nI (ordn Pn (mm + 1) i) := fun i hi => by
                rw [eF_20]
                show upd (F2 10) (nI t).toNatClampNeg (nI mm) i = nI (insn Pn (ordn Pn mm) mm i)
                rw [nI_clamp (by omega), insn, hb_23]
                by_cases q1 : i < t
                · rw [if_pos q1, pk_un (by omega)]; exact hlo i q1
                · rw [if_neg q1]
                  by_cases q2 : i = t
                  · rw [if_pos q2, q2]; exact pk_us
                  · rw [if_neg q2, pk_un q2]; exact hhi i (by omega) (by omega)
              have hb_24 : ∀ i, i < mm + 1 → F_20 11 i = nI (Pn i) := by rw [va_ne eF_20 (by decide), hfr2 11 (by decide)]; exact hPn
              exact ih2 (mm + 1) F_20 (by omega) hb_24 hb_22 (fun j hj => (va_ne eF_20 (fun h => hj (by rw [h]; decide))).trans ((hfr2 j (fun z => hj ((by decide : ∀ x ∈ ([10] : List Nat), x ∈ ([10, 11] : List Nat)) j z))).trans ((va_ne eF_12 (fun h => hj (by rw [h]; decide))).trans (hfr j hj)))) (by omega) H locs ls hP hD hS (lv_sub hl [1, 2, 3, 0] rfl)
            · have c_19 : ¬ t ≤ 0 := fun h => c_19 ((nI_leI (a := t) (b := 0) (by omega) (by omega)).mpr h)
              refine lv_aload_n hx hb dX5_orders_31 rfl (lv_at hl 0 rfl) ?_
              refine va_get (D := (dC, dI)) (ci := 5) (v := .ref (h 11)) (C := RX5) (T := TX5) (N := 33) hx hb hts hin_X5 hown hK hP 0 rfl rfl 18 (by decide) hw2 (fun _ h9 => h9) rfl dX5_orders_32 ?_
              refine lv_iload_n hx hb dX5_orders_35 rfl (lv_at hl 3 rfl) ?_
              refine va_iald hx hb hK hP 11 0 rfl rfl (vp_in_nI (n := mm) (N := 40) (by omega) (by decide)) dX5_orders_36 ?_
              have hb_25 := bPn mm (by omega)
              refine lv_topi (fun x_26 ex_26 => ?_)
              obtain rfl : x_26 = nI (Pn mm) := ex_26.trans ((congrArg (F2 11) (nI_clamp (n := mm) (by omega))).trans (hN_18 mm (by omega)))
              refine lv_aload_n hx hb dX5_orders_37 rfl (lv_at hl 0 rfl) ?_
              refine va_get (D := (dC, dI)) (ci := 5) (v := .ref (h 11)) (C := RX5) (T := TX5) (N := 33) hx hb hts hin_X5 hown hK hP 0 rfl rfl 18 (by decide) hw2 (fun _ h9 => h9) rfl dX5_orders_38 ?_
              refine lv_aload_n hx hb dX5_orders_41 rfl (lv_at hl 0 rfl) ?_
              refine va_get (D := (dC, dI)) (ci := 5) (v := .ref (h 10)) (C := RX5) (T := TX5) (N := 33) hx hb hts hin_X5 hown hK hP 0 rfl rfl 17 (by decide) hw3 (fun _ h9 => h9) rfl dX5_orders_42 ?_
              refine lv_iload hx hb dX5_orders_45 (lv_at hl 4 rfl) ?_
              refine lv_iconst (v := 1) hx hb dX5_orders_47 (by decide) ?_
              refine lv_isub hx hb dX5_orders_48 ?_
              refine lv_topi (fun x_27 ex_27 => ?_)
              obtain rfl : x_27 = nI (t - 1) := ex_27.trans (pk_sub (a := t) (b := 1) (by omega))
              refine va_iald hx hb hK hP 10 0 rfl rfl (vp_in_nI (n := t - 1) (N := 40) (by omega) (by decide)) dX5_orders_49 ?_
              have hb_28 := ordn_lt Pn mm (t - 1) (by omega)
              refine lv_topi (fun x_29 ex_29 => ?_)
              obtain rfl : x_29 = nI (ordn Pn mm (t - 1)) := ex_29.trans ((congrArg (F2 10) (nI_clamp (n := t - 1) (by omega))).trans (hlo (t - 1) (by omega)))
              refine va_iald hx hb hK hP 11 0 rfl rfl (vp_in_nI (n := ordn Pn mm (t - 1)) (N := 40) (by omega) (by decide)) dX5_orders_50 ?_
              have hb_30 := bPn (ordn Pn mm (t - 1)) (by omega)
              refine lv_topi (fun x_31 ex_31 => ?_)
              obtain rfl : x_31 = nI (Pn (ordn Pn mm (t - 1))) := ex_31.trans ((congrArg (F2 11) (nI_clamp (n := ordn Pn mm (t - 1)) (by omega))).trans (hN_18 (ordn Pn mm (t - 1)) (by omega)))
              refine lv_icmp_le (tgt := 76) hx hb dX5_orders_51 (by decide) (fun c_32 => ?_) (fun c_32 => ?_)
              · have c_32 : (Pn mm) ≤ (Pn (ordn Pn mm (t - 1))) := (nI_leI (a := Pn mm) (b := Pn (ordn Pn mm (t - 1))) (by omega) (by omega)).mp c_32
                refine lv_aload_n hx hb dX5_orders_76 rfl (lv_at hl 0 rfl) ?_
                refine va_get (D := (dC, dI)) (ci := 5) (v := .ref (h 10)) (C := RX5) (T := TX5) (N := 33) hx hb hts hin_X5 hown hK hP 0 rfl rfl 17 (by decide) hw3 (fun _ h9 => h9) rfl dX5_orders_77 ?_
                refine lv_iload hx hb dX5_orders_80 (lv_at hl 4 rfl) ?_
                refine lv_iload_n hx hb dX5_orders_82 rfl (lv_at hl 3 rfl) ?_
                refine va_iast hx hb hK hP hD hS 10 0 rfl rfl (vp_in_nI (n := t) (N := 40) (by omega) (by decide)) dX5_orders_83 (fun H locs hP hD hS => ?_)
                obtain ⟨F_33, eF_33⟩ : ∃ z : Nat → Nat → Int32, z = va_up F2 10 (upd (F2 10) (nI t).toNatClampNeg (nI mm)) := ⟨_, rfl⟩
                have hP : va_P (dC, dI) vwCl (wM cI cZ cJ h F_33 G V) H := by rw [eF_33]; exact hP
                have hD : va_D A (wM cI cZ cJ h F_33 G V) := by rw [eF_33]; exact hD
                have hN_34 : ∀ i, i < mm + 1 → F_33 11 i = nI (Pn i) := by rw [eF_33]; exact hN_18
                refine lv_iinc (v := nI (mm + 1)) (lv' := [(3, .int (nI (mm + 1))), (0, .ref (h 0)), (1, .int (nI k1)), (2, .int (nI mo)), (4, .int (nI t))]) hx hb dX5_orders_84 hl (k := 3) rfl (nI_1 _) (by decide) rfl (fun ls hl => ?_)
                refine lv_goto (tgt := 2) hx hb dX5_orders_87 (by decide) ?_
                have hb_36 : posn Pn (ordn Pn mm) mm mm = t := by
                  rw [hps]
                  by_cases h0 : t = 0
                  · rw [h0]; rfl
                  · exact posn_e (by omega) (by omega)
                have hb_35 : ∀ i, i < mm + 1 → F_33 10 i = nI (ordn Pn (mm + 1) i) := fun i hi => by
                  rw [eF_33]
                  show upd (F2 10) (nI t).toNatClampNeg (nI mm) i = nI (insn Pn (ordn Pn mm) mm i)
                  rw [nI_clamp (by omega), insn, hb_36]
                  by_cases q1 : i < t
                  · rw [if_pos q1, pk_un (by omega)]; exact hlo i q1
                  · rw [if_neg q1]
                    by_cases q2 : i = t
                    · rw [if_pos q2, q2]; exact pk_us
                    · rw [if_neg q2, pk_un q2]; exact hhi i (by omega) (by omega)
                have hb_37 : ∀ i, i < mm + 1 → F_33 11 i = nI (Pn i) := by rw [va_ne eF_33 (by decide), hfr2 11 (by decide)]; exact hPn
                exact ih2 (mm + 1) F_33 (by omega) hb_37 hb_35 (fun j hj => (va_ne eF_33 (fun h => hj (by rw [h]; decide))).trans ((hfr2 j (fun z => hj ((by decide : ∀ x ∈ ([10] : List Nat), x ∈ ([10, 11] : List Nat)) j z))).trans ((va_ne eF_12 (fun h => hj (by rw [h]; decide))).trans (hfr j hj)))) (by omega) H locs ls hP hD hS (lv_sub hl [1, 2, 3, 0] rfl)
              · have c_32 : ¬ (Pn mm) ≤ (Pn (ordn Pn mm (t - 1))) := fun h => c_32 ((nI_leI (a := Pn mm) (b := Pn (ordn Pn mm (t - 1))) (by omega) (by omega)).mpr h)
                refine lv_aload_n hx hb dX5_orders_54 rfl (lv_at hl 0 rfl) ?_
                refine va_get (D := (dC, dI)) (ci := 5) (v := .ref (h 10)) (C := RX5) (T := TX5) (N := 33) hx hb hts hin_X5 hown hK hP 0 rfl rfl 17 (by decide) hw3 (fun _ h9 => h9) rfl dX5_orders_55 ?_
                refine lv_iload hx hb dX5_orders_58 (lv_at hl 4 rfl) ?_
                refine lv_aload_n hx hb dX5_orders_60 rfl (lv_at hl 0 rfl) ?_
                refine va_get (D := (dC, dI)) (ci := 5) (v := .ref (h 10)) (C := RX5) (T := TX5) (N := 33) hx hb hts hin_X5 hown hK hP 0 rfl rfl 17 (by decide) hw3 (fun _ h9 => h9) rfl dX5_orders_61 ?_
                refine lv_iload hx hb dX5_orders_64 (lv_at hl 4 rfl) ?_
                refine lv_iconst (v := 1) hx hb dX5_orders_66 (by decide) ?_
                refine lv_isub hx hb dX5_orders_67 ?_
                refine lv_topi (fun x_38 ex_38 => ?_)
                obtain rfl : x_38 = nI (t - 1) := ex_38.trans (pk_sub (a := t) (b := 1) (by omega))
                refine va_iald hx hb hK hP 10 0 rfl rfl (vp_in_nI (n := t - 1) (N := 40) (by omega) (by decide)) dX5_orders_68 ?_
                have hb_39 := ordn_lt Pn mm (t - 1) (by omega)
                refine lv_topi (fun x_40 ex_40 => ?_)
                obtain rfl : x_40 = nI (ordn Pn mm (t - 1)) := ex_40.trans ((congrArg (F2 10) (nI_clamp (n := t - 1) (by omega))).trans (hlo (t - 1) (by omega)))
                refine va_iast hx hb hK hP hD hS 10 0 rfl rfl (vp_in_nI (n := t) (N := 40) (by omega) (by decide)) dX5_orders_69 (fun H locs hP hD hS => ?_)
                obtain ⟨F_41, eF_41⟩ : ∃ z : Nat → Nat → Int32, z = va_up F2 10 (upd (F2 10) (nI t).toNatClampNeg (nI (ordn Pn mm (t - 1)))) := ⟨_, rfl⟩
                have hP : va_P (dC, dI) vwCl (wM cI cZ cJ h F_41 G V) H := by rw [eF_41]; exact hP
                have hD : va_D A (wM cI cZ cJ h F_41 G V) := by rw [eF_41]; exact hD
                have hN_42 : ∀ i, i < mm + 1 → F_41 11 i = nI (Pn i) := by rw [eF_41]; exact hN_18
                refine lv_iinc (v := nI (t - 1)) (lv' := [(4, .int (nI (t - 1))), (0, .ref (h 0)), (1, .int (nI k1)), (2, .int (nI mo)), (3, .int (nI mm))]) hx hb dX5_orders_70 hl (k := 4) rfl (dec_nI (by omega)) (by decide) rfl (fun ls hl => ?_)
                refine lv_goto (tgt := 26) hx hb dX5_orders_73 (by decide) ?_
                have hb_43 : ∀ i, i < t - 1 → F_41 10 i = nI (ordn Pn mm i) := fun i hi => by
                  rw [eF_41]
                  show upd (F2 10) (nI t).toNatClampNeg _ i = _
                  rw [nI_clamp (by omega), pk_un (by omega)]; exact hlo i (by omega)
                have hb_44 : ∀ i, t - 1 < i → i ≤ mm → F_41 10 i = nI (ordn Pn mm (i - 1)) := fun i h1 h2 => by
                  rw [eF_41]
                  show upd (F2 10) (nI t).toNatClampNeg _ i = _
                  rw [nI_clamp (by omega)]
                  by_cases q : i = t
                  · rw [q]; exact pk_us
                  · rw [pk_un q]; exact hhi i (by omega) h2
                exact ih26 (t - 1) F_41 (by omega) (hps.trans (posn_s (by omega) (by omega))) hb_43 hb_44 (fun j hj => ((va_ne eF_41 (fun h => hj (by rw [h]; decide))).trans (hfr2 j hj))) (by omega) H locs ls hP hD hS (lv_sub hl [1, 2, 3, 4, 0] rfl)
        exact loop26 _ mm F_12 (by omega) rfl hOn (fun i h1 h2 => absurd h1 (by omega)) (fun _ _ => rfl) (Nat.lt_succ_self _) H locs ls hP hD hS (lv_sub hl [1, 2, 3, 4, 0] rfl)
  exact loop2 _ 0 F (by omega) (fun i hi => absurd hi (Nat.not_lt_zero i)) (fun i hi => absurd hi (Nat.not_lt_zero i)) (fun _ _ => rfl) (Nat.lt_succ_self _) H locs ls hP hD hS (lv_sub hl [1, 2, 3, 0] rfl)
