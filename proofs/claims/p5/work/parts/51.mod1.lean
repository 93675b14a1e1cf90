theorem posn_cong {P Q O : Nat → Nat} {m : Nat} (h : ∀ k, k < m → P (O k) = Q (O k)) (hm : P m = Q m) : ∀ k, k ≤ m → posn P O m k = posn Q O m k
  | 0, _ => rfl
  | k + 1, hk => by
    rw [posn, posn, h k (by omega), hm, posn_cong h hm k (by omega)]
theorem ordn_cong {P Q : Nat → Nat} : ∀ m, (∀ i, i < m → P i = Q i) → ordn P m = ordn Q m
  | 0, _ => rfl
  | m + 1, h => by
    have ih := ordn_cong m (fun i hi => h i (Nat.lt_succ_of_lt hi))
    have hp : posn P (ordn P m) m m = posn Q (ordn Q m) m m := by
      rw [ih]
      refine posn_cong (fun k hk => ?_) (h m (Nat.lt_succ_self m)) m (Nat.le_refl m)
      exact h _ (Nat.lt_succ_of_lt (ordn_lt Q m k hk))
    show insn P (ordn P m) m = insn Q (ordn Q m) m
    funext i
    unfold insn
    rw [hp, ih]
def rm_X5_orders : Room := { frames := 2, cells := 0, slots := 0, locals := 53 }
set_option maxHeartbeats 4000000 in
set_option maxRecDepth 100000 in
theorem c_X5_orders (l : Launch) (dC : Nat → ClassId) (dI : Nat → Nat → Nat) (cI cZ cJ : ClassId) (h : Nat → Nat) (F : Nat → Nat → Int32) (G : Nat → Int64) (V : Nat → Int32) (n : Nat) (hV2 : V 2 = nI n) (bV2 : n ≤ 40) (So : Nat → Nat) (hSo : ∀ i, i < 40 → F 3 i = nI (So i)) (bSo : ∀ i, i < 40 → So i ≤ 90) (Hh : Nat → Nat) (hHh : ∀ i, i < 24 → F 7 i = nI (Hh i)) (bHh : ∀ i, i < 24 → Hh i ≤ 9) (Wd : Nat → Nat) (hWd : ∀ i, i < 24 → F 8 i = nI (Wd i)) (bWd : ∀ i, i < 24 → Wd i ≤ 99) (k1 mo : Nat) (hk1 : k1 < 24) (hmo : mo ≤ 460)   : CtV l (dC, dI) vwCl (tys3 cI cZ cJ) yX5_orders wsX5_orders rm_X5_orders [.ref (h 0), .int (nI k1), .int (nI mo)] (wM cI cZ cJ h F G V) (S := Nat → Nat → Int32) (fun u => (∀ j, j ∉ ([10, 11] : List Nat) → u j = F j) ∧ (∃ P : Nat → Nat, (∀ i, i < n → u 11 i = nI (P i)) ∧ (∀ i, i < n → P i ≤ 100) ∧ ∀ i, i < n → u 10 i = nI (ordn P n i))) (fun u => wM cI cZ cJ h u G V) 0 0 := by
  refine ct_V (cc := cX5_orders) (maxL := 5) (own := RX5) (by decide) rfl rfl (Nat.le_of_ble_eq_true rfl) (lv := [(0, .ref (h 0)), (1, .int (nI k1)), (2, .int (nI mo))]) rfl ?_
  intro p e s m args below meth c A Q ls hnm fx hK hP hD hA hl hret
  obtain ⟨hx, hb, hml, hown, hts⟩ := id fx
  have hS : va_S A s.heap s.heap [] := va_S.rf
  have hw0 := hts (.fieldLink RX5 91 "MirrorTowerModel" "mirrors" "I") (by decide +kernel)
  have hin_X5 : ∀ w ∈ u_ws RX5 TX5 33, w ∈ wsX5_orders := by decide +kernel
  have hw2 := hts (.fieldLink RX5 50 "MirrorTowerModel" "power" "[I") (by decide +kernel)
  have hw3 := hts (.fieldLink RX5 47 "MirrorTowerModel" "order" "[I") (by decide +kernel)
  obtain ⟨H, hH⟩ : ∃ H, H = s.heap := ⟨_, rfl⟩
  rw [← hH] at hP ⊢
  have hS : va_S A s.heap H [] := by rw [hH]; exact hS
  generalize ([] : List Loc) = locs at hS ⊢
  refine lv_iconst (v := 0) hx hb dX5_orders_0 (by decide) ?_
  refine lv_istore_n (lv' := [(3, .int 0), (0, .ref (h 0)), (1, .int (nI k1)), (2, .int (nI mo))]) hx hb dX5_orders_1 rfl hl (by decide) rfl (fun ls hl => ?_)
  have loop2 : ∀ (fu : Nat) (mm : Nat) (P : Nat → Nat) (F1 : Nat → Nat → Int32), (mm ≤ n) → (∀ i, i < mm → F1 11 i = nI (P i)) → (∀ i, i < mm → P i ≤ 100) → (∀ i, i < mm → F1 10 i = nI (ordn P mm i)) → (∀ j, j ∉ ([10, 11] : List Nat) → F1 j = F j) → (n - mm) < fu → ∀ (H : Heap) (locs : List Loc) (ls : Array Slot), va_P (dC, dI) vwCl (wM cI cZ cJ h F1 G V) H → va_D A (wM cI cZ cJ h F1 G V) → va_S A s.heap H locs → lv_has ls 5 [(0, .ref (h 0)), (1, .int (nI k1)), (2, .int (nI mo)), (3, .int (nI mm))] → W p l e rm_X5_orders s m args below meth c H locs 0 0 Q (F0 m 2 ls []) := by
    intro fu
    induction fu with
    | zero => intro mm P F1 hm hPp bPp hO hfr hn_; exact absurd hn_ (Nat.not_lt_zero _)
    | succ fu ih2 =>
      intro mm P F1 hm hPp bPp hO hfr hn_ H locs ls hP hD hS hl
      have hN_1 : ∀ i, i < 40 → F1 3 i = nI (So i) := by rw [hfr 3 (by decide)]; exact hSo
      have hN_2 : ∀ i, i < 24 → F1 7 i = nI (Hh i) := by rw [hfr 7 (by decide)]; exact hHh
      have hN_3 : ∀ i, i < 24 → F1 8 i = nI (Wd i) := by rw [hfr 8 (by decide)]; exact hWd
      refine lv_iload_n hx hb dX5_orders_2 rfl (lv_at hl 3 rfl) ?_
      refine lv_aload_n hx hb dX5_orders_3 rfl (lv_at hl 0 rfl) ?_
      refine va_get (D := (dC, dI)) (ci := 5) (v := .int (V 2)) (C := RX5) (T := TX5) (N := 33) hx hb hts hin_X5 hown hK hP 0 rfl rfl 2 (by decide) hw0 (fun _ h9 => h9) rfl dX5_orders_4 ?_
      refine lv_topi (fun x_4 ex_4 => ?_)
      obtain rfl : x_4 = nI n := ex_4.trans (hV2)
      refine lv_icmp_ge (tgt := 90) hx hb dX5_orders_7 (by decide) (fun c_5 => ?_) (fun c_5 => ?_)
      · have c_5 : n ≤ mm := (nI_leI (a := n) (b := mm) (by omega) (by omega)).mp c_5
        exact hret F1 H locs 90 ls dX5_orders_90 (by
                    obtain rfl : mm = n := by omega
                    exact ⟨hfr, P, hPp, bPp, hO⟩) (hP) (hD) hS
      · have c_5 : ¬ n ≤ mm := fun h => c_5 ((nI_leI (a := n) (b := mm) (by omega) (by omega)).mpr h)
        refine lv_aload_n hx hb dX5_orders_10 rfl (lv_at hl 0 rfl) ?_
        refine va_get (D := (dC, dI)) (ci := 5) (v := .ref (h 11)) (C := RX5) (T := TX5) (N := 33) hx hb hts hin_X5 hown hK hP 0 rfl rfl 18 (by decide) hw2 (fun _ h9 => h9) rfl dX5_orders_11 ?_
        refine lv_iload_n hx hb dX5_orders_14 rfl (lv_at hl 3 rfl) ?_
        refine lv_aload_n hx hb dX5_orders_15 rfl (lv_at hl 0 rfl) ?_
        refine lv_iload_n hx hb dX5_orders_16 rfl (lv_at hl 3 rfl) ?_
        refine lv_iload_n hx hb dX5_orders_17 rfl (lv_at hl 1 rfl) ?_
        refine lv_iload_n hx hb dX5_orders_18 rfl (lv_at hl 2 rfl) ?_
        refine cw_Vi (As := [.int (nI mm), .int (nI k1), .int (nI mo)]) (rest := [.int (nI mm), .ref (h 11)]) (c_X5_powerOf l dC dI cI cZ cJ h F1 G V n hV2 (by omega) So hN_1 bSo Hh hN_2 bHh Wd hN_3 bWd mm k1 mo (by omega) (by omega) (by omega)) fx (cwV 3 hts gX5_orders_X5_powerOf rfl rfl rfl (by decide +kernel) ⟨Nat.le_of_ble_eq_true rfl, Nat.le_of_ble_eq_true rfl⟩) hK hP hD hS hA 0 rfl rfl rfl rfl hl.1 rfl (Nat.le_of_ble_eq_true rfl) dX5_orders_19 ⟨Nat.le_of_ble_eq_true rfl, Nat.le_of_ble_eq_true rfl⟩ (fun r_6 u_7 H locs hw_8 hP hD hS => ?_)
        have hP : va_P (dC, dI) vwCl (wM cI cZ cJ h F1 G V) H := hP
        have hD : va_D A (wM cI cZ cJ h F1 G V) := hD
        obtain ⟨pw_9, hpw_9, epw_9⟩ := hw_8
        subst epw_9
        refine va_iast hx hb hK hP hD hS 11 0 rfl rfl (vp_in_nI (n := mm) (N := 40) (by omega) (by decide)) dX5_orders_22 (fun H locs hP hD hS => ?_)
        obtain ⟨F_10, eF_10⟩ : ∃ z : Nat → Nat → Int32, z = va_up F1 11 (upd (F1 11) (nI mm).toNatClampNeg (nI pw_9)) := ⟨_, rfl⟩
        have hP : va_P (dC, dI) vwCl (wM cI cZ cJ h F_10 G V) H := by rw [eF_10]; exact hP
        have hD : va_D A (wM cI cZ cJ h F_10 G V) := by rw [eF_10]; exact hD
        have hN_11 : ∀ i, i < 40 → F_10 3 i = nI (So i) := by rw [eF_10]; exact hN_1
        have hN_12 : ∀ i, i < 24 → F_10 7 i = nI (Hh i) := by rw [eF_10]; exact hN_2
        have hN_13 : ∀ i, i < 24 → F_10 8 i = nI (Wd i) := by rw [eF_10]; exact hN_3
        obtain ⟨Pn, ePn⟩ : ∃ z : Nat → Nat, z = nup P mm pw_9 := ⟨_, rfl⟩
        have hPn : ∀ i, i < mm + 1 → F_10 11 i = nI (Pn i) := fun i hi => by
          rw [eF_10, ePn]
          show upd (F1 11) (nI mm).toNatClampNeg _ i = nI (if i = mm then _ else P i)
          rw [nI_clamp (by omega)]
          by_cases q : i = mm
          · rw [q, if_pos rfl]; exact pk_us
          · rw [if_neg q, pk_un q]; exact hPp i (by omega)
        have bPn : ∀ i, i < mm + 1 → Pn i ≤ 100 := fun i hi => by
          rw [ePn]
          show (if i = mm then _ else P i) ≤ 100
          by_cases q : i = mm
          · rw [if_pos q]; omega
          · rw [if_neg q]; exact bPp i (by omega)
        have hOn : ∀ i, i < mm → F_10 10 i = nI (ordn Pn mm i) := fun i hi => by
          have q : ordn Pn mm = ordn P mm := ordn_cong mm (fun k hk => by rw [ePn]; show (if k = mm then _ else P k) = P k; rw [if_neg (by omega)])
          rw [q, eF_10]; exact hO i hi
        refine lv_iload_n hx hb dX5_orders_23 rfl (lv_at hl 3 rfl) ?_
        refine lv_istore (lv' := [(4, .int (nI mm)), (0, .ref (h 0)), (1, .int (nI k1)), (2, .int (nI mo)), (3, .int (nI mm))]) hx hb dX5_orders_24 hl (by decide) rfl (fun ls hl => ?_)
        have loop26 : ∀ (fu : Nat) (t : Nat) (F2 : Nat → Nat → Int32), (t ≤ mm) → (posn Pn (ordn Pn mm) mm mm = posn Pn (ordn Pn mm) mm t) → (∀ i, i < t → F2 10 i = nI (ordn Pn mm i)) → (∀ i, t < i → i ≤ mm → F2 10 i = nI (ordn Pn mm (i - 1))) → (∀ j, j ∉ ([10] : List Nat) → F2 j = F_10 j) → (t) < fu → ∀ (H : Heap) (locs : List Loc) (ls : Array Slot), va_P (dC, dI) vwCl (wM cI cZ cJ h F2 G V) H → va_D A (wM cI cZ cJ h F2 G V) → va_S A s.heap H locs → lv_has ls 5 [(0, .ref (h 0)), (1, .int (nI k1)), (2, .int (nI mo)), (3, .int (nI mm)), (4, .int (nI t))] → W p l e rm_X5_orders s m args below meth c H locs 0 0 Q (F0 m 26 ls []) := by
          intro fu
          induction fu with
          | zero => intro t F2 ht hps hlo hhi hfr2 hn_; exact absurd hn_ (Nat.not_lt_zero _)
          | succ fu ih26 =>
            intro t F2 ht hps hlo hhi hfr2 hn_ H locs ls hP hD hS hl
            have hN_14 : ∀ i, i < mm + 1 → F2 11 i = nI (Pn i) := by rw [hfr2 11 (by decide)]; exact hPn
            refine lv_iload hx hb dX5_orders_26 (lv_at hl 4 rfl) ?_
            refine lv_if_le (tgt := 76) hx hb dX5_orders_28 (by decide) (fun c_15 => ?_) (fun c_15 => ?_)
            · have c_15 : t ≤ 0 := (nI_leI (a := t) (b := 0) (by omega) (by omega)).mp c_15
              refine lv_aload_n hx hb dX5_orders_76 rfl (lv_at hl 0 rfl) ?_
              refine va_get (D := (dC, dI)) (ci := 5) (v := .ref (h 10)) (C := RX5) (T := TX5) (N := 33) hx hb hts hin_X5 hown hK hP 0 rfl rfl 17 (by decide) hw3 (fun _ h9 => h9) rfl dX5_orders_77 ?_
              refine lv_iload hx hb dX5_orders_80 (lv_at hl 4 rfl) ?_
              refine lv_iload_n hx hb dX5_orders_82 rfl (lv_at hl 3 rfl) ?_
              refine va_iast hx hb hK hP hD hS 10 0 rfl rfl (vp_in_nI (n := t) (N := 40) (by omega) (by decide)) dX5_orders_83 (fun H locs hP hD hS => ?_)
              obtain ⟨F_16, eF_16⟩ : ∃ z : Nat → Nat → Int32, z = va_up F2 10 (upd (F2 10) (nI t).toNatClampNeg (nI mm)) := ⟨_, rfl⟩
              have hP : va_P (dC, dI) vwCl (wM cI cZ cJ h F_16 G V) H := by rw [eF_16]; exact hP
              have hD : va_D A (wM cI cZ cJ h F_16 G V) := by rw [eF_16]; exact hD
              have hN_17 : ∀ i, i < mm + 1 → F_16 11 i = nI (Pn i) := by rw [eF_16]; exact hN_14
              refine lv_iinc (v := nI (mm + 1)) (lv' := [(3, .int (nI (mm + 1))), (0, .ref (h 0)), (1, .int (nI k1)), (2, .int (nI mo)), (4, .int (nI t))]) hx hb dX5_orders_84 hl (k := 3) rfl (nI_1 _) (by decide) rfl (fun ls hl => ?_)
              refine lv_goto (tgt := 2) hx hb dX5_orders_87 (by decide) ?_
              have hb_19 : posn Pn (ordn Pn mm) mm mm = t := by
                rw [hps]
                by_cases h0 : t = 0
                · rw [h0]; rfl
                · exact posn_e (by omega) (by omega)
              have hb_18 : ∀ i, i < mm + 1 → F_16 10 i = nI (ordn Pn (mm + 1) i) := fun i hi => by
                rw [eF_16]
                show upd (F2 10) (nI t).toNatClampNeg (nI mm) i = nI (insn Pn (ordn Pn mm) mm i)
                rw [nI_clamp (by omega), insn, hb_19]
                by_cases q1 : i < t
                · rw [if_pos q1, pk_un (by omega)]; exact hlo i q1
                · rw [if_neg q1]
                  by_cases q2 : i = t
                  · rw [if_pos q2, q2]; exact pk_us
                  · rw [if_neg q2, pk_un q2]; exact hhi i (by omega) (by omega)
              have hb_20 : ∀ i, i < mm + 1 → F_16 11 i = nI (Pn i) := by rw [va_ne eF_16 (by decide), hfr2 11 (by decide)]; exact hPn
              exact ih2 (mm + 1) Pn F_16 (by omega) hb_20 bPn hb_18 (fun j hj => (va_ne eF_16 (fun h => hj (by rw [h]; decide))).trans ((hfr2 j (fun z => hj ((by decide : ∀ x ∈ ([10] : List Nat), x ∈ ([10, 11] : List Nat)) j z))).trans ((va_ne eF_10 (fun h => hj (by rw [h]; decide))).trans (hfr j hj)))) (by omega) H locs ls hP hD hS (lv_sub hl [1, 2, 3, 0] rfl)
            · have c_15 : ¬ t ≤ 0 := fun h => c_15 ((nI_leI (a := t) (b := 0) (by omega) (by omega)).mpr h)
              refine lv_aload_n hx hb dX5_orders_31 rfl (lv_at hl 0 rfl) ?_
              refine va_get (D := (dC, dI)) (ci := 5) (v := .ref (h 11)) (C := RX5) (T := TX5) (N := 33) hx hb hts hin_X5 hown hK hP 0 rfl rfl 18 (by decide) hw2 (fun _ h9 => h9) rfl dX5_orders_32 ?_
              refine lv_iload_n hx hb dX5_orders_35 rfl (lv_at hl 3 rfl) ?_
              refine va_iald hx hb hK hP 11 0 rfl rfl (vp_in_nI (n := mm) (N := 40) (by omega) (by decide)) dX5_orders_36 ?_
              have hb_21 := bPn mm (by omega)
              refine lv_topi (fun x_22 ex_22 => ?_)
              obtain rfl : x_22 = nI (Pn mm) := ex_22.trans ((congrArg (F2 11) (nI_clamp (n := mm) (by omega))).trans (hN_14 mm (by omega)))
              refine lv_aload_n hx hb dX5_orders_37 rfl (lv_at hl 0 rfl) ?_
              refine va_get (D := (dC, dI)) (ci := 5) (v := .ref (h 11)) (C := RX5) (T := TX5) (N := 33) hx hb hts hin_X5 hown hK hP 0 rfl rfl 18 (by decide) hw2 (fun _ h9 => h9) rfl dX5_orders_38 ?_
              refine lv_aload_n hx hb dX5_orders_41 rfl (lv_at hl 0 rfl) ?_
              refine va_get (D := (dC, dI)) (ci := 5) (v := .ref (h 10)) (C := RX5) (T := TX5) (N := 33) hx hb hts hin_X5 hown hK hP 0 rfl rfl 17 (by decide) hw3 (fun _ h9 => h9) rfl dX5_orders_42 ?_
              refine lv_iload hx hb dX5_orders_45 (lv_at hl 4 rfl) ?_
              refine lv_iconst (v := 1) hx hb dX5_orders_47 (by decide) ?_
              refine lv_isub hx hb dX5_orders_48 ?_
              refine lv_topi (fun x_23 ex_23 => ?_)
              obtain rfl : x_23 = nI (t - 1) := ex_23.trans (pk_sub (a := t) (b := 1) (by omega))
              refine va_iald hx hb hK hP 10 0 rfl rfl (vp_in_nI (n := t - 1) (N := 40) (by omega) (by decide)) dX5_orders_49 ?_
              have hb_24 := ordn_lt Pn mm (t - 1) (by omega)
              refine lv_topi (fun x_25 ex_25 => ?_)
              obtain rfl : x_25 = nI (ordn Pn mm (t - 1)) := ex_25.trans ((congrArg (F2 10) (nI_clamp (n := t - 1) (by omega))).trans (hlo (t - 1) (by omega)))
              refine va_iald hx hb hK hP 11 0 rfl rfl (vp_in_nI (n := ordn Pn mm (t - 1)) (N := 40) (by omega) (by decide)) dX5_orders_50 ?_
              have hb_26 := bPn (ordn Pn mm (t - 1)) (by omega)
              refine lv_topi (fun x_27 ex_27 => ?_)
              obtain rfl : x_27 = nI (Pn (ordn Pn mm (t - 1))) := ex_27.trans ((congrArg (F2 11) (nI_clamp (n := ordn Pn mm (t - 1)) (by omega))).trans (hN_14 (ordn Pn mm (t - 1)) (by omega)))
              refine lv_icmp_le (tgt := 76) hx hb dX5_orders_51 (by decide) (fun c_28 => ?_) (fun c_28 => ?_)
              · have c_28 : (Pn mm) ≤ (Pn (ordn Pn mm (t - 1))) := (nI_leI (a := Pn mm) (b := Pn (ordn Pn mm (t - 1))) (by omega) (by omega)).mp c_28
                refine lv_aload_n hx hb dX5_orders_76 rfl (lv_at hl 0 rfl) ?_
                refine va_get (D := (dC, dI)) (ci := 5) (v := .ref (h 10)) (C := RX5) (T := TX5) (N := 33) hx hb hts hin_X5 hown hK hP 0 rfl rfl 17 (by decide) hw3 (fun _ h9 => h9) rfl dX5_orders_77 ?_
                refine lv_iload hx hb dX5_orders_80 (lv_at hl 4 rfl) ?_
                refine lv_iload_n hx hb dX5_orders_82 rfl (lv_at hl 3 rfl) ?_
                refine va_iast hx hb hK hP hD hS 10 0 rfl rfl (vp_in_nI (n := t) (N := 40) (by omega) (by decide)) dX5_orders_83 (fun H locs hP hD hS => ?_)
                obtain ⟨F_29, eF_29⟩ : ∃ z : Nat → Nat → Int32, z = va_up F2 10 (upd (F2 10) (nI t).toNatClampNeg (nI mm)) := ⟨_, rfl⟩
                have hP : va_P (dC, dI) vwCl (wM cI cZ cJ h F_29 G V) H := by rw [eF_29]; exact hP
                have hD : va_D A (wM cI cZ cJ h F_29 G V) := by rw [eF_29]; exact hD
                have hN_30 : ∀ i, i < mm + 1 → F_29 11 i = nI (Pn i) := by rw [eF_29]; exact hN_14
                refine lv_iinc (v := nI (mm + 1)) (lv' := [(3, .int (nI (mm + 1))), (0, .ref (h 0)), (1, .int (nI k1)), (2, .int (nI mo)), (4, .int (nI t))]) hx hb dX5_orders_84 hl (k := 3) rfl (nI_1 _) (by decide) rfl (fun ls hl => ?_)
                refine lv_goto (tgt := 2) hx hb dX5_orders_87 (by decide) ?_
                have hb_32 : posn Pn (ordn Pn mm) mm mm = t := by
                  rw [hps]
                  by_cases h0 : t = 0
                  · rw [h0]; rfl
                  · exact posn_e (by omega) (by omega)
                have hb_31 : ∀ i, i < mm + 1 → F_29 10 i = nI (ordn Pn (mm + 1) i) := fun i hi => by
                  rw [eF_29]
                  show upd (F2 10) (nI t).toNatClampNeg (nI mm) i = nI (insn Pn (ordn Pn mm) mm i)
                  rw [nI_clamp (by omega), insn, hb_32]
                  by_cases q1 : i < t
                  · rw [if_pos q1, pk_un (by omega)]; exact hlo i q1
                  · rw [if_neg q1]
                    by_cases q2 : i = t
                    · rw [if_pos q2, q2]; exact pk_us
                    · rw [if_neg q2, pk_un q2]; exact hhi i (by omega) (by omega)
                have hb_33 : ∀ i, i < mm + 1 → F_29 11 i = nI (Pn i) := by rw [va_ne eF_29 (by decide), hfr2 11 (by decide)]; exact hPn
                exact ih2 (mm + 1) Pn F_29 (by omega) hb_33 bPn hb_31 (fun j hj => (va_ne eF_29 (fun h => hj (by rw [h]; decide))).trans ((hfr2 j (fun z => hj ((by decide : ∀ x ∈ ([10] : List Nat), x ∈ ([10, 11] : List Nat)) j z))).trans ((va_ne eF_10 (fun h => hj (by rw [h]; decide))).trans (hfr j hj)))) (by omega) H locs ls hP hD hS (lv_sub hl [1, 2, 3, 0] rfl)
              · have c_28 : ¬ (Pn mm) ≤ (Pn (ordn Pn mm (t - 1))) := fun h => c_28 ((nI_leI (a := Pn mm) (b := Pn (ordn Pn mm (t - 1))) (by omega) (by omega)).mpr h)
                refine lv_aload_n hx hb dX5_orders_54 rfl (lv_at hl 0 rfl) ?_
                refine va_get (D := (dC, dI)) (ci := 5) (v := .ref (h 10)) (C := RX5) (T := TX5) (N := 33) hx hb hts hin_X5 hown hK hP 0 rfl rfl 17 (by decide) hw3 (fun _ h9 => h9) rfl dX5_orders_55 ?_
                refine lv_iload hx hb dX5_orders_58 (lv_at hl 4 rfl) ?_
                refine lv_aload_n hx hb dX5_orders_60 rfl (lv_at hl 0 rfl) ?_
                refine va_get (D := (dC, dI)) (ci := 5) (v := .ref (h 10)) (C := RX5) (T := TX5) (N := 33) hx hb hts hin_X5 hown hK hP 0 rfl rfl 17 (by decide) hw3 (fun _ h9 => h9) rfl dX5_orders_61 ?_
                refine lv_iload hx hb dX5_orders_64 (lv_at hl 4 rfl) ?_
                refine lv_iconst (v := 1) hx hb dX5_orders_66 (by decide) ?_
                refine lv_isub hx hb dX5_orders_67 ?_
                refine lv_topi (fun x_34 ex_34 => ?_)
                obtain rfl : x_34 = nI (t - 1) := ex_34.trans (pk_sub (a := t) (b := 1) (by omega))
                refine va_iald hx hb hK hP 10 0 rfl rfl (vp_in_nI (n := t - 1) (N := 40) (by omega) (by decide)) dX5_orders_68 ?_
                have hb_35 := ordn_lt Pn mm (t - 1) (by omega)
                refine lv_topi (fun x_36 ex_36 => ?_)
                obtain rfl : x_36 = nI (ordn Pn mm (t - 1)) := ex_36.trans ((congrArg (F2 10) (nI_clamp (n := t - 1) (by omega))).trans (hlo (t - 1) (by omega)))
                refine va_iast hx hb hK hP hD hS 10 0 rfl rfl (vp_in_nI (n := t) (N := 40) (by omega) (by decide)) dX5_orders_69 (fun H locs hP hD hS => ?_)
                obtain ⟨F_37, eF_37⟩ : ∃ z : Nat → Nat → Int32, z = va_up F2 10 (upd (F2 10) (nI t).toNatClampNeg (nI (ordn Pn mm (t - 1)))) := ⟨_, rfl⟩
                have hP : va_P (dC, dI) vwCl (wM cI cZ cJ h F_37 G V) H := by rw [eF_37]; exact hP
                have hD : va_D A (wM cI cZ cJ h F_37 G V) := by rw [eF_37]; exact hD
                have hN_38 : ∀ i, i < mm + 1 → F_37 11 i = nI (Pn i) := by rw [eF_37]; exact hN_14
                refine lv_iinc (v := nI (t - 1)) (lv' := [(4, .int (nI (t - 1))), (0, .ref (h 0)), (1, .int (nI k1)), (2, .int (nI mo)), (3, .int (nI mm))]) hx hb dX5_orders_70 hl (k := 4) rfl (dec_nI (by omega)) (by decide) rfl (fun ls hl => ?_)
                refine lv_goto (tgt := 26) hx hb dX5_orders_73 (by decide) ?_
                have hb_39 : ∀ i, i < t - 1 → F_37 10 i = nI (ordn Pn mm i) := fun i hi => by
                  rw [eF_37]
                  show upd (F2 10) (nI t).toNatClampNeg _ i = _
                  rw [nI_clamp (by omega), pk_un (by omega)]; exact hlo i (by omega)
                have hb_40 : ∀ i, t - 1 < i → i ≤ mm → F_37 10 i = nI (ordn Pn mm (i - 1)) := fun i h1 h2 => by
                  rw [eF_37]
                  show upd (F2 10) (nI t).toNatClampNeg _ i = _
                  rw [nI_clamp (by omega)]
                  by_cases q : i = t
                  · rw [q]; exact pk_us
                  · rw [pk_un q]; exact hhi i (by omega) h2
                exact ih26 (t - 1) F_37 (by omega) (hps.trans (posn_s (by omega) (by omega))) hb_39 hb_40 (fun j hj => ((va_ne eF_37 (fun h => hj (by rw [h]; decide))).trans (hfr2 j hj))) (by omega) H locs ls hP hD hS (lv_sub hl [1, 2, 3, 4, 0] rfl)
        exact loop26 _ mm F_10 (by omega) rfl hOn (fun i h1 h2 => absurd h1 (by omega)) (fun _ _ => rfl) (Nat.lt_succ_self _) H locs ls hP hD hS (lv_sub hl [1, 2, 3, 4, 0] rfl)
  exact loop2 _ 0 (fun _ => 0) F (by omega) (fun i hi => absurd hi (Nat.not_lt_zero i)) (fun i hi => absurd hi (Nat.not_lt_zero i)) (fun i hi => absurd hi (Nat.not_lt_zero i)) (fun _ _ => rfl) (Nat.lt_succ_self _) H locs ls hP hD hS (lv_sub hl [1, 2, 3, 0] rfl)
