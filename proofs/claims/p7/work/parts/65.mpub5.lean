def rm_X5_wash : Room := { frames := 1, cells := 0, slots := 0, locals := 22 }
set_option maxHeartbeats 4000000 in
set_option maxRecDepth 100000 in
theorem c_X5_wash (l : Launch) (dC : Nat → ClassId) (dI : Nat → Nat → Nat) (cI cZ cJ : ClassId) (h : Nat → Nat) (F : Nat → Nat → Int32) (G : Nat → Int64) (V : Nat → Int32) (n : Nat) (hV2 : V 2 = nI n) (bV2 : n ≤ 40) (nw : Nat) (hV3 : V 3 = nI nw) (bV3 : nw ≤ 23) (un : Nat) (hV4 : V 4 = nI un) (bV4 : un ≤ 200) (d : Nat) (hV6 : V 6 = nI d) (bV6 : d ≤ 20) (wm : Nat) (hV7 : V 7 = nI wm) (bV7 : wm ≤ 1) (pf : Nat) (hV10 : V 10 = nI pf) (bV10 : pf ≤ 24) (sh : Nat) (hV11 : V 11 = nI sh) (bV11 : sh ≤ 12) (So : Nat → Nat) (hSo : ∀ i, i < 40 → F 3 i = nI (So i)) (bSo : ∀ i, i < 40 → So i ≤ 90) (Lm : Nat → Nat) (hLm : ∀ i, i < 4 → F 4 i = nI (Lm i)) (bLm : ∀ i, i < 4 → Lm i ≤ 10000) (Hh : Nat → Nat) (hHh : ∀ i, i < 24 → F 7 i = nI (Hh i)) (bHh : ∀ i, i < 24 → Hh i ≤ 9) (Wd : Nat → Nat) (hWd : ∀ i, i < 24 → F 8 i = nI (Wd i)) (bWd : ∀ i, i < 24 → Wd i ≤ 99) (Pr : Nat → Nat) (hPr : ∀ i, i < 24 → F 9 i = nI (Pr i)) (bPr : ∀ i, i < 24 → Pr i ≤ 999) (X : Nat → Nat) (hX : ∀ i, i < n → F 1 i = nI (X i)) (bX : ∀ i, i < n → X i ≤ 14) (Y : Nat → Nat) (hY : ∀ i, i < n → F 2 i = nI (Y i)) (bY : ∀ i, i < n → Y i ≤ 14) (p0 : Int32)  (ks am : Nat) (hV8 : V 8 = nI am - 1) (bam : am ≤ 41) (hks : am - 1 = ks) (SX SY Kc Kp : Nat → Int32) (er : Int32) (rb : Nat → Bool) (hGP : GP n X Y) (hSX : ∀ i, i < 24 → F 5 i = SX i) (hSY : ∀ i, i < 24 → F 6 i = SY i) (hKc : ∀ i, i < ks → F 13 i = Kc i) (hKp : ∀ i, i < 4 → F 15 i = Kp i) (hE : V 5 = er) (hRB : ∀ t, pf ≤ t → t < 24 → F 17 t = bI (rb t)) : CtI l (dC, dI) vwCl (tys3 cI cZ cJ) yX5_wash wsX5_wash rm_X5_wash [.ref (h 0), .int p0] (wM cI cZ cJ h F G V) (S := (Nat → Nat → Int32) × (Nat → Int64) × (Nat → Int32)) (fun r u => (r = (bif isW p0 1 40 then nI (wgo So n (min p0.toNatClampNeg n)) else (-1))) ∧ VM n d ks nw un wm pf (bif isW p0 1 40 then wsh So n (min p0.toNatClampNeg n) else So) Hh Wd Lm Pr X Y SX SY Kc Kp er rb u.1 u.2.2) (fun u => wM cI cZ cJ h u.1 u.2.1 u.2.2) 0 0 := by
  refine ct_I (cc := cX5_wash) (maxL := 6) (ty := .int) (own := RX5) (by decide) rfl rfl (Nat.le_of_ble_eq_true rfl) (lv := [(0, .ref (h 0)), (1, .int p0)]) rfl ?_
  intro p e s m args below meth c A Q ls fx hK hP hD hA hl hret
  obtain ⟨hx, hb, hml, hown, hts⟩ := id fx
  have hS : va_S A s.heap s.heap [] := va_S.rf
  have hw0 := hts (.fieldLink RX5 1 "MirrorTowerModel" "thrown" "I") (by decide +kernel)
  have hin_X5 : ∀ w ∈ u_ws RX5 TX5 33, w ∈ wsX5_wash := by decide +kernel
  have hw2 := hts (.fieldLink RX5 91 "MirrorTowerModel" "mirrors" "I") (by decide +kernel)
  have hw3 := hts (.fieldLink RX5 26 "MirrorTowerModel" "soil" "[I") (by decide +kernel)
  obtain ⟨H, hH⟩ : ∃ H, H = s.heap := ⟨_, rfl⟩
  rw [← hH] at hP ⊢
  have hS : va_S A s.heap H [] := by rw [hH]; exact hS
  generalize ([] : List Loc) = locs at hS ⊢
  refine lv_aload_n hx hb dX5_wash_0 rfl (lv_at hl 0 rfl) ?_
  refine lv_iconst (v := 0) hx hb dX5_wash_1 (by decide) ?_
  refine va_put (D := (dC, dI)) (ci := 5) (v := .int 0) (ty := .int) (C := RX5) (T := TX5) (N := 33) hx hb hts hin_X5 tyX5 tyX5_ok nmX5 hown hK hP hD hS 0 rfl rfl 0 (by decide) hw0 (fun _ h9 => h9) rfl (by decide +kernel) rfl rfl (Nat.le_of_ble_eq_true rfl) dX5_wash_2 (fun H locs hP hD hS => ?_)
  have hP : va_P (dC, dI) vwCl (wM cI cZ cJ h F G (va_up V 0 0)) H := hP
  have hD : va_D A (wM cI cZ cJ h F G (va_up V 0 0)) := hD
  refine lv_iload_n hx hb dX5_wash_5 rfl (lv_at hl 1 rfl) ?_
  refine lv_iconst (v := 1) hx hb dX5_wash_6 (by decide) ?_
  refine lv_bipush (v := 40) hx hb dX5_wash_7 (by decide) ?_
  refine cw_Si (As := [.int p0, .int 1, .int 40]) (rest := []) (c_X5_in l dC dI cI cZ cJ (wM cI cZ cJ h F G (va_up V 0 0)) p0 1 40) fx (va_cwS 3 hts gX5_wash_X5_in rfl rfl rfl (by decide +kernel) ⟨Nat.le_of_ble_eq_true rfl, Nat.le_of_ble_eq_true rfl⟩) hK hP hD hS hA rfl hl.1 rfl (Nat.le_of_ble_eq_true rfl) dX5_wash_9 ⟨Nat.le_of_ble_eq_true rfl, Nat.le_of_ble_eq_true rfl⟩ (fun r_1 u_2 H locs hw_3 hP hD hS => ?_)
  have hP : va_P (dC, dI) vwCl (wM cI cZ cJ h F G (va_up V 0 0)) H := hP
  have hD : va_D A (wM cI cZ cJ h F G (va_up V 0 0)) := hD
  have hw_3 : r_1 = bI (isW p0 1 40) := hw_3
  refine lv_if_ne (tgt := 21) hx hb dX5_wash_12 (by decide) (fun c_4 => ?_) (fun c_4 => ?_)
  · have c_4 : isW p0 1 40 = true := bI_t hw_3 c_4
    obtain ⟨k0, hk0, rfl⟩ := isW_nat1 (M := 40) (n := 40) (by decide) c_4
    refine lv_iconst (v := 0) hx hb dX5_wash_21 (by decide) ?_
    refine lv_istore_n (lv' := [(2, .int 0), (0, .ref (h 0)), (1, .int (nI k0))]) hx hb dX5_wash_22 rfl hl (by decide) rfl (fun ls hl => ?_)
    refine lv_iconst (v := 0) hx hb dX5_wash_23 (by decide) ?_
    refine lv_istore_n (lv' := [(3, .int 0), (2, .int 0), (0, .ref (h 0)), (1, .int (nI k0))]) hx hb dX5_wash_24 rfl hl (by decide) rfl (fun ls hl => ?_)
    have loop25 : ∀ (fu : Nat) (k : Nat) (F1 : Nat → Nat → Int32), (k ≤ k0) → (n = 0 → k = 0) → (∀ i, i < 40 → F1 3 i = nI (wsh So n k i)) → (∀ i, i < 40 → wsh So n k i ≤ 90) → (∀ j, j ∉ ([3] : List Nat) → F1 j = F j) → (k0 - k) < fu → ∀ (H : Heap) (locs : List Loc) (ls : Array Slot), va_P (dC, dI) vwCl (wM cI cZ cJ h F1 G (va_up V 0 0)) H → va_D A (wM cI cZ cJ h F1 G (va_up V 0 0)) → va_S A s.heap H locs → lv_has ls 6 [(0, .ref (h 0)), (1, .int (nI k0)), (2, .int (nI (wgo So n k))), (3, .int (nI k))] → W p l e rm_X5_wash s m args below meth c H locs 0 0 Q (F0 m 25 ls []) := by
      intro fu
      induction fu with
      | zero => intro k F1 hk hn0 hSv bSv hfr hn_; exact absurd hn_ (Nat.not_lt_zero _)
      | succ fu ih25 =>
        intro k F1 hk hn0 hSv bSv hfr hn_ H locs ls hP hD hS hl
        have hN_5 : ∀ i, i < 4 → F1 4 i = nI (Lm i) := by rw [hfr 4 (by decide)]; exact hLm
        have hN_6 : ∀ i, i < 24 → F1 7 i = nI (Hh i) := by rw [hfr 7 (by decide)]; exact hHh
        have hN_7 : ∀ i, i < 24 → F1 8 i = nI (Wd i) := by rw [hfr 8 (by decide)]; exact hWd
        have hN_8 : ∀ i, i < 24 → F1 9 i = nI (Pr i) := by rw [hfr 9 (by decide)]; exact hPr
        have hN_9 : ∀ i, i < n → F1 1 i = nI (X i) := by rw [hfr 1 (by decide)]; exact hX
        have hN_10 : ∀ i, i < n → F1 2 i = nI (Y i) := by rw [hfr 2 (by decide)]; exact hY
        refine lv_iload_n hx hb dX5_wash_25 rfl (lv_at hl 3 rfl) ?_
        refine lv_iload_n hx hb dX5_wash_26 rfl (lv_at hl 1 rfl) ?_
        refine lv_icmp_ge (tgt := 124) hx hb dX5_wash_27 (by decide) (fun c_11 => ?_) (fun c_11 => ?_)
        · have c_11 : k0 ≤ k := (nI_leI (a := k0) (b := k) (by omega) (by omega)).mp c_11
          refine lv_aload_n hx hb dX5_wash_124 rfl (lv_at hl 0 rfl) ?_
          refine lv_iload_n hx hb dX5_wash_125 rfl (lv_at hl 2 rfl) ?_
          refine cw_Vi (As := [.int (nI (wgo So n k))]) (rest := []) (c_X5_done l dC dI cI cZ cJ h F1 G (va_up V 0 0) (nI (wgo So n k))) fx (cwV 1 hts gX5_wash_X5_done rfl rfl rfl (by decide +kernel) ⟨Nat.le_of_ble_eq_true rfl, Nat.le_of_ble_eq_true rfl⟩) hK hP hD hS hA 0 rfl rfl rfl rfl hl.1 rfl (Nat.le_of_ble_eq_true rfl) dX5_wash_126 ⟨Nat.le_of_ble_eq_true rfl, Nat.le_of_ble_eq_true rfl⟩ (fun r_12 u_13 H locs hw_14 hP hD hS => ?_)
          have hP : va_P (dC, dI) vwCl (wM cI cZ cJ h F1 G (va_up (va_up V 0 0) 1 0)) H := hP
          have hD : va_D A (wM cI cZ cJ h F1 G (va_up (va_up V 0 0) 1 0)) := hD
          obtain rfl : r_12 = nI (wgo So n k) := hw_14
          exact hret (nI (wgo So n k)) (F1, G, va_up (va_up V 0 0) 1 0) H locs 129 ls rfl dX5_wash_129 (by
                        have hk_ : k = k0 := by omega
                        have hw_ := wash_all (S := So) (n := n) (k := k0) (fun q => by have := hn0 q; omega)
                        rw [← hk_] at hw_
                        have hc_ : isW (nI k0) 1 40 = true := by simp [c_4]
                        refine ⟨?_, ?_⟩
                        · (try simp only [hc_, cond_true, cond_false, nI_clamp (show k0 < 2 ^ 31 by omega)])
                          first | done | exact congrArg nI (by rw [← hk_]; exact hw_.2)
                        · (try simp only [hc_, cond_true, cond_false, nI_clamp (show k0 < 2 ^ 31 by omega)])
                          exact ⟨⟨hV2, by omega⟩, ⟨hV3, by omega⟩, ⟨hV4, by omega⟩, ⟨hV6, by omega⟩, ⟨hV7, by omega⟩, ⟨hV10, by omega⟩, ⟨sh, hV11, by omega⟩, ⟨by rw [← hk_, ← hw_.1]; exact hSv, by rw [← hk_, ← hw_.1]; exact bSv⟩, ⟨hN_5, bLm⟩, ⟨hN_6, bHh⟩, ⟨hN_7, bWd⟩, ⟨hN_8, bPr⟩, ⟨hN_9, bX⟩, ⟨hN_10, bY⟩, ⟨am, hV8, by omega, by omega⟩, hGP, (fun i hi => (congrFun (hfr 5 (by decide)) i).trans (hSX i hi)), (fun i hi => (congrFun (hfr 6 (by decide)) i).trans (hSY i hi)), (fun i hi => (congrFun (hfr 13 (by decide)) i).trans (hKc i hi)), (fun i hi => (congrFun (hfr 15 (by decide)) i).trans (hKp i hi)), ((show (va_up (va_up V 0 0) 1 0) 5 = V 5 from rfl)).trans hE, (fun t h1 h2 => (congrFun (hfr 17 (by decide)) t).trans (hRB t h1 h2))⟩) (hP) (hD) hS
        · have c_11 : ¬ k0 ≤ k := fun h => c_11 ((nI_leI (a := k0) (b := k) (by omega) (by omega)).mpr h)
          refine lv_iconst (v := (-1)) hx hb dX5_wash_30 (by decide) ?_
          refine lv_istore (lv' := [(4, .int (-1)), (0, .ref (h 0)), (1, .int (nI k0)), (2, .int (nI (wgo So n k))), (3, .int (nI k))]) hx hb dX5_wash_31 hl (by decide) rfl (fun ls hl => ?_)
          refine lv_iconst (v := 0) hx hb dX5_wash_33 (by decide) ?_
          have hl : lv_has ls 6 [(4, .int (nI 0 - 1)), (0, .ref (h 0)), (1, .int (nI k0)), (2, .int (nI (wgo So n k))), (3, .int (nI k))] := by rw [show nI 0 - 1 = (-1 : Int32) from by decide]; exact hl
          refine lv_istore (lv' := [(5, .int 0), (4, .int (nI 0 - 1)), (0, .ref (h 0)), (1, .int (nI k0)), (2, .int (nI (wgo So n k))), (3, .int (nI k))]) hx hb dX5_wash_34 hl (by decide) rfl (fun ls hl => ?_)
          have loop36 : ∀ (fu : Nat) (bb : Nat) (m2 : Nat), (bb ≤ n) → (m2 ≤ n) → (bb = bst (wsh So n k) m2) → (n - m2) < fu → ∀ (H : Heap) (locs : List Loc) (ls : Array Slot), va_P (dC, dI) vwCl (wM cI cZ cJ h F1 G (va_up V 0 0)) H → va_D A (wM cI cZ cJ h F1 G (va_up V 0 0)) → va_S A s.heap H locs → lv_has ls 6 [(0, .ref (h 0)), (1, .int (nI k0)), (2, .int (nI (wgo So n k))), (3, .int (nI k)), (4, .int (nI bb - 1)), (5, .int (nI m2))] → W p l e rm_X5_wash s m args below meth c H locs 0 0 Q (F0 m 36 ls []) := by
            intro fu
            induction fu with
            | zero => intro bb m2 hbn hm2 hbb hn_; exact absurd hn_ (Nat.not_lt_zero _)
            | succ fu ih36 =>
              intro bb m2 hbn hm2 hbb hn_ H locs ls hP hD hS hl
              refine lv_iload hx hb dX5_wash_36 (lv_at hl 5 rfl) ?_
              refine lv_aload_n hx hb dX5_wash_38 rfl (lv_at hl 0 rfl) ?_
              refine va_get (D := (dC, dI)) (ci := 5) (v := .int (V 2)) (C := RX5) (T := TX5) (N := 33) hx hb hts hin_X5 hown hK hP 0 rfl rfl 2 (by decide) hw2 (fun _ h9 => h9) rfl dX5_wash_39 ?_
              refine lv_topi (fun x_15 ex_15 => ?_)
              obtain rfl : x_15 = nI n := ex_15.trans (hV2)
              refine lv_icmp_ge (tgt := 88) hx hb dX5_wash_42 (by decide) (fun c_16 => ?_) (fun c_16 => ?_)
              · have c_16 : n ≤ m2 := (nI_leI (a := n) (b := m2) (by omega) (by omega)).mp c_16
                refine lv_iload hx hb dX5_wash_88 (lv_at hl 4 rfl) ?_
                refine lv_iconst (v := (-1)) hx hb dX5_wash_90 (by decide) ?_
                refine lv_icmp_ne (tgt := 100) hx hb dX5_wash_91 (by decide) (fun c_17 => ?_) (fun c_17 => ?_)
                · have c_17 : eqI (nI bb - 1) (-1) = false := decide_eq_false c_17
                  obtain ⟨b9, rfl⟩ : ∃ z, bb = z + 1 := ⟨bb - 1, by
                    have : bb ≠ 0 := fun q => by rw [q] at c_17; exact absurd c_17 (by decide)
                    omega⟩
                  rw [nI_pred] at hl
                  refine lv_iload_n hx hb dX5_wash_100 rfl (lv_at hl 2 rfl) ?_
                  refine lv_aload_n hx hb dX5_wash_101 rfl (lv_at hl 0 rfl) ?_
                  refine va_get (D := (dC, dI)) (ci := 5) (v := .ref (h 3)) (C := RX5) (T := TX5) (N := 33) hx hb hts hin_X5 hown hK hP 0 rfl rfl 10 (by decide) hw3 (fun _ h9 => h9) rfl dX5_wash_102 ?_
                  refine lv_iload hx hb dX5_wash_105 (lv_at hl 4 rfl) ?_
                  refine va_iald hx hb hK hP 3 0 rfl rfl (vp_in_nI (n := b9) (N := 40) (by omega) (by decide)) dX5_wash_107 ?_
                  have hb_18 := bSv b9 (by omega)
                  try dsimp only at hb_18
                  refine lv_topi (fun x_19 ex_19 => ?_)
                  obtain rfl : x_19 = nI ((wsh So n k) b9) := ex_19.trans ((congrArg (F1 3) (nI_clamp (n := b9) (by omega))).trans (hSv b9 (by omega)))
                  refine lv_iadd hx hb dX5_wash_108 ?_
                  refine lv_topi (fun x_20 ex_20 => ?_)
                  obtain rfl : x_20 = nI ((wgo So n k) + ((wsh So n k) b9)) := ex_20.trans (nI_add (wgo So n k) ((wsh So n k) b9))
                  refine lv_istore_n (lv' := [(2, .int (nI ((wgo So n k) + ((wsh So n k) b9)))), (0, .ref (h 0)), (1, .int (nI k0)), (3, .int (nI k)), (4, .int (nI b9)), (5, .int (nI m2))]) hx hb dX5_wash_109 rfl hl (by decide) rfl (fun ls hl => ?_)
                  refine lv_aload_n hx hb dX5_wash_110 rfl (lv_at hl 1 rfl) ?_
                  refine va_get (D := (dC, dI)) (ci := 5) (v := .ref (h 3)) (C := RX5) (T := TX5) (N := 33) hx hb hts hin_X5 hown hK hP 0 rfl rfl 10 (by decide) hw3 (fun _ h9 => h9) rfl dX5_wash_111 ?_
                  refine lv_iload hx hb dX5_wash_114 (lv_at hl 4 rfl) ?_
                  refine lv_iconst (v := 0) hx hb dX5_wash_116 (by decide) ?_
                  refine va_iast hx hb hK hP hD hS 3 0 rfl rfl (vp_in_nI (n := b9) (N := 40) (by omega) (by decide)) dX5_wash_117 (fun H locs hP hD hS => ?_)
                  obtain ⟨F_21, eF_21⟩ : ∃ z : Nat → Nat → Int32, z = va_up F1 3 (upd (F1 3) (nI b9).toNatClampNeg 0) := ⟨_, rfl⟩
                  have hP : va_P (dC, dI) vwCl (wM cI cZ cJ h F_21 G (va_up V 0 0)) H := by rw [eF_21]; exact hP
                  have hD : va_D A (wM cI cZ cJ h F_21 G (va_up V 0 0)) := by rw [eF_21]; exact hD
                  have hN_22 : ∀ i, i < 4 → F_21 4 i = nI (Lm i) := by rw [eF_21]; exact hN_5
                  have hN_23 : ∀ i, i < 24 → F_21 7 i = nI (Hh i) := by rw [eF_21]; exact hN_6
                  have hN_24 : ∀ i, i < 24 → F_21 8 i = nI (Wd i) := by rw [eF_21]; exact hN_7
                  have hN_25 : ∀ i, i < 24 → F_21 9 i = nI (Pr i) := by rw [eF_21]; exact hN_8
                  have hN_26 : ∀ i, i < n → F_21 1 i = nI (X i) := by rw [eF_21]; exact hN_9
                  have hN_27 : ∀ i, i < n → F_21 2 i = nI (Y i) := by rw [eF_21]; exact hN_10
                  obtain ⟨S_28, eS_28⟩ : ∃ z : Nat → Nat, z = nup (wsh So n k) b9 0 := ⟨_, rfl⟩
                  have hN_29 : ∀ i, i < 40 → F_21 3 i = nI (S_28 i) := by rw [eF_21, eS_28]; show ∀ i, i < 40 → upd (F1 3) (nI b9).toNatClampNeg 0 i = nI _; exact nf_put hSv (nI_clamp (n := b9) (by omega))
                  have bN_30 : ∀ i, i < 40 → S_28 i ≤ 90 := by rw [eS_28]; exact nb_put bSv (by omega)
                  have hE_31 : F_21 3 b9 = 0 := by rw [eF_21]; show upd _ (nI b9).toNatClampNeg _ _ = _; rw [nI_clamp (by omega)]; exact pk_us
                  refine lv_iinc (v := nI (k + 1)) (lv' := [(3, .int (nI (k + 1))), (2, .int (nI ((wgo So n k) + ((wsh So n k) b9)))), (0, .ref (h 0)), (1, .int (nI k0)), (4, .int (nI b9)), (5, .int (nI m2))]) hx hb dX5_wash_118 hl (k := 3) rfl (nI_1 _) (by decide) rfl (fun ls hl => ?_)
                  refine lv_goto (tgt := 25) hx hb dX5_wash_121 (by decide) ?_
                  have hb9_ : b9 = best4 (wsh So n k) (n - 1) := bst_at (by rw [hbb, show m2 = n by omega])
                  have hS_ : S_28 = wsh So n (k + 1) := by rw [eS_28, hb9_]; rfl
                  rw [hS_] at hN_29 bN_30
                  have hg_ : wgo So n (k + 1) = wgo So n k + wsh So n k b9 := by rw [hb9_]; rfl
                  have hl : lv_has ls 6 [(3, .int (nI (k + 1))), (2, .int (nI (wgo So n (k + 1)))), (0, .ref (h 0)), (1, .int (nI k0)), (4, .int (nI b9)), (5, .int (nI m2))] := by rw [hg_]; exact hl
                  exact ih25 (k + 1) F_21 (by omega) (fun q => by omega) hN_29 bN_30 (fun j hj => ((va_ne eF_21 (fun h => hj (by rw [h]; decide))).trans (hfr j hj))) (by omega) H locs ls hP hD hS (lv_sub hl [2, 3, 1, 0] rfl)
                · have c_17 : eqI (nI bb - 1) (-1) = true := decide_eq_true c_17
                  refine lv_aload_n hx hb dX5_wash_94 rfl (lv_at hl 0 rfl) ?_
                  refine lv_iload_n hx hb dX5_wash_95 rfl (lv_at hl 2 rfl) ?_
                  refine cw_Vi (As := [.int (nI (wgo So n k))]) (rest := []) (c_X5_done l dC dI cI cZ cJ h F1 G (va_up V 0 0) (nI (wgo So n k))) fx (cwV 1 hts gX5_wash_X5_done rfl rfl rfl (by decide +kernel) ⟨Nat.le_of_ble_eq_true rfl, Nat.le_of_ble_eq_true rfl⟩) hK hP hD hS hA 0 rfl rfl rfl rfl hl.1 rfl (Nat.le_of_ble_eq_true rfl) dX5_wash_96 ⟨Nat.le_of_ble_eq_true rfl, Nat.le_of_ble_eq_true rfl⟩ (fun r_32 u_33 H locs hw_34 hP hD hS => ?_)
                  have hP : va_P (dC, dI) vwCl (wM cI cZ cJ h F1 G (va_up (va_up V 0 0) 1 0)) H := hP
                  have hD : va_D A (wM cI cZ cJ h F1 G (va_up (va_up V 0 0) 1 0)) := hD
                  obtain rfl : r_32 = nI (wgo So n k) := hw_34
                  exact hret (nI (wgo So n k)) (F1, G, va_up (va_up V 0 0) 1 0) H locs 99 ls rfl dX5_wash_99 (by
                                have hz_ : bb = 0 := bb_z (by omega) c_17
                                have hw_ := wash_end (S := So) (n := n) (k := k) (k0 := k0) hn0 (by omega) (by have q := hbb; rw [show m2 = n by omega] at q; rw [← q]; exact hz_)
                                have hc_ : isW (nI k0) 1 40 = true := by simp [c_4, c_17]
                                refine ⟨?_, ?_⟩
                                · (try simp only [hc_, cond_true, cond_false, nI_clamp (show k0 < 2 ^ 31 by omega)])
                                  first | done | exact congrArg nI (hw_.2)
                                · (try simp only [hc_, cond_true, cond_false, nI_clamp (show k0 < 2 ^ 31 by omega)])
                                  exact ⟨⟨hV2, by omega⟩, ⟨hV3, by omega⟩, ⟨hV4, by omega⟩, ⟨hV6, by omega⟩, ⟨hV7, by omega⟩, ⟨hV10, by omega⟩, ⟨sh, hV11, by omega⟩, ⟨by rw [← hw_.1]; exact hSv, by rw [← hw_.1]; exact bSv⟩, ⟨hN_5, bLm⟩, ⟨hN_6, bHh⟩, ⟨hN_7, bWd⟩, ⟨hN_8, bPr⟩, ⟨hN_9, bX⟩, ⟨hN_10, bY⟩, ⟨am, hV8, by omega, by omega⟩, hGP, (fun i hi => (congrFun (hfr 5 (by decide)) i).trans (hSX i hi)), (fun i hi => (congrFun (hfr 6 (by decide)) i).trans (hSY i hi)), (fun i hi => (congrFun (hfr 13 (by decide)) i).trans (hKc i hi)), (fun i hi => (congrFun (hfr 15 (by decide)) i).trans (hKp i hi)), ((show (va_up (va_up V 0 0) 1 0) 5 = V 5 from rfl)).trans hE, (fun t h1 h2 => (congrFun (hfr 17 (by decide)) t).trans (hRB t h1 h2))⟩) (hP) (hD) hS
              · have c_16 : ¬ n ≤ m2 := fun h => c_16 ((nI_leI (a := n) (b := m2) (by omega) (by omega)).mpr h)
                refine lv_aload_n hx hb dX5_wash_45 rfl (lv_at hl 0 rfl) ?_
                refine va_get (D := (dC, dI)) (ci := 5) (v := .ref (h 3)) (C := RX5) (T := TX5) (N := 33) hx hb hts hin_X5 hown hK hP 0 rfl rfl 10 (by decide) hw3 (fun _ h9 => h9) rfl dX5_wash_46 ?_
                refine lv_iload hx hb dX5_wash_49 (lv_at hl 5 rfl) ?_
                refine va_iald hx hb hK hP 3 0 rfl rfl (vp_in_nI (n := m2) (N := 40) (by omega) (by decide)) dX5_wash_51 ?_
                have hb_35 := bSv m2 (by omega)
                try dsimp only at hb_35
                refine lv_topi (fun x_36 ex_36 => ?_)
                obtain rfl : x_36 = nI ((wsh So n k) m2) := ex_36.trans ((congrArg (F1 3) (nI_clamp (n := m2) (by omega))).trans (hSv m2 (by omega)))
                refine lv_if_le (tgt := 82) hx hb dX5_wash_52 (by decide) (fun c_37 => ?_) (fun c_37 => ?_)
                · have c_37 : ((wsh So n k) m2) ≤ 0 := (nI_leI (a := (wsh So n k) m2) (b := 0) (by omega) (by omega)).mp c_37
                  refine lv_iinc (v := nI (m2 + 1)) (lv' := [(5, .int (nI (m2 + 1))), (0, .ref (h 0)), (1, .int (nI k0)), (2, .int (nI (wgo So n k))), (3, .int (nI k)), (4, .int (nI bb - 1))]) hx hb dX5_wash_82 hl (k := 5) rfl (nI_1 _) (by decide) rfl (fun ls hl => ?_)
                  refine lv_goto (tgt := 36) hx hb dX5_wash_85 (by decide) ?_
                  have hb2_ : bb = bst (wsh So n k) (m2 + 1) := by
                    rw [bst, ← hbb]
                    exact (if_neg (by omega)).symm
                  exact ih36 bb (m2 + 1) (by omega) (by omega) hb2_ (by omega) H locs ls hP hD hS (lv_sub hl [1, 2, 3, 4, 5, 0] rfl)
                · have c_37 : ¬ ((wsh So n k) m2) ≤ 0 := fun h => c_37 ((nI_leI (a := (wsh So n k) m2) (b := 0) (by omega) (by omega)).mpr h)
                  refine lv_iload hx hb dX5_wash_55 (lv_at hl 4 rfl) ?_
                  refine lv_iconst (v := (-1)) hx hb dX5_wash_57 (by decide) ?_
                  refine lv_icmp_eq (tgt := 78) hx hb dX5_wash_58 (by decide) (fun c_38 => ?_) (fun c_38 => ?_)
                  · have c_38 : eqI (nI bb - 1) (-1) = true := decide_eq_true c_38
                    refine lv_iload hx hb dX5_wash_78 (lv_at hl 5 rfl) ?_
                    refine lv_istore (lv' := [(4, .int (nI m2)), (0, .ref (h 0)), (1, .int (nI k0)), (2, .int (nI (wgo So n k))), (3, .int (nI k)), (5, .int (nI m2))]) hx hb dX5_wash_80 hl (by decide) rfl (fun ls hl => ?_)
                    refine lv_iinc (v := nI (m2 + 1)) (lv' := [(5, .int (nI (m2 + 1))), (4, .int (nI m2)), (0, .ref (h 0)), (1, .int (nI k0)), (2, .int (nI (wgo So n k))), (3, .int (nI k))]) hx hb dX5_wash_82 hl (k := 5) rfl (nI_1 _) (by decide) rfl (fun ls hl => ?_)
                    refine lv_goto (tgt := 36) hx hb dX5_wash_85 (by decide) ?_
                    have hl : lv_has ls 6 [(5, .int (nI (m2 + 1))), (4, .int (nI (m2 + 1) - 1)), (0, .ref (h 0)), (1, .int (nI k0)), (2, .int (nI (wgo So n k))), (3, .int (nI k))] := by rw [nI_pred]; exact hl
                    have hb2_ : m2 + 1 = bst (wsh So n k) (m2 + 1) := by
                      have hz_ : bb = 0 := bb_z (by omega) c_38
                      rw [bst, ← hbb]
                      exact (if_pos (by omega)).symm
                    exact ih36 (m2 + 1) (m2 + 1) (by omega) (by omega) hb2_ (by omega) H locs ls hP hD hS (lv_sub hl [2, 3, 4, 5, 1, 0] rfl)
                  · have c_38 : eqI (nI bb - 1) (-1) = false := decide_eq_false c_38
                    obtain ⟨b9, rfl⟩ : ∃ z, bb = z + 1 := ⟨bb - 1, by
                      have : bb ≠ 0 := fun q => by rw [q] at c_38; exact absurd c_38 (by decide)
                      omega⟩
                    rw [nI_pred] at hl
                    refine lv_aload_n hx hb dX5_wash_61 rfl (lv_at hl 0 rfl) ?_
                    refine va_get (D := (dC, dI)) (ci := 5) (v := .ref (h 3)) (C := RX5) (T := TX5) (N := 33) hx hb hts hin_X5 hown hK hP 0 rfl rfl 10 (by decide) hw3 (fun _ h9 => h9) rfl dX5_wash_62 ?_
                    refine lv_iload hx hb dX5_wash_65 (lv_at hl 5 rfl) ?_
                    refine va_iald hx hb hK hP 3 0 rfl rfl (vp_in_nI (n := m2) (N := 40) (by omega) (by decide)) dX5_wash_67 ?_
                    have hb_39 := bSv m2 (by omega)
                    try dsimp only at hb_39
                    refine lv_topi (fun x_40 ex_40 => ?_)
                    obtain rfl : x_40 = nI ((wsh So n k) m2) := ex_40.trans ((congrArg (F1 3) (nI_clamp (n := m2) (by omega))).trans (hSv m2 (by omega)))
                    refine lv_aload_n hx hb dX5_wash_68 rfl (lv_at hl 0 rfl) ?_
                    refine va_get (D := (dC, dI)) (ci := 5) (v := .ref (h 3)) (C := RX5) (T := TX5) (N := 33) hx hb hts hin_X5 hown hK hP 0 rfl rfl 10 (by decide) hw3 (fun _ h9 => h9) rfl dX5_wash_69 ?_
                    refine lv_iload hx hb dX5_wash_72 (lv_at hl 4 rfl) ?_
                    refine va_iald hx hb hK hP 3 0 rfl rfl (vp_in_nI (n := b9) (N := 40) (by omega) (by decide)) dX5_wash_74 ?_
                    have hb_41 := bSv b9 (by omega)
                    try dsimp only at hb_41
                    refine lv_topi (fun x_42 ex_42 => ?_)
                    obtain rfl : x_42 = nI ((wsh So n k) b9) := ex_42.trans ((congrArg (F1 3) (nI_clamp (n := b9) (by omega))).trans (hSv b9 (by omega)))
                    refine lv_icmp_le (tgt := 82) hx hb dX5_wash_75 (by decide) (fun c_43 => ?_) (fun c_43 => ?_)
                    · have c_43 : ((wsh So n k) m2) ≤ ((wsh So n k) b9) := (nI_leI (a := (wsh So n k) m2) (b := (wsh So n k) b9) (by omega) (by omega)).mp c_43
                      refine lv_iinc (v := nI (m2 + 1)) (lv' := [(5, .int (nI (m2 + 1))), (0, .ref (h 0)), (1, .int (nI k0)), (2, .int (nI (wgo So n k))), (3, .int (nI k)), (4, .int (nI b9))]) hx hb dX5_wash_82 hl (k := 5) rfl (nI_1 _) (by decide) rfl (fun ls hl => ?_)
                      refine lv_goto (tgt := 36) hx hb dX5_wash_85 (by decide) ?_
                      have hl : lv_has ls 6 [(5, .int (nI (m2 + 1))), (0, .ref (h 0)), (1, .int (nI k0)), (2, .int (nI (wgo So n k))), (3, .int (nI k)), (4, .int (nI (b9 + 1) - 1))] := by rw [nI_pred]; exact hl
                      have hb2_ : b9 + 1 = bst (wsh So n k) (m2 + 1) := by
                        rw [bst, ← hbb]
                        rw [Nat.add_sub_cancel]
                        exact (if_neg (by omega)).symm
                      exact ih36 (b9 + 1) (m2 + 1) (by omega) (by omega) hb2_ (by omega) H locs ls hP hD hS (lv_sub hl [1, 2, 3, 4, 5, 0] rfl)
                    · have c_43 : ¬ ((wsh So n k) m2) ≤ ((wsh So n k) b9) := fun h => c_43 ((nI_leI (a := (wsh So n k) m2) (b := (wsh So n k) b9) (by omega) (by omega)).mpr h)
                      refine lv_iload hx hb dX5_wash_78 (lv_at hl 5 rfl) ?_
                      refine lv_istore (lv' := [(4, .int (nI m2)), (0, .ref (h 0)), (1, .int (nI k0)), (2, .int (nI (wgo So n k))), (3, .int (nI k)), (5, .int (nI m2))]) hx hb dX5_wash_80 hl (by decide) rfl (fun ls hl => ?_)
                      refine lv_iinc (v := nI (m2 + 1)) (lv' := [(5, .int (nI (m2 + 1))), (4, .int (nI m2)), (0, .ref (h 0)), (1, .int (nI k0)), (2, .int (nI (wgo So n k))), (3, .int (nI k))]) hx hb dX5_wash_82 hl (k := 5) rfl (nI_1 _) (by decide) rfl (fun ls hl => ?_)
                      refine lv_goto (tgt := 36) hx hb dX5_wash_85 (by decide) ?_
                      have hl : lv_has ls 6 [(5, .int (nI (m2 + 1))), (4, .int (nI (m2 + 1) - 1)), (0, .ref (h 0)), (1, .int (nI k0)), (2, .int (nI (wgo So n k))), (3, .int (nI k))] := by rw [nI_pred]; exact hl
                      have hb2_ : m2 + 1 = bst (wsh So n k) (m2 + 1) := by
                        rw [bst, ← hbb]
                        rw [Nat.add_sub_cancel]
                        exact (if_pos (by omega)).symm
                      exact ih36 (m2 + 1) (m2 + 1) (by omega) (by omega) hb2_ (by omega) H locs ls hP hD hS (lv_sub hl [2, 3, 4, 5, 1, 0] rfl)
          exact loop36 _ 0 0 (by omega) (by omega) rfl (Nat.lt_succ_self _) H locs ls hP hD hS (lv_sub hl [2, 3, 4, 5, 1, 0] rfl)
    exact loop25 _ 0 F (by omega) (fun _ => rfl) hSo bSo (fun _ _ => rfl) (Nat.lt_succ_self _) H locs ls hP hD hS (lv_sub hl [2, 3, 1, 0] rfl)
  · have c_4 : isW p0 1 40 = false := bI_f hw_3 c_4
    refine lv_aload_n hx hb dX5_wash_15 rfl (lv_at hl 0 rfl) ?_
    refine lv_iconst (v := 2) hx hb dX5_wash_16 (by decide) ?_
    refine cw_Vi (As := [.int 2]) (rest := []) (c_X5_refused l dC dI cI cZ cJ h F G (va_up V 0 0) 2) fx (cwV 1 hts gX5_wash_X5_refused rfl rfl rfl (by decide +kernel) ⟨Nat.le_of_ble_eq_true rfl, Nat.le_of_ble_eq_true rfl⟩) hK hP hD hS hA 0 rfl rfl rfl rfl hl.1 rfl (Nat.le_of_ble_eq_true rfl) dX5_wash_17 ⟨Nat.le_of_ble_eq_true rfl, Nat.le_of_ble_eq_true rfl⟩ (fun r_44 u_45 H locs hw_46 hP hD hS => ?_)
    have hP : va_P (dC, dI) vwCl (wM cI cZ cJ h F G (va_up (va_up V 0 0) 1 2)) H := hP
    have hD : va_D A (wM cI cZ cJ h F G (va_up (va_up V 0 0) 1 2)) := hD
    obtain rfl : r_44 = (-1) := hw_46
    exact hret (-1) (F, G, va_up (va_up V 0 0) 1 2) H locs 20 ls rfl dX5_wash_20 (by
                  have hc_ : isW p0 1 40 = false := by simp [c_4]
                  refine ⟨?_, ?_⟩
                  · (try simp only [hc_, cond_true, cond_false])
                    first | done | exact rfl
                  · (try simp only [hc_, cond_true, cond_false])
                    exact ⟨⟨hV2, by omega⟩, ⟨hV3, by omega⟩, ⟨hV4, by omega⟩, ⟨hV6, by omega⟩, ⟨hV7, by omega⟩, ⟨hV10, by omega⟩, ⟨sh, hV11, by omega⟩, ⟨hSo, bSo⟩, ⟨hLm, bLm⟩, ⟨hHh, bHh⟩, ⟨hWd, bWd⟩, ⟨hPr, bPr⟩, ⟨hX, bX⟩, ⟨hY, bY⟩, ⟨am, hV8, by omega, by omega⟩, hGP, (fun i hi => (congrFun (Eq.refl (F 5)) i).trans (hSX i hi)), (fun i hi => (congrFun (Eq.refl (F 6)) i).trans (hSY i hi)), (fun i hi => (congrFun (Eq.refl (F 13)) i).trans (hKc i hi)), (fun i hi => (congrFun (Eq.refl (F 15)) i).trans (hKp i hi)), ((show (va_up (va_up V 0 0) 1 2) 5 = V 5 from rfl)).trans hE, (fun t h1 h2 => (congrFun (Eq.refl (F 17)) t).trans (hRB t h1 h2))⟩) (hP) (hD) hS
