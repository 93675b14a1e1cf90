def rm_X5_plan : Room := { frames := 2, cells := 0, slots := 0, locals := 51 }
set_option maxHeartbeats 4000000 in
set_option maxRecDepth 100000 in
theorem c_X5_plan (l : Launch) (dC : Nat → ClassId) (dI : Nat → Nat → Nat) (cI cZ cJ : ClassId) (h : Nat → Nat) (F : Nat → Nat → Int32) (G : Nat → Int64) (V : Nat → Int32)  (hV2 : V 2 = 0) (hV3 : V 3 = 0) (hV4 : V 4 = 0) (hV7 : V 7 = 0) : CtI l (dC, dI) vwCl (tys3 cI cZ cJ) yX5_plan wsX5_plan rm_X5_plan [.ref (h 0)] (wM cI cZ cJ h F G V) (S := Unit) (fun r _ => r = 0) (fun _ => []) 0 0 := by
  refine ct_I (cc := cX5_plan) (maxL := 8) (ty := .int) (own := RX5) (by decide) rfl rfl (Nat.le_of_ble_eq_true rfl) (lv := [(0, .ref (h 0))]) rfl ?_
  intro p e s m args below meth c A Q ls fx hK hP hD hA hl hret
  obtain ⟨hx, hb, hml, hown, hts⟩ := id fx
  have hS : va_S A s.heap s.heap [] := va_S.rf
  have hw0 := hts (.fieldLink RX5 1 "MirrorTowerModel" "thrown" "I") (by decide +kernel)
  have hin_X5 : ∀ w ∈ u_ws RX5 TX5 33, w ∈ wsX5_plan := by decide +kernel
  have hw2 := hts (.fieldLink RX5 78 "MirrorTowerModel" "comeUnits" "[I") (by decide +kernel)
  have hw3 := hts (.fieldLink RX5 154 "MirrorTowerModel" "now" "I") (by decide +kernel)
  have hw4 := hts (.fieldLink RX5 75 "MirrorTowerModel" "planFrom" "I") (by decide +kernel)
  have hw5 := hts (.fieldLink RX5 168 "MirrorTowerModel" "store" "I") (by decide +kernel)
  have hw6 := hts (.fieldLink RX5 171 "MirrorTowerModel" "isWarm" "Z") (by decide +kernel)
  have hw7 := hts (.fieldLink RX5 68 "MirrorTowerModel" "worth" "[I") (by decide +kernel)
  have hw8 := hts (.fieldLink RX5 71 "MirrorTowerModel" "isRun" "[Z") (by decide +kernel)
  have hw9 := hts (.fieldLink RX5 44 "MirrorTowerModel" "price" "[I") (by decide +kernel)
  have hw10 := hts (.methodLink RX5 134 Lib.Math.max.name) (by decide +kernel)
  have hw11 := hts (.static Lib.Math.max.name) (by decide +kernel)
  have hw12 := hts (.initialized "java/lang/Math") (by decide +kernel)
  have hw13 := hts (.code Lib.Math.max.name Lib.Math.max.code 2 (some .int)) (by decide +kernel)
  have hw14 := hts (.fieldLink RX5 16 "MirrorTowerModel" "dust" "I") (by decide +kernel)
  obtain ⟨H, hH⟩ : ∃ H, H = s.heap := ⟨_, rfl⟩
  rw [← hH] at hP ⊢
  have hS : va_S A s.heap H [] := by rw [hH]; exact hS
  generalize ([] : List Loc) = locs at hS ⊢
  refine lv_aload_n hx hb dX5_plan_0 rfl (lv_at hl 0 rfl) ?_
  refine lv_iconst (v := 0) hx hb dX5_plan_1 (by decide) ?_
  refine va_put (D := (dC, dI)) (ci := 5) (v := .int 0) (ty := .int) (C := RX5) (T := TX5) (N := 33) hx hb hts hin_X5 tyX5 tyX5_ok nmX5 hown hK hP hD hS 0 rfl rfl 0 (by decide) hw0 (fun _ h9 => h9) rfl (by decide +kernel) rfl rfl (Nat.le_of_ble_eq_true rfl) dX5_plan_2 (fun H locs hP hD hS => ?_)
  have hP : va_P (dC, dI) vwCl (wM cI cZ cJ h F G (va_up V 0 0)) H := hP
  have hD : va_D A (wM cI cZ cJ h F G (va_up V 0 0)) := hD
  refine lv_aload_n hx hb dX5_plan_5 rfl (lv_at hl 0 rfl) ?_
  refine va_get (D := (dC, dI)) (ci := 5) (v := .ref (h 18)) (C := RX5) (T := TX5) (N := 33) hx hb hts hin_X5 hown hK hP 0 rfl rfl 28 (by decide) hw2 (fun _ h9 => h9) rfl dX5_plan_6 ?_
  refine lv_astore_n (lv' := [(1, .ref (h 18)), (0, .ref (h 0))]) hx hb dX5_plan_9 rfl hl (by decide) rfl (fun ls hl => ?_)
  refine lv_aload_n hx hb dX5_plan_10 rfl (lv_at hl 1 rfl) ?_
  refine va_get (D := (dC, dI)) (ci := 5) (v := .int (V 3)) (C := RX5) (T := TX5) (N := 33) hx hb hts hin_X5 hown hK hP 0 rfl rfl 3 (by decide) hw3 (fun _ h9 => h9) rfl dX5_plan_11 ?_
  refine lv_topi (fun x_1 ex_1 => ?_)
  obtain rfl : x_1 = 0 := ex_1.trans (hV3)
  refine lv_istore_n (lv' := [(2, .int 0), (1, .ref (h 18)), (0, .ref (h 0))]) hx hb dX5_plan_14 rfl hl (by decide) rfl (fun ls hl => ?_)
  have loop15 : ∀ (n : Nat) (k : Nat) (F1 : Nat → Nat → Int32), (k ≤ 24) → (∀ i, i < k → F1 18 i = 0) → (24 - k) < n → ∀ (H : Heap) (locs : List Loc) (ls : Array Slot), va_P (dC, dI) vwCl (wM cI cZ cJ h F1 G (va_up V 0 0)) H → va_D A (wM cI cZ cJ h F1 G (va_up V 0 0)) → va_S A s.heap H locs → lv_has ls 8 [(0, .ref (h 0)), (1, .ref (h 18)), (2, .int (nI k))] → W p l e rm_X5_plan s m args below meth c H locs 0 0 Q (F0 m 15 ls []) := by
    intro n
    induction n with
    | zero => intro k F1 hk hq hn_; exact absurd hn_ (Nat.not_lt_zero _)
    | succ n ih15 =>
      intro k F1 hk hq hn_ H locs ls hP hD hS hl
      refine lv_iload_n hx hb dX5_plan_15 rfl (lv_at hl 2 rfl) ?_
      refine lv_bipush (v := 24) hx hb dX5_plan_16 (by decide) ?_
      refine lv_icmp_ge (tgt := 49) hx hb dX5_plan_18 (by decide) (fun c_2 => ?_) (fun c_2 => ?_)
      · have c_2 : 24 ≤ k := (nI_leI (a := 24) (b := k) (by omega) (by omega)).mp c_2
        refine lv_iconst (v := 0) hx hb dX5_plan_49 (by decide) ?_
        refine lv_istore_n (lv' := [(2, .int 0), (0, .ref (h 0)), (1, .ref (h 18))]) hx hb dX5_plan_50 rfl hl (by decide) rfl (fun ls hl => ?_)
        have loop51 : ∀ (n : Nat) (k2 : Nat) (F2 : Nat → Nat → Int32), (k2 ≤ 402) → (∀ i, i < 24 → F2 18 i = 0) → (0 < k2 → F2 16 9648 = 0) → (402 - k2) < n → ∀ (H : Heap) (locs : List Loc) (ls : Array Slot), va_P (dC, dI) vwCl (wM cI cZ cJ h F2 G (va_up V 0 0)) H → va_D A (wM cI cZ cJ h F2 G (va_up V 0 0)) → va_S A s.heap H locs → lv_has ls 8 [(0, .ref (h 0)), (1, .ref (h 18)), (2, .int (nI k2))] → W p l e rm_X5_plan s m args below meth c H locs 0 0 Q (F0 m 51 ls []) := by
          intro n
          induction n with
          | zero => intro k2 F2 hk2 hq2 hz2 hn_; exact absurd hn_ (Nat.not_lt_zero _)
          | succ n ih51 =>
            intro k2 F2 hk2 hq2 hz2 hn_ H locs ls hP hD hS hl
            refine lv_iload_n hx hb dX5_plan_51 rfl (lv_at hl 2 rfl) ?_
            refine lv_sipush (v := 402) hx hb dX5_plan_52 (by decide) ?_
            refine lv_icmp_ge (tgt := 79) hx hb dX5_plan_55 (by decide) (fun c_3 => ?_) (fun c_3 => ?_)
            · have c_3 : 402 ≤ k2 := (nI_leI (a := 402) (b := k2) (by omega) (by omega)).mp c_3
              refine lv_bipush (v := 23) hx hb dX5_plan_79 (by decide) ?_
              refine lv_istore_n (lv' := [(2, .int 23), (0, .ref (h 0)), (1, .ref (h 18))]) hx hb dX5_plan_81 rfl hl (by decide) rfl (fun ls hl => ?_)
              have loop82 : ∀ (n : Nat) (k3 : Nat) (F3 : Nat → Nat → Int32), (k3 ≤ 24) → (∀ i, i < 24 → F3 18 i = 0) → (∀ i, k3 ≤ i → i ≤ 24 → F3 16 (402 * i) = 0) → (k3) < n → ∀ (H : Heap) (locs : List Loc) (ls : Array Slot), va_P (dC, dI) vwCl (wM cI cZ cJ h F3 G (va_up V 0 0)) H → va_D A (wM cI cZ cJ h F3 G (va_up V 0 0)) → va_S A s.heap H locs → lv_has ls 8 [(0, .ref (h 0)), (1, .ref (h 18)), (2, .int (nI k3 - 1))] → W p l e rm_X5_plan s m args below meth c H locs 0 0 Q (F0 m 82 ls []) := by
                intro n
                induction n with
                | zero => intro k3 F3 hk3 hq3 hz3 hn_; exact absurd hn_ (Nat.not_lt_zero _)
                | succ n ih82 =>
                  intro k3 F3 hk3 hq3 hz3 hn_ H locs ls hP hD hS hl
                  rcases Nat.eq_zero_or_pos k3 with hk0 | hk0
                  · subst hk0
                    have hl : lv_has ls 8 [(0, .ref (h 0)), (1, .ref (h 18)), (2, .int (-1))] := by rw [show nI 0 - 1 = (-1 : Int32) from by decide] at hl; exact hl
                    refine lv_iload_n hx hb dX5_plan_82 rfl (lv_at hl 2 rfl) ?_
                    refine lv_aload_n hx hb dX5_plan_83 rfl (lv_at hl 0 rfl) ?_
                    refine va_get (D := (dC, dI)) (ci := 5) (v := .int (V 3)) (C := RX5) (T := TX5) (N := 33) hx hb hts hin_X5 hown hK hP 0 rfl rfl 3 (by decide) hw3 (fun _ h9 => h9) rfl dX5_plan_84 ?_
                    refine lv_topi (fun x_4 ex_4 => ?_)
                    obtain rfl : x_4 = 0 := ex_4.trans (hV3)
                    refine lv_icmp_lt (tgt := 230) hx hb dX5_plan_87 (by decide) (fun c_5 => ?_) (fun c_5 => ?_)
                    · refine lv_aload_n hx hb dX5_plan_230 rfl (lv_at hl 0 rfl) ?_
                      refine lv_aload_n hx hb dX5_plan_231 rfl (lv_at hl 0 rfl) ?_
                      refine va_get (D := (dC, dI)) (ci := 5) (v := .int (V 3)) (C := RX5) (T := TX5) (N := 33) hx hb hts hin_X5 hown hK hP 0 rfl rfl 3 (by decide) hw3 (fun _ h9 => h9) rfl dX5_plan_232 ?_
                      refine lv_topi (fun x_6 ex_6 => ?_)
                      obtain rfl : x_6 = 0 := ex_6.trans (hV3)
                      refine va_put (D := (dC, dI)) (ci := 5) (v := .int 0) (ty := .int) (C := RX5) (T := TX5) (N := 33) hx hb hts hin_X5 tyX5 tyX5_ok nmX5 hown hK hP hD hS 0 rfl rfl 27 (by decide) hw4 (fun _ h9 => h9) rfl (by decide +kernel) rfl rfl (Nat.le_of_ble_eq_true rfl) dX5_plan_235 (fun H locs hP hD hS => ?_)
                      have hP : va_P (dC, dI) vwCl (wM cI cZ cJ h F3 G (va_up (va_up V 0 0) 10 0)) H := hP
                      have hD : va_D A (wM cI cZ cJ h F3 G (va_up (va_up V 0 0) 10 0)) := hD
                      refine lv_aload_n hx hb dX5_plan_238 rfl (lv_at hl 0 rfl) ?_
                      refine va_get (D := (dC, dI)) (ci := 5) (v := .int (V 4)) (C := RX5) (T := TX5) (N := 33) hx hb hts hin_X5 hown hK hP 0 rfl rfl 4 (by decide) hw5 (fun _ h9 => h9) rfl dX5_plan_239 ?_
                      refine lv_topi (fun x_7 ex_7 => ?_)
                      obtain rfl : x_7 = 0 := ex_7.trans (hV4)
                      refine lv_istore_n (lv' := [(2, .int 0), (0, .ref (h 0)), (1, .ref (h 18))]) hx hb dX5_plan_242 rfl hl (by decide) rfl (fun ls hl => ?_)
                      refine lv_aload_n hx hb dX5_plan_243 rfl (lv_at hl 1 rfl) ?_
                      refine va_get (D := (dC, dI)) (ci := 5) (v := .int (V 7)) (C := RX5) (T := TX5) (N := 33) hx hb hts hin_X5 hown hK hP 0 rfl rfl 7 (by decide) hw6 (fun _ h9 => h9) rfl dX5_plan_244 ?_
                      refine lv_topi (fun x_8 ex_8 => ?_)
                      obtain rfl : x_8 = 0 := ex_8.trans (hV7)
                      refine lv_istore_n (lv' := [(3, .int 0), (2, .int 0), (0, .ref (h 0)), (1, .ref (h 18))]) hx hb dX5_plan_247 rfl hl (by decide) rfl (fun ls hl => ?_)
                      refine lv_aload_n hx hb dX5_plan_248 rfl (lv_at hl 2 rfl) ?_
                      refine va_get (D := (dC, dI)) (ci := 5) (v := .int (V 3)) (C := RX5) (T := TX5) (N := 33) hx hb hts hin_X5 hown hK hP 0 rfl rfl 3 (by decide) hw3 (fun _ h9 => h9) rfl dX5_plan_249 ?_
                      refine lv_topi (fun x_9 ex_9 => ?_)
                      obtain rfl : x_9 = 0 := ex_9.trans (hV3)
                      refine lv_istore (lv' := [(4, .int 0), (3, .int 0), (2, .int 0), (0, .ref (h 0)), (1, .ref (h 18))]) hx hb dX5_plan_252 hl (by decide) rfl (fun ls hl => ?_)
                      have loop254 : ∀ (n : Nat) (k5 : Nat) (F5 : Nat → Nat → Int32), (k5 ≤ 24) → (∀ i, i < 24 → F5 18 i = 0) → (∀ i, i ≤ 24 → F5 16 (402 * i) = 0) → (24 - k5) < n → ∀ (H : Heap) (locs : List Loc) (ls : Array Slot), va_P (dC, dI) vwCl (wM cI cZ cJ h F5 G (va_up (va_up V 0 0) 10 0)) H → va_D A (wM cI cZ cJ h F5 G (va_up (va_up V 0 0) 10 0)) → va_S A s.heap H locs → lv_has ls 8 [(0, .ref (h 0)), (1, .ref (h 18)), (2, .int 0), (3, .int 0), (4, .int (nI k5))] → W p l e rm_X5_plan s m args below meth c H locs 0 0 Q (F0 m 254 ls []) := by
                        intro n
                        induction n with
                        | zero => intro k5 F5 hk5 hq5 hz5 hn_; exact absurd hn_ (Nat.not_lt_zero _)
                        | succ n ih254 =>
                          intro k5 F5 hk5 hq5 hz5 hn_ H locs ls hP hD hS hl
                          refine lv_iload hx hb dX5_plan_254 (lv_at hl 4 rfl) ?_
                          refine lv_bipush (v := 24) hx hb dX5_plan_256 (by decide) ?_
                          refine lv_icmp_ge (tgt := 350) hx hb dX5_plan_258 (by decide) (fun c_10 => ?_) (fun c_10 => ?_)
                          · have c_10 : 24 ≤ k5 := (nI_leI (a := 24) (b := k5) (by omega) (by omega)).mp c_10
                            refine lv_aload_n hx hb dX5_plan_350 rfl (lv_at hl 0 rfl) ?_
                            refine va_get (D := (dC, dI)) (ci := 5) (v := .ref (h 16)) (C := RX5) (T := TX5) (N := 33) hx hb hts hin_X5 hown hK hP 0 rfl rfl 25 (by decide) hw7 (fun _ h9 => h9) rfl dX5_plan_351 ?_
                            refine lv_aload_n hx hb dX5_plan_354 rfl (lv_at hl 0 rfl) ?_
                            refine va_get (D := (dC, dI)) (ci := 5) (v := .int (V 3)) (C := RX5) (T := TX5) (N := 33) hx hb hts hin_X5 hown hK hP 0 rfl rfl 3 (by decide) hw3 (fun _ h9 => h9) rfl dX5_plan_355 ?_
                            refine lv_topi (fun x_11 ex_11 => ?_)
                            obtain rfl : x_11 = 0 := ex_11.trans (hV3)
                            refine lv_aload_n hx hb dX5_plan_358 rfl (lv_at hl 0 rfl) ?_
                            refine va_get (D := (dC, dI)) (ci := 5) (v := .int (V 4)) (C := RX5) (T := TX5) (N := 33) hx hb hts hin_X5 hown hK hP 0 rfl rfl 4 (by decide) hw5 (fun _ h9 => h9) rfl dX5_plan_359 ?_
                            refine lv_topi (fun x_12 ex_12 => ?_)
                            obtain rfl : x_12 = 0 := ex_12.trans (hV4)
                            refine lv_aload_n hx hb dX5_plan_362 rfl (lv_at hl 0 rfl) ?_
                            refine va_get (D := (dC, dI)) (ci := 5) (v := .int (V 7)) (C := RX5) (T := TX5) (N := 33) hx hb hts hin_X5 hown hK hP 0 rfl rfl 7 (by decide) hw6 (fun _ h9 => h9) rfl dX5_plan_363 ?_
                            refine lv_topi (fun x_13 ex_13 => ?_)
                            obtain rfl : x_13 = 0 := ex_13.trans (hV7)
                            refine cw_Si (As := [.int 0, .int 0, .int 0]) (rest := [.ref (h 16)]) (c_X5_state0 l dC dI cI cZ cJ (wM cI cZ cJ h F5 G (va_up (va_up V 0 0) 10 0)) 0 0) fx (va_cwS 3 hts gX5_plan_X5_state rfl rfl rfl (by decide +kernel) ⟨Nat.le_of_ble_eq_true rfl, Nat.le_of_ble_eq_true rfl⟩) hK hP hD hS hA rfl hl.1 rfl (Nat.le_of_ble_eq_true rfl) dX5_plan_366 ⟨Nat.le_of_ble_eq_true rfl, Nat.le_of_ble_eq_true rfl⟩ (fun r_14 u_15 H locs hw_16 hP hD hS => ?_)
                            have hP : va_P (dC, dI) vwCl (wM cI cZ cJ h F5 G (va_up (va_up V 0 0) 10 0)) H := hP
                            have hD : va_D A (wM cI cZ cJ h F5 G (va_up (va_up V 0 0) 10 0)) := hD
                            obtain rfl : r_14 = 0 := hw_16
                            refine va_iald hx hb hK hP 16 0 rfl rfl (vp_in_nI (n := 0) (N := 10050) (by decide) (by decide)) dX5_plan_369 ?_
                            refine lv_topi (fun x_17 ex_17 => ?_)
                            obtain rfl : x_17 = 0 := ex_17.trans ((congrArg (F5 16) (by decide : (0 : Int32).toNatClampNeg = 402 * 0)).trans (hz5 (0) (by omega)))
                            exact hret 0 () H locs 370 ls rfl dX5_plan_370 (by first | rfl | (simp []; done) | (exfalso; omega)) (hP.sub [] rfl) (hD.sub [] (by decide) rfl) hS
                          · have c_10 : ¬ 24 ≤ k5 := fun h => c_10 ((nI_leI (a := 24) (b := k5) (by omega) (by omega)).mpr h)
                            refine lv_iload_n hx hb dX5_plan_261 rfl (lv_at hl 2 rfl) ?_
                            refine lv_aload_n hx hb dX5_plan_262 rfl (lv_at hl 1 rfl) ?_
                            refine lv_iload hx hb dX5_plan_263 (lv_at hl 4 rfl) ?_
                            refine va_iald hx hb hK hP 18 0 rfl rfl (vp_in_nI (n := k5) (N := 24) (by omega) (by decide)) dX5_plan_265 ?_
                            refine lv_topi (fun x_18 ex_18 => ?_)
                            obtain rfl : x_18 = 0 := ex_18.trans ((congrArg (F5 18) (show (nI k5).toNatClampNeg = k5 from nI_clamp (n := k5) (by omega))).trans (hq5 k5 (by omega)))
                            refine cw_Si (As := [.int 0, .int 0]) (rest := []) (c_X5_filled l dC dI cI cZ cJ (wM cI cZ cJ h F5 G (va_up (va_up V 0 0) 10 0)) 0 0 (by omega)) fx (va_cwS 2 hts gX5_plan_X5_filled rfl rfl rfl (by decide +kernel) ⟨Nat.le_of_ble_eq_true rfl, Nat.le_of_ble_eq_true rfl⟩) hK hP hD hS hA rfl hl.1 rfl (Nat.le_of_ble_eq_true rfl) dX5_plan_266 ⟨Nat.le_of_ble_eq_true rfl, Nat.le_of_ble_eq_true rfl⟩ (fun r_19 u_20 H locs hw_21 hP hD hS => ?_)
                            have hP : va_P (dC, dI) vwCl (wM cI cZ cJ h F5 G (va_up (va_up V 0 0) 10 0)) H := hP
                            have hD : va_D A (wM cI cZ cJ h F5 G (va_up (va_up V 0 0) 10 0)) := hD
                            obtain rfl : r_19 = 0 := hw_21
                            refine lv_istore (lv' := [(5, .int 0), (0, .ref (h 0)), (1, .ref (h 18)), (2, .int 0), (3, .int 0), (4, .int (nI k5))]) hx hb dX5_plan_269 hl (by decide) rfl (fun ls hl => ?_)
                            refine lv_aload_n hx hb dX5_plan_271 rfl (lv_at hl 1 rfl) ?_
                            refine va_get (D := (dC, dI)) (ci := 5) (v := .ref (h 17)) (C := RX5) (T := TX5) (N := 33) hx hb hts hin_X5 hown hK hP 0 rfl rfl 26 (by decide) hw8 (fun _ h9 => h9) rfl dX5_plan_272 ?_
                            refine lv_iload hx hb dX5_plan_275 (lv_at hl 5 rfl) ?_
                            refine lv_aload_n hx hb dX5_plan_277 rfl (lv_at hl 1 rfl) ?_
                            refine va_get (D := (dC, dI)) (ci := 5) (v := .ref (h 16)) (C := RX5) (T := TX5) (N := 33) hx hb hts hin_X5 hown hK hP 0 rfl rfl 25 (by decide) hw7 (fun _ h9 => h9) rfl dX5_plan_278 ?_
                            refine lv_iload hx hb dX5_plan_281 (lv_at hl 5 rfl) ?_
                            refine lv_iconst (v := 1) hx hb dX5_plan_283 (by decide) ?_
                            refine lv_iadd hx hb dX5_plan_284 ?_
                            refine lv_topi (fun x_22 ex_22 => ?_)
                            obtain rfl : x_22 = nI (k5 + 1) := ex_22.trans (nI_add k5 1)
                            refine lv_iload hx hb dX5_plan_285 (lv_at hl 0 rfl) ?_
                            refine lv_iconst (v := 0) hx hb dX5_plan_287 (by decide) ?_
                            refine cw_Si (As := [.int (nI (k5 + 1)), .int 0, .int 0]) (rest := [.ref (h 16), .int (nI k5), .ref (h 17)]) (c_X5_state0 l dC dI cI cZ cJ (wM cI cZ cJ h F5 G (va_up (va_up V 0 0) 10 0)) (k5 + 1) 0) fx (va_cwS 3 hts gX5_plan_X5_state rfl rfl rfl (by decide +kernel) ⟨Nat.le_of_ble_eq_true rfl, Nat.le_of_ble_eq_true rfl⟩) hK hP hD hS hA rfl hl.1 rfl (Nat.le_of_ble_eq_true rfl) dX5_plan_288 ⟨Nat.le_of_ble_eq_true rfl, Nat.le_of_ble_eq_true rfl⟩ (fun r_23 u_24 H locs hw_25 hP hD hS => ?_)
                            have hP : va_P (dC, dI) vwCl (wM cI cZ cJ h F5 G (va_up (va_up V 0 0) 10 0)) H := hP
                            have hD : va_D A (wM cI cZ cJ h F5 G (va_up (va_up V 0 0) 10 0)) := hD
                            obtain rfl : r_23 = nI ((201 * (k5 + 1) + 0) * 2 + 0) := hw_25
                            refine va_iald hx hb hK hP 16 0 rfl rfl (vp_in_nI (n := (201 * (k5 + 1) + 0) * 2 + 0) (N := 10050) (by omega) (by decide)) dX5_plan_291 ?_
                            refine lv_topi (fun x_26 ex_26 => ?_)
                            obtain rfl : x_26 = 0 := ex_26.trans ((congrArg (F5 16) ((nI_clamp (n := (201 * (k5 + 1) + 0) * 2 + 0) (by omega)).trans (by omega : (201 * (k5 + 1) + 0) * 2 + 0 = 402 * (k5 + 1)))).trans (hz5 (k5 + 1) (by omega)))
                            refine lv_aload_n hx hb dX5_plan_292 rfl (lv_at hl 1 rfl) ?_
                            refine va_get (D := (dC, dI)) (ci := 5) (v := .ref (h 16)) (C := RX5) (T := TX5) (N := 33) hx hb hts hin_X5 hown hK hP 0 rfl rfl 25 (by decide) hw7 (fun _ h9 => h9) rfl dX5_plan_293 ?_
                            refine lv_iload hx hb dX5_plan_296 (lv_at hl 5 rfl) ?_
                            refine lv_iload_n hx hb dX5_plan_298 rfl (lv_at hl 3 rfl) ?_
                            refine lv_iload_n hx hb dX5_plan_299 rfl (lv_at hl 4 rfl) ?_
                            refine cw_Si (As := [.int (nI k5), .int 0, .int 0]) (rest := [.ref (h 16), .int 0, .int (nI k5), .ref (h 17)]) (c_X5_state0 l dC dI cI cZ cJ (wM cI cZ cJ h F5 G (va_up (va_up V 0 0) 10 0)) k5 0) fx (va_cwS 3 hts gX5_plan_X5_state rfl rfl rfl (by decide +kernel) ⟨Nat.le_of_ble_eq_true rfl, Nat.le_of_ble_eq_true rfl⟩) hK hP hD hS hA rfl hl.1 rfl (Nat.le_of_ble_eq_true rfl) dX5_plan_300 ⟨Nat.le_of_ble_eq_true rfl, Nat.le_of_ble_eq_true rfl⟩ (fun r_27 u_28 H locs hw_29 hP hD hS => ?_)
                            have hP : va_P (dC, dI) vwCl (wM cI cZ cJ h F5 G (va_up (va_up V 0 0) 10 0)) H := hP
                            have hD : va_D A (wM cI cZ cJ h F5 G (va_up (va_up V 0 0) 10 0)) := hD
                            obtain rfl : r_27 = nI ((201 * k5 + 0) * 2 + 0) := hw_29
                            refine va_iald hx hb hK hP 16 0 rfl rfl (vp_in_nI (n := (201 * k5 + 0) * 2 + 0) (N := 10050) (by omega) (by decide)) dX5_plan_303 ?_
                            refine lv_topi (fun x_30 ex_30 => ?_)
                            obtain rfl : x_30 = 0 := ex_30.trans ((congrArg (F5 16) ((nI_clamp (n := (201 * k5 + 0) * 2 + 0) (by omega)).trans (by omega : (201 * k5 + 0) * 2 + 0 = 402 * (k5)))).trans (hz5 (k5) (by omega)))
                            refine lv_icmp_ge (tgt := 311) hx hb dX5_plan_304 (by decide) (fun c_31 => ?_) (fun c_31 => ?_)
                            · refine lv_iconst (v := 0) hx hb dX5_plan_311 (by decide) ?_
                              refine va_zast hx hb hK hP hD hS 17 1 rfl rfl (vp_in_nI (n := k5) (N := 24) (by omega) (by decide)) dX5_plan_312 (fun H locs hP hD hS => ?_)
                              obtain ⟨F_32, eF_32⟩ : ∃ z : Nat → Nat → Int32, z = va_up F5 17 (upd (F5 17) (nI k5).toNatClampNeg (vp_nar .boolean 0)) := ⟨_, rfl⟩
                              have hP : va_P (dC, dI) vwCl (wM cI cZ cJ h F_32 G (va_up (va_up V 0 0) 10 0)) H := by rw [eF_32]; exact hP
                              have hD : va_D A (wM cI cZ cJ h F_32 G (va_up (va_up V 0 0) 10 0)) := by rw [eF_32]; exact hD
                              have hF_33 : ∀ i, i < 24 → F_32 18 i = 0 := by rw [eF_32]; exact hq5
                              have hE_34 : F_32 17 k5 = 0 := by rw [eF_32]; show upd _ (nI k5).toNatClampNeg _ _ = _; rw [nI_clamp (by omega)]; exact pk_us.trans (by decide)
                              refine lv_aload_n hx hb dX5_plan_313 rfl (lv_at hl 1 rfl) ?_
                              refine va_get (D := (dC, dI)) (ci := 5) (v := .ref (h 17)) (C := RX5) (T := TX5) (N := 33) hx hb hts hin_X5 hown hK hP 0 rfl rfl 26 (by decide) hw8 (fun _ h9 => h9) rfl dX5_plan_314 ?_
                              refine lv_iload hx hb dX5_plan_317 (lv_at hl 5 rfl) ?_
                              refine va_zald hx hb hK hP 17 1 rfl rfl (vp_in_nI (n := k5) (N := 24) (by omega) (by decide)) dX5_plan_319 ?_
                              refine lv_topi (fun x_35 ex_35 => ?_)
                              obtain rfl : x_35 = 0 := ex_35.trans ((congrArg (F_32 17) (nI_clamp (n := k5) (by omega))).trans hE_34)
                              refine lv_if_eq (tgt := 333) hx hb dX5_plan_320 (by decide) (fun c_36 => ?_) (fun c_36 => ?_)
                              · refine lv_iload hx hb dX5_plan_333 (lv_at hl 0 rfl) ?_
                                refine lv_istore_n (lv' := [(2, .int 0), (5, .int 0), (0, .ref (h 0)), (1, .ref (h 18)), (3, .int 0), (4, .int (nI k5))]) hx hb dX5_plan_335 rfl hl (by decide) rfl (fun ls hl => ?_)
                                refine lv_aload_n hx hb dX5_plan_336 rfl (lv_at hl 2 rfl) ?_
                                refine va_get (D := (dC, dI)) (ci := 5) (v := .ref (h 17)) (C := RX5) (T := TX5) (N := 33) hx hb hts hin_X5 hown hK hP 0 rfl rfl 26 (by decide) hw8 (fun _ h9 => h9) rfl dX5_plan_337 ?_
                                refine lv_iload hx hb dX5_plan_340 (lv_at hl 5 rfl) ?_
                                refine va_zald hx hb hK hP 17 1 rfl rfl (vp_in_nI (n := k5) (N := 24) (by omega) (by decide)) dX5_plan_342 ?_
                                refine lv_topi (fun x_37 ex_37 => ?_)
                                obtain rfl : x_37 = 0 := ex_37.trans ((congrArg (F_32 17) (nI_clamp (n := k5) (by omega))).trans hE_34)
                                refine lv_istore_n (lv' := [(3, .int 0), (2, .int 0), (5, .int 0), (0, .ref (h 0)), (1, .ref (h 18)), (4, .int (nI k5))]) hx hb dX5_plan_343 rfl hl (by decide) rfl (fun ls hl => ?_)
                                refine lv_iinc (v := nI (k5 + 1)) (lv' := [(4, .int (nI (k5 + 1))), (3, .int 0), (2, .int 0), (5, .int 0), (0, .ref (h 0)), (1, .ref (h 18))]) hx hb dX5_plan_344 hl (k := 5) rfl (nI_1 _) (by decide) rfl (fun ls hl => ?_)
                                refine lv_goto (tgt := 254) hx hb dX5_plan_347 (by decide) ?_
                                exact ih254 (k5 + 1) F_32 (by omega) hF_33 (by rw [eF_32]; exact hz5) (by omega) H locs ls hP hD hS (lv_sub hl [4, 5, 2, 1, 0] rfl)
                              · exact absurd c_36 (by decide)
                            · exact absurd c_31 (by decide)
                      exact loop254 _ 0 F3 (by omega) hq3 (fun i h => hz3 i (by omega) h) (Nat.lt_succ_self _) H locs ls hP hD hS (lv_sub hl [3, 4, 2, 1, 0] rfl)
                    · exact absurd c_5 (by decide)
                  · obtain ⟨j, rfl⟩ : ∃ j, k3 = j + 1 := ⟨k3 - 1, by omega⟩
                    rw [nI_pred] at hl
                    refine lv_iload_n hx hb dX5_plan_82 rfl (lv_at hl 2 rfl) ?_
                    refine lv_aload_n hx hb dX5_plan_83 rfl (lv_at hl 0 rfl) ?_
                    refine va_get (D := (dC, dI)) (ci := 5) (v := .int (V 3)) (C := RX5) (T := TX5) (N := 33) hx hb hts hin_X5 hown hK hP 0 rfl rfl 3 (by decide) hw3 (fun _ h9 => h9) rfl dX5_plan_84 ?_
                    refine lv_topi (fun x_38 ex_38 => ?_)
                    obtain rfl : x_38 = 0 := ex_38.trans (hV3)
                    refine lv_icmp_lt (tgt := 230) hx hb dX5_plan_87 (by decide) (fun c_39 => ?_) (fun c_39 => ?_)
                    · have c_39 : j < 0 := (nI_ltI (a := j) (b := 0) (by omega) (by omega)).mp c_39
                      refine lv_aload_n hx hb dX5_plan_230 rfl (lv_at hl 0 rfl) ?_
                      refine lv_aload_n hx hb dX5_plan_231 rfl (lv_at hl 0 rfl) ?_
                      refine va_get (D := (dC, dI)) (ci := 5) (v := .int (V 3)) (C := RX5) (T := TX5) (N := 33) hx hb hts hin_X5 hown hK hP 0 rfl rfl 3 (by decide) hw3 (fun _ h9 => h9) rfl dX5_plan_232 ?_
                      refine lv_topi (fun x_40 ex_40 => ?_)
                      obtain rfl : x_40 = 0 := ex_40.trans (hV3)
                      refine va_put (D := (dC, dI)) (ci := 5) (v := .int 0) (ty := .int) (C := RX5) (T := TX5) (N := 33) hx hb hts hin_X5 tyX5 tyX5_ok nmX5 hown hK hP hD hS 0 rfl rfl 27 (by decide) hw4 (fun _ h9 => h9) rfl (by decide +kernel) rfl rfl (Nat.le_of_ble_eq_true rfl) dX5_plan_235 (fun H locs hP hD hS => ?_)
                      have hP : va_P (dC, dI) vwCl (wM cI cZ cJ h F3 G (va_up (va_up V 0 0) 10 0)) H := hP
                      have hD : va_D A (wM cI cZ cJ h F3 G (va_up (va_up V 0 0) 10 0)) := hD
                      refine lv_aload_n hx hb dX5_plan_238 rfl (lv_at hl 0 rfl) ?_
                      refine va_get (D := (dC, dI)) (ci := 5) (v := .int (V 4)) (C := RX5) (T := TX5) (N := 33) hx hb hts hin_X5 hown hK hP 0 rfl rfl 4 (by decide) hw5 (fun _ h9 => h9) rfl dX5_plan_239 ?_
                      refine lv_topi (fun x_41 ex_41 => ?_)
                      obtain rfl : x_41 = 0 := ex_41.trans (hV4)
                      refine lv_istore_n (lv' := [(2, .int 0), (0, .ref (h 0)), (1, .ref (h 18))]) hx hb dX5_plan_242 rfl hl (by decide) rfl (fun ls hl => ?_)
                      refine lv_aload_n hx hb dX5_plan_243 rfl (lv_at hl 1 rfl) ?_
                      refine va_get (D := (dC, dI)) (ci := 5) (v := .int (V 7)) (C := RX5) (T := TX5) (N := 33) hx hb hts hin_X5 hown hK hP 0 rfl rfl 7 (by decide) hw6 (fun _ h9 => h9) rfl dX5_plan_244 ?_
                      refine lv_topi (fun x_42 ex_42 => ?_)
                      obtain rfl : x_42 = 0 := ex_42.trans (hV7)
                      refine lv_istore_n (lv' := [(3, .int 0), (2, .int 0), (0, .ref (h 0)), (1, .ref (h 18))]) hx hb dX5_plan_247 rfl hl (by decide) rfl (fun ls hl => ?_)
                      refine lv_aload_n hx hb dX5_plan_248 rfl (lv_at hl 2 rfl) ?_
                      refine va_get (D := (dC, dI)) (ci := 5) (v := .int (V 3)) (C := RX5) (T := TX5) (N := 33) hx hb hts hin_X5 hown hK hP 0 rfl rfl 3 (by decide) hw3 (fun _ h9 => h9) rfl dX5_plan_249 ?_
                      refine lv_topi (fun x_43 ex_43 => ?_)
                      obtain rfl : x_43 = 0 := ex_43.trans (hV3)
                      refine lv_istore (lv' := [(4, .int 0), (3, .int 0), (2, .int 0), (0, .ref (h 0)), (1, .ref (h 18))]) hx hb dX5_plan_252 hl (by decide) rfl (fun ls hl => ?_)
                      have loop254 : ∀ (n : Nat) (k5 : Nat) (F5 : Nat → Nat → Int32), (k5 ≤ 24) → (∀ i, i < 24 → F5 18 i = 0) → (∀ i, i ≤ 24 → F5 16 (402 * i) = 0) → (24 - k5) < n → ∀ (H : Heap) (locs : List Loc) (ls : Array Slot), va_P (dC, dI) vwCl (wM cI cZ cJ h F5 G (va_up (va_up V 0 0) 10 0)) H → va_D A (wM cI cZ cJ h F5 G (va_up (va_up V 0 0) 10 0)) → va_S A s.heap H locs → lv_has ls 8 [(0, .ref (h 0)), (1, .ref (h 18)), (2, .int 0), (3, .int 0), (4, .int (nI k5))] → W p l e rm_X5_plan s m args below meth c H locs 0 0 Q (F0 m 254 ls []) := by
                        intro n
                        induction n with
                        | zero => intro k5 F5 hk5 hq5 hz5 hn_; exact absurd hn_ (Nat.not_lt_zero _)
                        | succ n ih254 =>
                          intro k5 F5 hk5 hq5 hz5 hn_ H locs ls hP hD hS hl
                          refine lv_iload hx hb dX5_plan_254 (lv_at hl 4 rfl) ?_
                          refine lv_bipush (v := 24) hx hb dX5_plan_256 (by decide) ?_
                          refine lv_icmp_ge (tgt := 350) hx hb dX5_plan_258 (by decide) (fun c_44 => ?_) (fun c_44 => ?_)
                          · have c_44 : 24 ≤ k5 := (nI_leI (a := 24) (b := k5) (by omega) (by omega)).mp c_44
                            refine lv_aload_n hx hb dX5_plan_350 rfl (lv_at hl 0 rfl) ?_
                            refine va_get (D := (dC, dI)) (ci := 5) (v := .ref (h 16)) (C := RX5) (T := TX5) (N := 33) hx hb hts hin_X5 hown hK hP 0 rfl rfl 25 (by decide) hw7 (fun _ h9 => h9) rfl dX5_plan_351 ?_
                            refine lv_aload_n hx hb dX5_plan_354 rfl (lv_at hl 0 rfl) ?_
                            refine va_get (D := (dC, dI)) (ci := 5) (v := .int (V 3)) (C := RX5) (T := TX5) (N := 33) hx hb hts hin_X5 hown hK hP 0 rfl rfl 3 (by decide) hw3 (fun _ h9 => h9) rfl dX5_plan_355 ?_
                            refine lv_topi (fun x_45 ex_45 => ?_)
                            obtain rfl : x_45 = 0 := ex_45.trans (hV3)
                            refine lv_aload_n hx hb dX5_plan_358 rfl (lv_at hl 0 rfl) ?_
                            refine va_get (D := (dC, dI)) (ci := 5) (v := .int (V 4)) (C := RX5) (T := TX5) (N := 33) hx hb hts hin_X5 hown hK hP 0 rfl rfl 4 (by decide) hw5 (fun _ h9 => h9) rfl dX5_plan_359 ?_
                            refine lv_topi (fun x_46 ex_46 => ?_)
                            obtain rfl : x_46 = 0 := ex_46.trans (hV4)
                            refine lv_aload_n hx hb dX5_plan_362 rfl (lv_at hl 0 rfl) ?_
                            refine va_get (D := (dC, dI)) (ci := 5) (v := .int (V 7)) (C := RX5) (T := TX5) (N := 33) hx hb hts hin_X5 hown hK hP 0 rfl rfl 7 (by decide) hw6 (fun _ h9 => h9) rfl dX5_plan_363 ?_
                            refine lv_topi (fun x_47 ex_47 => ?_)
                            obtain rfl : x_47 = 0 := ex_47.trans (hV7)
                            refine cw_Si (As := [.int 0, .int 0, .int 0]) (rest := [.ref (h 16)]) (c_X5_state0 l dC dI cI cZ cJ (wM cI cZ cJ h F5 G (va_up (va_up V 0 0) 10 0)) 0 0) fx (va_cwS 3 hts gX5_plan_X5_state rfl rfl rfl (by decide +kernel) ⟨Nat.le_of_ble_eq_true rfl, Nat.le_of_ble_eq_true rfl⟩) hK hP hD hS hA rfl hl.1 rfl (Nat.le_of_ble_eq_true rfl) dX5_plan_366 ⟨Nat.le_of_ble_eq_true rfl, Nat.le_of_ble_eq_true rfl⟩ (fun r_48 u_49 H locs hw_50 hP hD hS => ?_)
                            have hP : va_P (dC, dI) vwCl (wM cI cZ cJ h F5 G (va_up (va_up V 0 0) 10 0)) H := hP
                            have hD : va_D A (wM cI cZ cJ h F5 G (va_up (va_up V 0 0) 10 0)) := hD
                            obtain rfl : r_48 = 0 := hw_50
                            refine va_iald hx hb hK hP 16 0 rfl rfl (vp_in_nI (n := 0) (N := 10050) (by decide) (by decide)) dX5_plan_369 ?_
                            refine lv_topi (fun x_51 ex_51 => ?_)
                            obtain rfl : x_51 = 0 := ex_51.trans ((congrArg (F5 16) (by decide : (0 : Int32).toNatClampNeg = 402 * 0)).trans (hz5 (0) (by omega)))
                            exact hret 0 () H locs 370 ls rfl dX5_plan_370 (by first | rfl | (simp []; done) | (exfalso; omega)) (hP.sub [] rfl) (hD.sub [] (by decide) rfl) hS
                          · have c_44 : ¬ 24 ≤ k5 := fun h => c_44 ((nI_leI (a := 24) (b := k5) (by omega) (by omega)).mpr h)
                            refine lv_iload_n hx hb dX5_plan_261 rfl (lv_at hl 2 rfl) ?_
                            refine lv_aload_n hx hb dX5_plan_262 rfl (lv_at hl 1 rfl) ?_
                            refine lv_iload hx hb dX5_plan_263 (lv_at hl 4 rfl) ?_
                            refine va_iald hx hb hK hP 18 0 rfl rfl (vp_in_nI (n := k5) (N := 24) (by omega) (by decide)) dX5_plan_265 ?_
                            refine lv_topi (fun x_52 ex_52 => ?_)
                            obtain rfl : x_52 = 0 := ex_52.trans ((congrArg (F5 18) (show (nI k5).toNatClampNeg = k5 from nI_clamp (n := k5) (by omega))).trans (hq5 k5 (by omega)))
                            refine cw_Si (As := [.int 0, .int 0]) (rest := []) (c_X5_filled l dC dI cI cZ cJ (wM cI cZ cJ h F5 G (va_up (va_up V 0 0) 10 0)) 0 0 (by omega)) fx (va_cwS 2 hts gX5_plan_X5_filled rfl rfl rfl (by decide +kernel) ⟨Nat.le_of_ble_eq_true rfl, Nat.le_of_ble_eq_true rfl⟩) hK hP hD hS hA rfl hl.1 rfl (Nat.le_of_ble_eq_true rfl) dX5_plan_266 ⟨Nat.le_of_ble_eq_true rfl, Nat.le_of_ble_eq_true rfl⟩ (fun r_53 u_54 H locs hw_55 hP hD hS => ?_)
                            have hP : va_P (dC, dI) vwCl (wM cI cZ cJ h F5 G (va_up (va_up V 0 0) 10 0)) H := hP
                            have hD : va_D A (wM cI cZ cJ h F5 G (va_up (va_up V 0 0) 10 0)) := hD
                            obtain rfl : r_53 = 0 := hw_55
                            refine lv_istore (lv' := [(5, .int 0), (0, .ref (h 0)), (1, .ref (h 18)), (2, .int 0), (3, .int 0), (4, .int (nI k5))]) hx hb dX5_plan_269 hl (by decide) rfl (fun ls hl => ?_)
                            refine lv_aload_n hx hb dX5_plan_271 rfl (lv_at hl 1 rfl) ?_
                            refine va_get (D := (dC, dI)) (ci := 5) (v := .ref (h 17)) (C := RX5) (T := TX5) (N := 33) hx hb hts hin_X5 hown hK hP 0 rfl rfl 26 (by decide) hw8 (fun _ h9 => h9) rfl dX5_plan_272 ?_
                            refine lv_iload hx hb dX5_plan_275 (lv_at hl 5 rfl) ?_
                            refine lv_aload_n hx hb dX5_plan_277 rfl (lv_at hl 1 rfl) ?_
                            refine va_get (D := (dC, dI)) (ci := 5) (v := .ref (h 16)) (C := RX5) (T := TX5) (N := 33) hx hb hts hin_X5 hown hK hP 0 rfl rfl 25 (by decide) hw7 (fun _ h9 => h9) rfl dX5_plan_278 ?_
                            refine lv_iload hx hb dX5_plan_281 (lv_at hl 5 rfl) ?_
                            refine lv_iconst (v := 1) hx hb dX5_plan_283 (by decide) ?_
                            refine lv_iadd hx hb dX5_plan_284 ?_
                            refine lv_topi (fun x_56 ex_56 => ?_)
                            obtain rfl : x_56 = nI (k5 + 1) := ex_56.trans (nI_add k5 1)
                            refine lv_iload hx hb dX5_plan_285 (lv_at hl 0 rfl) ?_
                            refine lv_iconst (v := 0) hx hb dX5_plan_287 (by decide) ?_
                            refine cw_Si (As := [.int (nI (k5 + 1)), .int 0, .int 0]) (rest := [.ref (h 16), .int (nI k5), .ref (h 17)]) (c_X5_state0 l dC dI cI cZ cJ (wM cI cZ cJ h F5 G (va_up (va_up V 0 0) 10 0)) (k5 + 1) 0) fx (va_cwS 3 hts gX5_plan_X5_state rfl rfl rfl (by decide +kernel) ⟨Nat.le_of_ble_eq_true rfl, Nat.le_of_ble_eq_true rfl⟩) hK hP hD hS hA rfl hl.1 rfl (Nat.le_of_ble_eq_true rfl) dX5_plan_288 ⟨Nat.le_of_ble_eq_true rfl, Nat.le_of_ble_eq_true rfl⟩ (fun r_57 u_58 H locs hw_59 hP hD hS => ?_)
                            have hP : va_P (dC, dI) vwCl (wM cI cZ cJ h F5 G (va_up (va_up V 0 0) 10 0)) H := hP
                            have hD : va_D A (wM cI cZ cJ h F5 G (va_up (va_up V 0 0) 10 0)) := hD
                            obtain rfl : r_57 = nI ((201 * (k5 + 1) + 0) * 2 + 0) := hw_59
                            refine va_iald hx hb hK hP 16 0 rfl rfl (vp_in_nI (n := (201 * (k5 + 1) + 0) * 2 + 0) (N := 10050) (by omega) (by decide)) dX5_plan_291 ?_
                            refine lv_topi (fun x_60 ex_60 => ?_)
                            obtain rfl : x_60 = 0 := ex_60.trans ((congrArg (F5 16) ((nI_clamp (n := (201 * (k5 + 1) + 0) * 2 + 0) (by omega)).trans (by omega : (201 * (k5 + 1) + 0) * 2 + 0 = 402 * (k5 + 1)))).trans (hz5 (k5 + 1) (by omega)))
                            refine lv_aload_n hx hb dX5_plan_292 rfl (lv_at hl 1 rfl) ?_
                            refine va_get (D := (dC, dI)) (ci := 5) (v := .ref (h 16)) (C := RX5) (T := TX5) (N := 33) hx hb hts hin_X5 hown hK hP 0 rfl rfl 25 (by decide) hw7 (fun _ h9 => h9) rfl dX5_plan_293 ?_
                            refine lv_iload hx hb dX5_plan_296 (lv_at hl 5 rfl) ?_
                            refine lv_iload_n hx hb dX5_plan_298 rfl (lv_at hl 3 rfl) ?_
                            refine lv_iload_n hx hb dX5_plan_299 rfl (lv_at hl 4 rfl) ?_
                            refine cw_Si (As := [.int (nI k5), .int 0, .int 0]) (rest := [.ref (h 16), .int 0, .int (nI k5), .ref (h 17)]) (c_X5_state0 l dC dI cI cZ cJ (wM cI cZ cJ h F5 G (va_up (va_up V 0 0) 10 0)) k5 0) fx (va_cwS 3 hts gX5_plan_X5_state rfl rfl rfl (by decide +kernel) ⟨Nat.le_of_ble_eq_true rfl, Nat.le_of_ble_eq_true rfl⟩) hK hP hD hS hA rfl hl.1 rfl (Nat.le_of_ble_eq_true rfl) dX5_plan_300 ⟨Nat.le_of_ble_eq_true rfl, Nat.le_of_ble_eq_true rfl⟩ (fun r_61 u_62 H locs hw_63 hP hD hS => ?_)
                            have hP : va_P (dC, dI) vwCl (wM cI cZ cJ h F5 G (va_up (va_up V 0 0) 10 0)) H := hP
                            have hD : va_D A (wM cI cZ cJ h F5 G (va_up (va_up V 0 0) 10 0)) := hD
                            obtain rfl : r_61 = nI ((201 * k5 + 0) * 2 + 0) := hw_63
                            refine va_iald hx hb hK hP 16 0 rfl rfl (vp_in_nI (n := (201 * k5 + 0) * 2 + 0) (N := 10050) (by omega) (by decide)) dX5_plan_303 ?_
                            refine lv_topi (fun x_64 ex_64 => ?_)
                            obtain rfl : x_64 = 0 := ex_64.trans ((congrArg (F5 16) ((nI_clamp (n := (201 * k5 + 0) * 2 + 0) (by omega)).trans (by omega : (201 * k5 + 0) * 2 + 0 = 402 * (k5)))).trans (hz5 (k5) (by omega)))
                            refine lv_icmp_ge (tgt := 311) hx hb dX5_plan_304 (by decide) (fun c_65 => ?_) (fun c_65 => ?_)
                            · refine lv_iconst (v := 0) hx hb dX5_plan_311 (by decide) ?_
                              refine va_zast hx hb hK hP hD hS 17 1 rfl rfl (vp_in_nI (n := k5) (N := 24) (by omega) (by decide)) dX5_plan_312 (fun H locs hP hD hS => ?_)
                              obtain ⟨F_66, eF_66⟩ : ∃ z : Nat → Nat → Int32, z = va_up F5 17 (upd (F5 17) (nI k5).toNatClampNeg (vp_nar .boolean 0)) := ⟨_, rfl⟩
                              have hP : va_P (dC, dI) vwCl (wM cI cZ cJ h F_66 G (va_up (va_up V 0 0) 10 0)) H := by rw [eF_66]; exact hP
                              have hD : va_D A (wM cI cZ cJ h F_66 G (va_up (va_up V 0 0) 10 0)) := by rw [eF_66]; exact hD
                              have hF_67 : ∀ i, i < 24 → F_66 18 i = 0 := by rw [eF_66]; exact hq5
                              have hE_68 : F_66 17 k5 = 0 := by rw [eF_66]; show upd _ (nI k5).toNatClampNeg _ _ = _; rw [nI_clamp (by omega)]; exact pk_us.trans (by decide)
                              refine lv_aload_n hx hb dX5_plan_313 rfl (lv_at hl 1 rfl) ?_
                              refine va_get (D := (dC, dI)) (ci := 5) (v := .ref (h 17)) (C := RX5) (T := TX5) (N := 33) hx hb hts hin_X5 hown hK hP 0 rfl rfl 26 (by decide) hw8 (fun _ h9 => h9) rfl dX5_plan_314 ?_
                              refine lv_iload hx hb dX5_plan_317 (lv_at hl 5 rfl) ?_
                              refine va_zald hx hb hK hP 17 1 rfl rfl (vp_in_nI (n := k5) (N := 24) (by omega) (by decide)) dX5_plan_319 ?_
                              refine lv_topi (fun x_69 ex_69 => ?_)
                              obtain rfl : x_69 = 0 := ex_69.trans ((congrArg (F_66 17) (nI_clamp (n := k5) (by omega))).trans hE_68)
                              refine lv_if_eq (tgt := 333) hx hb dX5_plan_320 (by decide) (fun c_70 => ?_) (fun c_70 => ?_)
                              · refine lv_iload hx hb dX5_plan_333 (lv_at hl 0 rfl) ?_
                                refine lv_istore_n (lv' := [(2, .int 0), (5, .int 0), (0, .ref (h 0)), (1, .ref (h 18)), (3, .int 0), (4, .int (nI k5))]) hx hb dX5_plan_335 rfl hl (by decide) rfl (fun ls hl => ?_)
                                refine lv_aload_n hx hb dX5_plan_336 rfl (lv_at hl 2 rfl) ?_
                                refine va_get (D := (dC, dI)) (ci := 5) (v := .ref (h 17)) (C := RX5) (T := TX5) (N := 33) hx hb hts hin_X5 hown hK hP 0 rfl rfl 26 (by decide) hw8 (fun _ h9 => h9) rfl dX5_plan_337 ?_
                                refine lv_iload hx hb dX5_plan_340 (lv_at hl 5 rfl) ?_
                                refine va_zald hx hb hK hP 17 1 rfl rfl (vp_in_nI (n := k5) (N := 24) (by omega) (by decide)) dX5_plan_342 ?_
                                refine lv_topi (fun x_71 ex_71 => ?_)
                                obtain rfl : x_71 = 0 := ex_71.trans ((congrArg (F_66 17) (nI_clamp (n := k5) (by omega))).trans hE_68)
                                refine lv_istore_n (lv' := [(3, .int 0), (2, .int 0), (5, .int 0), (0, .ref (h 0)), (1, .ref (h 18)), (4, .int (nI k5))]) hx hb dX5_plan_343 rfl hl (by decide) rfl (fun ls hl => ?_)
                                refine lv_iinc (v := nI (k5 + 1)) (lv' := [(4, .int (nI (k5 + 1))), (3, .int 0), (2, .int 0), (5, .int 0), (0, .ref (h 0)), (1, .ref (h 18))]) hx hb dX5_plan_344 hl (k := 5) rfl (nI_1 _) (by decide) rfl (fun ls hl => ?_)
                                refine lv_goto (tgt := 254) hx hb dX5_plan_347 (by decide) ?_
                                exact ih254 (k5 + 1) F_66 (by omega) hF_67 (by rw [eF_66]; exact hz5) (by omega) H locs ls hP hD hS (lv_sub hl [4, 5, 2, 1, 0] rfl)
                              · exact absurd c_70 (by decide)
                            · exact absurd c_65 (by decide)
                      exact loop254 _ 0 F3 (by omega) hq3 (fun i h => hz3 i (by omega) h) (Nat.lt_succ_self _) H locs ls hP hD hS (lv_sub hl [3, 4, 2, 1, 0] rfl)
                    · have c_39 : ¬ j < 0 := fun h => c_39 ((nI_ltI (a := j) (b := 0) (by omega) (by omega)).mpr h)
                      refine lv_iconst (v := 0) hx hb dX5_plan_90 (by decide) ?_
                      refine lv_istore_n (lv' := [(3, .int 0), (0, .ref (h 0)), (1, .ref (h 18)), (2, .int (nI j))]) hx hb dX5_plan_91 rfl hl (by decide) rfl (fun ls hl => ?_)
                      have loop92 : ∀ (n : Nat) (u : Nat) (F4 : Nat → Nat → Int32), (u ≤ 201) → (∀ i, i < 24 → F4 18 i = 0) → (∀ i, j + 1 ≤ i → i ≤ 24 → F4 16 (402 * i) = 0) → (0 < u → F4 16 (402 * j) = 0) → (201 - u) < n → ∀ (H : Heap) (locs : List Loc) (ls : Array Slot), va_P (dC, dI) vwCl (wM cI cZ cJ h F4 G (va_up V 0 0)) H → va_D A (wM cI cZ cJ h F4 G (va_up V 0 0)) → va_S A s.heap H locs → lv_has ls 8 [(0, .ref (h 0)), (1, .ref (h 18)), (2, .int (nI j)), (3, .int (nI u))] → W p l e rm_X5_plan s m args below meth c H locs 0 0 Q (F0 m 92 ls []) := by
                        intro n
                        induction n with
                        | zero => intro u F4 hu hq4 hz4 hy4 hn_; exact absurd hn_ (Nat.not_lt_zero _)
                        | succ n ih92 =>
                          intro u F4 hu hq4 hz4 hy4 hn_ H locs ls hP hD hS hl
                          refine lv_iload_n hx hb dX5_plan_92 rfl (lv_at hl 3 rfl) ?_
                          refine lv_sipush (v := 200) hx hb dX5_plan_93 (by decide) ?_
                          refine lv_icmp_gt (tgt := 224) hx hb dX5_plan_96 (by decide) (fun c_72 => ?_) (fun c_72 => ?_)
                          · have c_72 : 200 < u := (nI_ltI (a := 200) (b := u) (by omega) (by omega)).mp c_72
                            refine lv_iinc (v := nI j - 1) (lv' := [(2, .int (nI j - 1)), (0, .ref (h 0)), (1, .ref (h 18)), (3, .int (nI u))]) hx hb dX5_plan_224 hl (k := 2) rfl (by rw [Int32.sub_eq_add_neg]; rfl) (by decide) rfl (fun ls hl => ?_)
                            refine lv_goto (tgt := 82) hx hb dX5_plan_227 (by decide) ?_
                            exact ih82 j F4 (by omega) hq4 (fun i h1 h2 => by
                              by_cases h : i = j
                              · rw [h]; exact hy4 (by omega)
                              · exact hz4 i (by omega) h2) (by omega) H locs ls hP hD hS (lv_sub hl [1, 2, 0] rfl)
                          · have c_72 : ¬ 200 < u := fun h => c_72 ((nI_ltI (a := 200) (b := u) (by omega) (by omega)).mpr h)
                            refine lv_iconst (v := 0) hx hb dX5_plan_99 (by decide) ?_
                            refine lv_istore (lv' := [(4, .int 0), (0, .ref (h 0)), (1, .ref (h 18)), (2, .int (nI j)), (3, .int (nI u))]) hx hb dX5_plan_100 hl (by decide) rfl (fun ls hl => ?_)
                            refine lv_iload hx hb dX5_plan_102 (lv_at hl 0 rfl) ?_
                            refine lv_iconst (v := 2) hx hb dX5_plan_104 (by decide) ?_
                            refine lv_icmp_ge (tgt := 218) hx hb dX5_plan_105 (by decide) (fun c_73 => ?_) (fun c_73 => ?_)
                            · exact absurd c_73 (by decide)
                            · refine lv_iload_n hx hb dX5_plan_108 rfl (lv_at hl 4 rfl) ?_
                              refine lv_aload_n hx hb dX5_plan_109 rfl (lv_at hl 2 rfl) ?_
                              refine lv_iload_n hx hb dX5_plan_110 rfl (lv_at hl 3 rfl) ?_
                              refine va_iald hx hb hK hP 18 0 rfl rfl (vp_in_nI (n := j) (N := 24) (by omega) (by decide)) dX5_plan_111 ?_
                              refine lv_topi (fun x_74 ex_74 => ?_)
                              obtain rfl : x_74 = 0 := ex_74.trans ((congrArg (F4 18) (show (nI j).toNatClampNeg = j from nI_clamp (n := j) (by omega))).trans (hq4 j (by omega)))
                              refine cw_Si (As := [.int (nI u), .int 0]) (rest := []) (c_X5_filled l dC dI cI cZ cJ (wM cI cZ cJ h F4 G (va_up V 0 0)) u 0 (by omega)) fx (va_cwS 2 hts gX5_plan_X5_filled rfl rfl rfl (by decide +kernel) ⟨Nat.le_of_ble_eq_true rfl, Nat.le_of_ble_eq_true rfl⟩) hK hP hD hS hA rfl hl.1 rfl (Nat.le_of_ble_eq_true rfl) dX5_plan_112 ⟨Nat.le_of_ble_eq_true rfl, Nat.le_of_ble_eq_true rfl⟩ (fun r_75 u_76 H locs hw_77 hP hD hS => ?_)
                              have hP : va_P (dC, dI) vwCl (wM cI cZ cJ h F4 G (va_up V 0 0)) H := hP
                              have hD : va_D A (wM cI cZ cJ h F4 G (va_up V 0 0)) := hD
                              obtain rfl : r_75 = nI (min 200 (u + 0)) := hw_77
                              refine lv_istore (lv' := [(5, .int (nI (min 200 (u + 0)))), (4, .int 0), (0, .ref (h 0)), (1, .ref (h 18)), (2, .int (nI j)), (3, .int (nI u))]) hx hb dX5_plan_115 hl (by decide) rfl (fun ls hl => ?_)
                              refine lv_aload_n hx hb dX5_plan_117 rfl (lv_at hl 2 rfl) ?_
                              refine va_get (D := (dC, dI)) (ci := 5) (v := .ref (h 16)) (C := RX5) (T := TX5) (N := 33) hx hb hts hin_X5 hown hK hP 0 rfl rfl 25 (by decide) hw7 (fun _ h9 => h9) rfl dX5_plan_118 ?_
                              refine lv_iload_n hx hb dX5_plan_121 rfl (lv_at hl 4 rfl) ?_
                              refine lv_iconst (v := 1) hx hb dX5_plan_122 (by decide) ?_
                              refine lv_iadd hx hb dX5_plan_123 ?_
                              refine lv_topi (fun x_78 ex_78 => ?_)
                              obtain rfl : x_78 = nI (j + 1) := ex_78.trans (nI_add j 1)
                              refine lv_iload hx hb dX5_plan_124 (lv_at hl 0 rfl) ?_
                              refine lv_iconst (v := 0) hx hb dX5_plan_126 (by decide) ?_
                              refine cw_Si (As := [.int (nI (j + 1)), .int (nI (min 200 (u + 0))), .int 0]) (rest := [.ref (h 16)]) (c_X5_state0 l dC dI cI cZ cJ (wM cI cZ cJ h F4 G (va_up V 0 0)) (j + 1) (min 200 (u + 0))) fx (va_cwS 3 hts gX5_plan_X5_state rfl rfl rfl (by decide +kernel) ⟨Nat.le_of_ble_eq_true rfl, Nat.le_of_ble_eq_true rfl⟩) hK hP hD hS hA rfl hl.1 rfl (Nat.le_of_ble_eq_true rfl) dX5_plan_127 ⟨Nat.le_of_ble_eq_true rfl, Nat.le_of_ble_eq_true rfl⟩ (fun r_79 u_80 H locs hw_81 hP hD hS => ?_)
                              have hP : va_P (dC, dI) vwCl (wM cI cZ cJ h F4 G (va_up V 0 0)) H := hP
                              have hD : va_D A (wM cI cZ cJ h F4 G (va_up V 0 0)) := hD
                              obtain rfl : r_79 = nI ((201 * (j + 1) + (min 200 (u + 0))) * 2 + 0) := hw_81
                              refine va_iald hx hb hK hP 16 0 rfl rfl (vp_in_nI (n := (201 * (j + 1) + (min 200 (u + 0))) * 2 + 0) (N := 10050) (by omega) (by decide)) dX5_plan_130 ?_
                              refine lv_topi (fun x_82 ex_82 => ?_)
                              refine lv_istore (lv' := [(6, .int x_82), (5, .int (nI (min 200 (u + 0)))), (4, .int 0), (0, .ref (h 0)), (1, .ref (h 18)), (2, .int (nI j)), (3, .int (nI u))]) hx hb dX5_plan_131 hl (by decide) rfl (fun ls hl => ?_)
                              refine lv_iload hx hb dX5_plan_133 (lv_at hl 2 rfl) ?_
                              refine lv_iconst (v := 1) hx hb dX5_plan_135 (by decide) ?_
                              refine lv_icmp_ne (tgt := 143) hx hb dX5_plan_136 (by decide) (fun c_83 => ?_) (fun c_83 => ?_)
                              · refine lv_iconst (v := 0) hx hb dX5_plan_143 (by decide) ?_
                                refine cw_Si (As := [.int 0]) (rest := []) (c_X5_takes l dC dI cI cZ cJ (wM cI cZ cJ h F4 G (va_up V 0 0)) 0) fx (va_cwS 1 hts gX5_plan_X5_takes rfl rfl rfl (by decide +kernel) ⟨Nat.le_of_ble_eq_true rfl, Nat.le_of_ble_eq_true rfl⟩) hK hP hD hS hA rfl hl.1 rfl (Nat.le_of_ble_eq_true rfl) dX5_plan_144 ⟨Nat.le_of_ble_eq_true rfl, Nat.le_of_ble_eq_true rfl⟩ (fun r_84 u_85 H locs hw_86 hP hD hS => ?_)
                                have hP : va_P (dC, dI) vwCl (wM cI cZ cJ h F4 G (va_up V 0 0)) H := hP
                                have hD : va_D A (wM cI cZ cJ h F4 G (va_up V 0 0)) := hD
                                obtain rfl : r_84 = 7 := Eq.trans hw_86 (by decide)
                                refine lv_istore (lv' := [(7, .int 7), (6, .int x_82), (5, .int (nI (min 200 (u + 0)))), (4, .int 0), (0, .ref (h 0)), (1, .ref (h 18)), (2, .int (nI j)), (3, .int (nI u))]) hx hb dX5_plan_147 hl (by decide) rfl (fun ls hl => ?_)
                                refine lv_iload hx hb dX5_plan_149 (lv_at hl 2 rfl) ?_
                                refine lv_iload hx hb dX5_plan_151 (lv_at hl 0 rfl) ?_
                                refine lv_icmp_lt (tgt := 189) hx hb dX5_plan_153 (by decide) (fun c_87 => ?_) (fun c_87 => ?_)
                                · have c_87 : (min 200 (u + 0)) < 7 := (nI_ltI (a := min 200 (u + 0)) (b := 7) (by omega) (by omega)).mp c_87
                                  refine lv_aload_n hx hb dX5_plan_189 rfl (lv_at hl 4 rfl) ?_
                                  refine va_get (D := (dC, dI)) (ci := 5) (v := .ref (h 16)) (C := RX5) (T := TX5) (N := 33) hx hb hts hin_X5 hown hK hP 0 rfl rfl 25 (by decide) hw7 (fun _ h9 => h9) rfl dX5_plan_190 ?_
                                  refine lv_iload_n hx hb dX5_plan_193 rfl (lv_at hl 6 rfl) ?_
                                  refine lv_iload_n hx hb dX5_plan_194 rfl (lv_at hl 7 rfl) ?_
                                  refine lv_iload hx hb dX5_plan_195 (lv_at hl 3 rfl) ?_
                                  refine lv_iconst (v := 1) hx hb dX5_plan_197 (by decide) ?_
                                  refine lv_icmp_ne (tgt := 205) hx hb dX5_plan_198 (by decide) (fun c_88 => ?_) (fun c_88 => ?_)
                                  · refine lv_iconst (v := 0) hx hb dX5_plan_205 (by decide) ?_
                                    refine cw_Si (As := [.int (nI j), .int (nI u), .int 0]) (rest := [.ref (h 16)]) (c_X5_state0 l dC dI cI cZ cJ (wM cI cZ cJ h F4 G (va_up V 0 0)) j u) fx (va_cwS 3 hts gX5_plan_X5_state rfl rfl rfl (by decide +kernel) ⟨Nat.le_of_ble_eq_true rfl, Nat.le_of_ble_eq_true rfl⟩) hK hP hD hS hA rfl hl.1 rfl (Nat.le_of_ble_eq_true rfl) dX5_plan_206 ⟨Nat.le_of_ble_eq_true rfl, Nat.le_of_ble_eq_true rfl⟩ (fun r_89 u_90 H locs hw_91 hP hD hS => ?_)
                                    have hP : va_P (dC, dI) vwCl (wM cI cZ cJ h F4 G (va_up V 0 0)) H := hP
                                    have hD : va_D A (wM cI cZ cJ h F4 G (va_up V 0 0)) := hD
                                    obtain rfl : r_89 = nI ((201 * j + u) * 2 + 0) := hw_91
                                    refine lv_iload hx hb dX5_plan_209 (lv_at hl 1 rfl) ?_
                                    refine va_iast hx hb hK hP hD hS 16 0 rfl rfl (vp_in_nI (n := (201 * j + u) * 2 + 0) (N := 10050) (by omega) (by decide)) dX5_plan_211 (fun H locs hP hD hS => ?_)
                                    obtain ⟨F_92, eF_92⟩ : ∃ z : Nat → Nat → Int32, z = va_up F4 16 (upd (F4 16) (nI ((201 * j + u) * 2 + 0)).toNatClampNeg x_82) := ⟨_, rfl⟩
                                    have hP : va_P (dC, dI) vwCl (wM cI cZ cJ h F_92 G (va_up V 0 0)) H := by rw [eF_92]; exact hP
                                    have hD : va_D A (wM cI cZ cJ h F_92 G (va_up V 0 0)) := by rw [eF_92]; exact hD
                                    have hF_93 : ∀ i, i < 24 → F_92 18 i = 0 := by rw [eF_92]; exact hq4
                                    have hz_94 : ∀ i, j + 1 ≤ i → i ≤ 24 → F_92 16 (402 * i) = 0 := fun i h1 h2 => by
                                      rw [eF_92]
                                      show upd (F4 16) (nI ((201 * j + u) * 2 + 0)).toNatClampNeg _ (402 * i) = 0
                                      rw [nI_clamp (by omega), pk_un (by omega)]
                                      exact hz4 i h1 h2
                                    have hy_95 : F_92 16 (402 * j) = 0 := by
                                      rw [eF_92]
                                      show upd (F4 16) (nI ((201 * j + u) * 2 + 0)).toNatClampNeg _ (402 * j) = 0
                                      rw [nI_clamp (by omega)]
                                      by_cases h : u = 0
                                      · rw [show (201 * j + u) * 2 + 0 = 402 * j by omega]
                                        refine pk_us.trans ?_
                                        rw [ex_82, nI_clamp (by omega)]; exact (congrArg (F4 16) (by omega)).trans (hz4 (j + 1) (by omega) (by omega))
                                      · rw [pk_un (by omega)]; exact hy4 (by omega)
                                    refine lv_iinc (v := 1) (lv' := [(4, .int 1), (7, .int 7), (6, .int x_82), (5, .int (nI (min 200 (u + 0)))), (0, .ref (h 0)), (1, .ref (h 18)), (2, .int (nI j)), (3, .int (nI u))]) hx hb dX5_plan_212 hl (k := 3) rfl (by decide) (by decide) rfl (fun ls hl => ?_)
                                    refine lv_goto (tgt := 102) hx hb dX5_plan_215 (by decide) ?_
                                    refine lv_iload hx hb dX5_plan_102 (lv_at hl 0 rfl) ?_
                                    refine lv_iconst (v := 2) hx hb dX5_plan_104 (by decide) ?_
                                    refine lv_icmp_ge (tgt := 218) hx hb dX5_plan_105 (by decide) (fun c_96 => ?_) (fun c_96 => ?_)
                                    · exact absurd c_96 (by decide)
                                    · refine lv_iload_n hx hb dX5_plan_108 rfl (lv_at hl 7 rfl) ?_
                                      refine lv_aload_n hx hb dX5_plan_109 rfl (lv_at hl 5 rfl) ?_
                                      refine lv_iload_n hx hb dX5_plan_110 rfl (lv_at hl 6 rfl) ?_
                                      refine va_iald hx hb hK hP 18 0 rfl rfl (vp_in_nI (n := j) (N := 24) (by omega) (by decide)) dX5_plan_111 ?_
                                      refine lv_topi (fun x_97 ex_97 => ?_)
                                      obtain rfl : x_97 = 0 := ex_97.trans ((congrArg (F_92 18) (show (nI j).toNatClampNeg = j from nI_clamp (n := j) (by omega))).trans (hF_93 j (by omega)))
                                      refine cw_Si (As := [.int (nI u), .int 0]) (rest := []) (c_X5_filled l dC dI cI cZ cJ (wM cI cZ cJ h F_92 G (va_up V 0 0)) u 0 (by omega)) fx (va_cwS 2 hts gX5_plan_X5_filled rfl rfl rfl (by decide +kernel) ⟨Nat.le_of_ble_eq_true rfl, Nat.le_of_ble_eq_true rfl⟩) hK hP hD hS hA rfl hl.1 rfl (Nat.le_of_ble_eq_true rfl) dX5_plan_112 ⟨Nat.le_of_ble_eq_true rfl, Nat.le_of_ble_eq_true rfl⟩ (fun r_98 u_99 H locs hw_100 hP hD hS => ?_)
                                      have hP : va_P (dC, dI) vwCl (wM cI cZ cJ h F_92 G (va_up V 0 0)) H := hP
                                      have hD : va_D A (wM cI cZ cJ h F_92 G (va_up V 0 0)) := hD
                                      obtain rfl : r_98 = nI (min 200 (u + 0)) := hw_100
                                      refine lv_istore (lv' := [(5, .int (nI (min 200 (u + 0)))), (4, .int 1), (7, .int 7), (6, .int x_82), (0, .ref (h 0)), (1, .ref (h 18)), (2, .int (nI j)), (3, .int (nI u))]) hx hb dX5_plan_115 hl (by decide) rfl (fun ls hl => ?_)
                                      refine lv_aload_n hx hb dX5_plan_117 rfl (lv_at hl 4 rfl) ?_
                                      refine va_get (D := (dC, dI)) (ci := 5) (v := .ref (h 16)) (C := RX5) (T := TX5) (N := 33) hx hb hts hin_X5 hown hK hP 0 rfl rfl 25 (by decide) hw7 (fun _ h9 => h9) rfl dX5_plan_118 ?_
                                      refine lv_iload_n hx hb dX5_plan_121 rfl (lv_at hl 6 rfl) ?_
                                      refine lv_iconst (v := 1) hx hb dX5_plan_122 (by decide) ?_
                                      refine lv_iadd hx hb dX5_plan_123 ?_
                                      refine lv_topi (fun x_101 ex_101 => ?_)
                                      obtain rfl : x_101 = nI (j + 1) := ex_101.trans (nI_add j 1)
                                      refine lv_iload hx hb dX5_plan_124 (lv_at hl 0 rfl) ?_
                                      refine lv_iconst (v := 0) hx hb dX5_plan_126 (by decide) ?_
                                      refine cw_Si (As := [.int (nI (j + 1)), .int (nI (min 200 (u + 0))), .int 0]) (rest := [.ref (h 16)]) (c_X5_state0 l dC dI cI cZ cJ (wM cI cZ cJ h F_92 G (va_up V 0 0)) (j + 1) (min 200 (u + 0))) fx (va_cwS 3 hts gX5_plan_X5_state rfl rfl rfl (by decide +kernel) ⟨Nat.le_of_ble_eq_true rfl, Nat.le_of_ble_eq_true rfl⟩) hK hP hD hS hA rfl hl.1 rfl (Nat.le_of_ble_eq_true rfl) dX5_plan_127 ⟨Nat.le_of_ble_eq_true rfl, Nat.le_of_ble_eq_true rfl⟩ (fun r_102 u_103 H locs hw_104 hP hD hS => ?_)
                                      have hP : va_P (dC, dI) vwCl (wM cI cZ cJ h F_92 G (va_up V 0 0)) H := hP
                                      have hD : va_D A (wM cI cZ cJ h F_92 G (va_up V 0 0)) := hD
                                      obtain rfl : r_102 = nI ((201 * (j + 1) + (min 200 (u + 0))) * 2 + 0) := hw_104
                                      refine va_iald hx hb hK hP 16 0 rfl rfl (vp_in_nI (n := (201 * (j + 1) + (min 200 (u + 0))) * 2 + 0) (N := 10050) (by omega) (by decide)) dX5_plan_130 ?_
                                      refine lv_topi (fun x_105 ex_105 => ?_)
                                      refine lv_istore (lv' := [(6, .int x_105), (5, .int (nI (min 200 (u + 0)))), (4, .int 1), (7, .int 7), (0, .ref (h 0)), (1, .ref (h 18)), (2, .int (nI j)), (3, .int (nI u))]) hx hb dX5_plan_131 hl (by decide) rfl (fun ls hl => ?_)
                                      refine lv_iload hx hb dX5_plan_133 (lv_at hl 2 rfl) ?_
                                      refine lv_iconst (v := 1) hx hb dX5_plan_135 (by decide) ?_
                                      refine lv_icmp_ne (tgt := 143) hx hb dX5_plan_136 (by decide) (fun c_106 => ?_) (fun c_106 => ?_)
                                      · exact absurd c_106 (by decide)
                                      · refine lv_iconst (v := 1) hx hb dX5_plan_139 (by decide) ?_
                                        refine lv_goto (tgt := 144) hx hb dX5_plan_140 (by decide) ?_
                                        refine cw_Si (As := [.int 1]) (rest := []) (c_X5_takes l dC dI cI cZ cJ (wM cI cZ cJ h F_92 G (va_up V 0 0)) 1) fx (va_cwS 1 hts gX5_plan_X5_takes rfl rfl rfl (by decide +kernel) ⟨Nat.le_of_ble_eq_true rfl, Nat.le_of_ble_eq_true rfl⟩) hK hP hD hS hA rfl hl.1 rfl (Nat.le_of_ble_eq_true rfl) dX5_plan_144 ⟨Nat.le_of_ble_eq_true rfl, Nat.le_of_ble_eq_true rfl⟩ (fun r_107 u_108 H locs hw_109 hP hD hS => ?_)
                                        have hP : va_P (dC, dI) vwCl (wM cI cZ cJ h F_92 G (va_up V 0 0)) H := hP
                                        have hD : va_D A (wM cI cZ cJ h F_92 G (va_up V 0 0)) := hD
                                        obtain rfl : r_107 = 5 := Eq.trans hw_109 (by decide)
                                        refine lv_istore (lv' := [(7, .int 5), (6, .int x_105), (5, .int (nI (min 200 (u + 0)))), (4, .int 1), (0, .ref (h 0)), (1, .ref (h 18)), (2, .int (nI j)), (3, .int (nI u))]) hx hb dX5_plan_147 hl (by decide) rfl (fun ls hl => ?_)
                                        refine lv_iload hx hb dX5_plan_149 (lv_at hl 2 rfl) ?_
                                        refine lv_iload hx hb dX5_plan_151 (lv_at hl 0 rfl) ?_
                                        refine lv_icmp_lt (tgt := 189) hx hb dX5_plan_153 (by decide) (fun c_110 => ?_) (fun c_110 => ?_)
                                        · have c_110 : (min 200 (u + 0)) < 5 := (nI_ltI (a := min 200 (u + 0)) (b := 5) (by omega) (by omega)).mp c_110
                                          refine lv_aload_n hx hb dX5_plan_189 rfl (lv_at hl 4 rfl) ?_
                                          refine va_get (D := (dC, dI)) (ci := 5) (v := .ref (h 16)) (C := RX5) (T := TX5) (N := 33) hx hb hts hin_X5 hown hK hP 0 rfl rfl 25 (by decide) hw7 (fun _ h9 => h9) rfl dX5_plan_190 ?_
                                          refine lv_iload_n hx hb dX5_plan_193 rfl (lv_at hl 6 rfl) ?_
                                          refine lv_iload_n hx hb dX5_plan_194 rfl (lv_at hl 7 rfl) ?_
                                          refine lv_iload hx hb dX5_plan_195 (lv_at hl 3 rfl) ?_
                                          refine lv_iconst (v := 1) hx hb dX5_plan_197 (by decide) ?_
                                          refine lv_icmp_ne (tgt := 205) hx hb dX5_plan_198 (by decide) (fun c_111 => ?_) (fun c_111 => ?_)
                                          · exact absurd c_111 (by decide)
                                          · refine lv_iconst (v := 1) hx hb dX5_plan_201 (by decide) ?_
                                            refine lv_goto (tgt := 206) hx hb dX5_plan_202 (by decide) ?_
                                            refine cw_Si (As := [.int (nI j), .int (nI u), .int 1]) (rest := [.ref (h 16)]) (c_X5_state1 l dC dI cI cZ cJ (wM cI cZ cJ h F_92 G (va_up V 0 0)) j u) fx (va_cwS 3 hts gX5_plan_X5_state rfl rfl rfl (by decide +kernel) ⟨Nat.le_of_ble_eq_true rfl, Nat.le_of_ble_eq_true rfl⟩) hK hP hD hS hA rfl hl.1 rfl (Nat.le_of_ble_eq_true rfl) dX5_plan_206 ⟨Nat.le_of_ble_eq_true rfl, Nat.le_of_ble_eq_true rfl⟩ (fun r_112 u_113 H locs hw_114 hP hD hS => ?_)
                                            have hP : va_P (dC, dI) vwCl (wM cI cZ cJ h F_92 G (va_up V 0 0)) H := hP
                                            have hD : va_D A (wM cI cZ cJ h F_92 G (va_up V 0 0)) := hD
                                            obtain rfl : r_112 = nI ((201 * j + u) * 2 + 1) := hw_114
                                            refine lv_iload hx hb dX5_plan_209 (lv_at hl 1 rfl) ?_
                                            refine va_iast hx hb hK hP hD hS 16 0 rfl rfl (vp_in_nI (n := (201 * j + u) * 2 + 1) (N := 10050) (by omega) (by decide)) dX5_plan_211 (fun H locs hP hD hS => ?_)
                                            obtain ⟨F_115, eF_115⟩ : ∃ z : Nat → Nat → Int32, z = va_up F_92 16 (upd (F_92 16) (nI ((201 * j + u) * 2 + 1)).toNatClampNeg x_105) := ⟨_, rfl⟩
                                            have hP : va_P (dC, dI) vwCl (wM cI cZ cJ h F_115 G (va_up V 0 0)) H := by rw [eF_115]; exact hP
                                            have hD : va_D A (wM cI cZ cJ h F_115 G (va_up V 0 0)) := by rw [eF_115]; exact hD
                                            have hF_116 : ∀ i, i < 24 → F_115 18 i = 0 := by rw [eF_115]; exact hF_93
                                            have hz_117 : ∀ i, j + 1 ≤ i → i ≤ 24 → F_115 16 (402 * i) = 0 := fun i h1 h2 => by
                                              rw [eF_115]
                                              show upd (F_92 16) (nI ((201 * j + u) * 2 + 1)).toNatClampNeg _ (402 * i) = 0
                                              rw [nI_clamp (by omega), pk_un (by omega)]
                                              exact hz_94 i h1 h2
                                            have hy_118 : F_115 16 (402 * j) = 0 := by
                                              rw [eF_115]
                                              show upd (F_92 16) (nI ((201 * j + u) * 2 + 1)).toNatClampNeg _ (402 * j) = 0
                                              rw [nI_clamp (by omega), pk_un (by omega)]
                                              exact hy_95
                                            refine lv_iinc (v := 2) (lv' := [(4, .int 2), (7, .int 5), (6, .int x_105), (5, .int (nI (min 200 (u + 0)))), (0, .ref (h 0)), (1, .ref (h 18)), (2, .int (nI j)), (3, .int (nI u))]) hx hb dX5_plan_212 hl (k := 3) rfl (by decide) (by decide) rfl (fun ls hl => ?_)
                                            refine lv_goto (tgt := 102) hx hb dX5_plan_215 (by decide) ?_
                                            refine lv_iload hx hb dX5_plan_102 (lv_at hl 0 rfl) ?_
                                            refine lv_iconst (v := 2) hx hb dX5_plan_104 (by decide) ?_
                                            refine lv_icmp_ge (tgt := 218) hx hb dX5_plan_105 (by decide) (fun c_119 => ?_) (fun c_119 => ?_)
                                            · refine lv_iinc (v := nI (u + 1)) (lv' := [(3, .int (nI (u + 1))), (4, .int 2), (7, .int 5), (6, .int x_105), (5, .int (nI (min 200 (u + 0)))), (0, .ref (h 0)), (1, .ref (h 18)), (2, .int (nI j))]) hx hb dX5_plan_218 hl (k := 7) rfl (nI_1 _) (by decide) rfl (fun ls hl => ?_)
                                              refine lv_goto (tgt := 92) hx hb dX5_plan_221 (by decide) ?_
                                              exact ih92 (u + 1) F_115 (by omega) hF_116 hz_117 (fun _ => hy_118) (by omega) H locs ls hP hD hS (lv_sub hl [5, 6, 7, 0] rfl)
                                            · exact absurd c_119 (by decide)
                                        · have c_110 : ¬ (min 200 (u + 0)) < 5 := fun h => c_110 ((nI_ltI (a := min 200 (u + 0)) (b := 5) (by omega) (by omega)).mpr h)
                                          refine lv_iload hx hb dX5_plan_156 (lv_at hl 1 rfl) ?_
                                          refine lv_iconst (v := 5) hx hb dX5_plan_158 (by decide) ?_
                                          refine lv_aload_n hx hb dX5_plan_159 rfl (lv_at hl 4 rfl) ?_
                                          refine va_get (D := (dC, dI)) (ci := 5) (v := .ref (h 9)) (C := RX5) (T := TX5) (N := 33) hx hb hts hin_X5 hown hK hP 0 rfl rfl 16 (by decide) hw9 (fun _ h9 => h9) rfl dX5_plan_160 ?_
                                          refine lv_iload_n hx hb dX5_plan_163 rfl (lv_at hl 6 rfl) ?_
                                          refine va_iald hx hb hK hP 9 0 rfl rfl (vp_in_nI (n := j) (N := 24) (by omega) (by decide)) dX5_plan_164 ?_
                                          refine lv_topi (fun x_120 ex_120 => ?_)
                                          refine lv_imul hx hb dX5_plan_165 ?_
                                          refine lv_aload_n hx hb dX5_plan_166 rfl (lv_at hl 4 rfl) ?_
                                          refine va_get (D := (dC, dI)) (ci := 5) (v := .ref (h 16)) (C := RX5) (T := TX5) (N := 33) hx hb hts hin_X5 hown hK hP 0 rfl rfl 25 (by decide) hw7 (fun _ h9 => h9) rfl dX5_plan_167 ?_
                                          refine lv_iload_n hx hb dX5_plan_170 rfl (lv_at hl 6 rfl) ?_
                                          refine lv_iconst (v := 1) hx hb dX5_plan_171 (by decide) ?_
                                          refine lv_iadd hx hb dX5_plan_172 ?_
                                          refine lv_topi (fun x_121 ex_121 => ?_)
                                          obtain rfl : x_121 = nI (j + 1) := ex_121.trans (nI_add j 1)
                                          refine lv_iload hx hb dX5_plan_173 (lv_at hl 2 rfl) ?_
                                          refine lv_iload hx hb dX5_plan_175 (lv_at hl 0 rfl) ?_
                                          refine lv_isub hx hb dX5_plan_177 ?_
                                          refine lv_topi (fun x_122 ex_122 => ?_)
                                          obtain rfl : x_122 = nI ((min 200 (u + 0)) - 5) := ex_122.trans (pk_sub (a := min 200 (u + 0)) (b := 5) (by omega))
                                          refine lv_iconst (v := 1) hx hb dX5_plan_178 (by decide) ?_
                                          refine cw_Si (As := [.int (nI (j + 1)), .int (nI ((min 200 (u + 0)) - 5)), .int 1]) (rest := [.ref (h 16), .int (5 * x_120), .int x_105]) (c_X5_state1 l dC dI cI cZ cJ (wM cI cZ cJ h F_92 G (va_up V 0 0)) (j + 1) ((min 200 (u + 0)) - 5)) fx (va_cwS 3 hts gX5_plan_X5_state rfl rfl rfl (by decide +kernel) ⟨Nat.le_of_ble_eq_true rfl, Nat.le_of_ble_eq_true rfl⟩) hK hP hD hS hA rfl hl.1 rfl (Nat.le_of_ble_eq_true rfl) dX5_plan_179 ⟨Nat.le_of_ble_eq_true rfl, Nat.le_of_ble_eq_true rfl⟩ (fun r_123 u_124 H locs hw_125 hP hD hS => ?_)
                                          have hP : va_P (dC, dI) vwCl (wM cI cZ cJ h F_92 G (va_up V 0 0)) H := hP
                                          have hD : va_D A (wM cI cZ cJ h F_92 G (va_up V 0 0)) := hD
                                          obtain rfl : r_123 = nI ((201 * (j + 1) + ((min 200 (u + 0)) - 5)) * 2 + 1) := hw_125
                                          refine va_iald hx hb hK hP 16 0 rfl rfl (vp_in_nI (n := (201 * (j + 1) + ((min 200 (u + 0)) - 5)) * 2 + 1) (N := 10050) (by omega) (by decide)) dX5_plan_182 ?_
                                          refine lv_topi (fun x_126 ex_126 => ?_)
                                          refine lv_iadd hx hb dX5_plan_183 ?_
                                          refine va_mmax hx hb (hml.trans hl.1.symm) hown hw10 hw11 hw12 hw13 (Nat.le_of_ble_eq_true rfl) (Nat.le_of_ble_eq_true rfl) (Nat.le_of_ble_eq_true rfl) (Nat.le_of_ble_eq_true rfl) dX5_plan_184 ?_
                                          refine lv_topi (fun x_127 ex_127 => ?_)
                                          refine lv_istore (lv' := [(6, .int x_127), (7, .int 5), (5, .int (nI (min 200 (u + 0)))), (4, .int 1), (0, .ref (h 0)), (1, .ref (h 18)), (2, .int (nI j)), (3, .int (nI u))]) hx hb dX5_plan_187 hl (by decide) rfl (fun ls hl => ?_)
                                          refine lv_aload_n hx hb dX5_plan_189 rfl (lv_at hl 4 rfl) ?_
                                          refine va_get (D := (dC, dI)) (ci := 5) (v := .ref (h 16)) (C := RX5) (T := TX5) (N := 33) hx hb hts hin_X5 hown hK hP 0 rfl rfl 25 (by decide) hw7 (fun _ h9 => h9) rfl dX5_plan_190 ?_
                                          refine lv_iload_n hx hb dX5_plan_193 rfl (lv_at hl 6 rfl) ?_
                                          refine lv_iload_n hx hb dX5_plan_194 rfl (lv_at hl 7 rfl) ?_
                                          refine lv_iload hx hb dX5_plan_195 (lv_at hl 3 rfl) ?_
                                          refine lv_iconst (v := 1) hx hb dX5_plan_197 (by decide) ?_
                                          refine lv_icmp_ne (tgt := 205) hx hb dX5_plan_198 (by decide) (fun c_128 => ?_) (fun c_128 => ?_)
                                          · exact absurd c_128 (by decide)
                                          · refine lv_iconst (v := 1) hx hb dX5_plan_201 (by decide) ?_
                                            refine lv_goto (tgt := 206) hx hb dX5_plan_202 (by decide) ?_
                                            refine cw_Si (As := [.int (nI j), .int (nI u), .int 1]) (rest := [.ref (h 16)]) (c_X5_state1 l dC dI cI cZ cJ (wM cI cZ cJ h F_92 G (va_up V 0 0)) j u) fx (va_cwS 3 hts gX5_plan_X5_state rfl rfl rfl (by decide +kernel) ⟨Nat.le_of_ble_eq_true rfl, Nat.le_of_ble_eq_true rfl⟩) hK hP hD hS hA rfl hl.1 rfl (Nat.le_of_ble_eq_true rfl) dX5_plan_206 ⟨Nat.le_of_ble_eq_true rfl, Nat.le_of_ble_eq_true rfl⟩ (fun r_129 u_130 H locs hw_131 hP hD hS => ?_)
                                            have hP : va_P (dC, dI) vwCl (wM cI cZ cJ h F_92 G (va_up V 0 0)) H := hP
                                            have hD : va_D A (wM cI cZ cJ h F_92 G (va_up V 0 0)) := hD
                                            obtain rfl : r_129 = nI ((201 * j + u) * 2 + 1) := hw_131
                                            refine lv_iload hx hb dX5_plan_209 (lv_at hl 0 rfl) ?_
                                            refine va_iast hx hb hK hP hD hS 16 0 rfl rfl (vp_in_nI (n := (201 * j + u) * 2 + 1) (N := 10050) (by omega) (by decide)) dX5_plan_211 (fun H locs hP hD hS => ?_)
                                            obtain ⟨F_132, eF_132⟩ : ∃ z : Nat → Nat → Int32, z = va_up F_92 16 (upd (F_92 16) (nI ((201 * j + u) * 2 + 1)).toNatClampNeg x_127) := ⟨_, rfl⟩
                                            have hP : va_P (dC, dI) vwCl (wM cI cZ cJ h F_132 G (va_up V 0 0)) H := by rw [eF_132]; exact hP
                                            have hD : va_D A (wM cI cZ cJ h F_132 G (va_up V 0 0)) := by rw [eF_132]; exact hD
                                            have hF_133 : ∀ i, i < 24 → F_132 18 i = 0 := by rw [eF_132]; exact hF_93
                                            have hz_134 : ∀ i, j + 1 ≤ i → i ≤ 24 → F_132 16 (402 * i) = 0 := fun i h1 h2 => by
                                              rw [eF_132]
                                              show upd (F_92 16) (nI ((201 * j + u) * 2 + 1)).toNatClampNeg _ (402 * i) = 0
                                              rw [nI_clamp (by omega), pk_un (by omega)]
                                              exact hz_94 i h1 h2
                                            have hy_135 : F_132 16 (402 * j) = 0 := by
                                              rw [eF_132]
                                              show upd (F_92 16) (nI ((201 * j + u) * 2 + 1)).toNatClampNeg _ (402 * j) = 0
                                              rw [nI_clamp (by omega), pk_un (by omega)]
                                              exact hy_95
                                            refine lv_iinc (v := 2) (lv' := [(4, .int 2), (6, .int x_127), (7, .int 5), (5, .int (nI (min 200 (u + 0)))), (0, .ref (h 0)), (1, .ref (h 18)), (2, .int (nI j)), (3, .int (nI u))]) hx hb dX5_plan_212 hl (k := 3) rfl (by decide) (by decide) rfl (fun ls hl => ?_)
                                            refine lv_goto (tgt := 102) hx hb dX5_plan_215 (by decide) ?_
                                            refine lv_iload hx hb dX5_plan_102 (lv_at hl 0 rfl) ?_
                                            refine lv_iconst (v := 2) hx hb dX5_plan_104 (by decide) ?_
                                            refine lv_icmp_ge (tgt := 218) hx hb dX5_plan_105 (by decide) (fun c_136 => ?_) (fun c_136 => ?_)
                                            · refine lv_iinc (v := nI (u + 1)) (lv' := [(3, .int (nI (u + 1))), (4, .int 2), (6, .int x_127), (7, .int 5), (5, .int (nI (min 200 (u + 0)))), (0, .ref (h 0)), (1, .ref (h 18)), (2, .int (nI j))]) hx hb dX5_plan_218 hl (k := 7) rfl (nI_1 _) (by decide) rfl (fun ls hl => ?_)
                                              refine lv_goto (tgt := 92) hx hb dX5_plan_221 (by decide) ?_
                                              exact ih92 (u + 1) F_132 (by omega) hF_133 hz_134 (fun _ => hy_135) (by omega) H locs ls hP hD hS (lv_sub hl [5, 6, 7, 0] rfl)
                                            · exact absurd c_136 (by decide)
                                  · exact absurd c_88 (by decide)
                                · have c_87 : ¬ (min 200 (u + 0)) < 7 := fun h => c_87 ((nI_ltI (a := min 200 (u + 0)) (b := 7) (by omega) (by omega)).mpr h)
                                  refine lv_iload hx hb dX5_plan_156 (lv_at hl 1 rfl) ?_
                                  refine lv_iconst (v := 5) hx hb dX5_plan_158 (by decide) ?_
                                  refine lv_aload_n hx hb dX5_plan_159 rfl (lv_at hl 4 rfl) ?_
                                  refine va_get (D := (dC, dI)) (ci := 5) (v := .ref (h 9)) (C := RX5) (T := TX5) (N := 33) hx hb hts hin_X5 hown hK hP 0 rfl rfl 16 (by decide) hw9 (fun _ h9 => h9) rfl dX5_plan_160 ?_
                                  refine lv_iload_n hx hb dX5_plan_163 rfl (lv_at hl 6 rfl) ?_
                                  refine va_iald hx hb hK hP 9 0 rfl rfl (vp_in_nI (n := j) (N := 24) (by omega) (by decide)) dX5_plan_164 ?_
                                  refine lv_topi (fun x_137 ex_137 => ?_)
                                  refine lv_imul hx hb dX5_plan_165 ?_
                                  refine lv_aload_n hx hb dX5_plan_166 rfl (lv_at hl 4 rfl) ?_
                                  refine va_get (D := (dC, dI)) (ci := 5) (v := .ref (h 16)) (C := RX5) (T := TX5) (N := 33) hx hb hts hin_X5 hown hK hP 0 rfl rfl 25 (by decide) hw7 (fun _ h9 => h9) rfl dX5_plan_167 ?_
                                  refine lv_iload_n hx hb dX5_plan_170 rfl (lv_at hl 6 rfl) ?_
                                  refine lv_iconst (v := 1) hx hb dX5_plan_171 (by decide) ?_
                                  refine lv_iadd hx hb dX5_plan_172 ?_
                                  refine lv_topi (fun x_138 ex_138 => ?_)
                                  obtain rfl : x_138 = nI (j + 1) := ex_138.trans (nI_add j 1)
                                  refine lv_iload hx hb dX5_plan_173 (lv_at hl 2 rfl) ?_
                                  refine lv_iload hx hb dX5_plan_175 (lv_at hl 0 rfl) ?_
                                  refine lv_isub hx hb dX5_plan_177 ?_
                                  refine lv_topi (fun x_139 ex_139 => ?_)
                                  obtain rfl : x_139 = nI ((min 200 (u + 0)) - 7) := ex_139.trans (pk_sub (a := min 200 (u + 0)) (b := 7) (by omega))
                                  refine lv_iconst (v := 1) hx hb dX5_plan_178 (by decide) ?_
                                  refine cw_Si (As := [.int (nI (j + 1)), .int (nI ((min 200 (u + 0)) - 7)), .int 1]) (rest := [.ref (h 16), .int (5 * x_137), .int x_82]) (c_X5_state1 l dC dI cI cZ cJ (wM cI cZ cJ h F4 G (va_up V 0 0)) (j + 1) ((min 200 (u + 0)) - 7)) fx (va_cwS 3 hts gX5_plan_X5_state rfl rfl rfl (by decide +kernel) ⟨Nat.le_of_ble_eq_true rfl, Nat.le_of_ble_eq_true rfl⟩) hK hP hD hS hA rfl hl.1 rfl (Nat.le_of_ble_eq_true rfl) dX5_plan_179 ⟨Nat.le_of_ble_eq_true rfl, Nat.le_of_ble_eq_true rfl⟩ (fun r_140 u_141 H locs hw_142 hP hD hS => ?_)
                                  have hP : va_P (dC, dI) vwCl (wM cI cZ cJ h F4 G (va_up V 0 0)) H := hP
                                  have hD : va_D A (wM cI cZ cJ h F4 G (va_up V 0 0)) := hD
                                  obtain rfl : r_140 = nI ((201 * (j + 1) + ((min 200 (u + 0)) - 7)) * 2 + 1) := hw_142
                                  refine va_iald hx hb hK hP 16 0 rfl rfl (vp_in_nI (n := (201 * (j + 1) + ((min 200 (u + 0)) - 7)) * 2 + 1) (N := 10050) (by omega) (by decide)) dX5_plan_182 ?_
                                  refine lv_topi (fun x_143 ex_143 => ?_)
                                  refine lv_iadd hx hb dX5_plan_183 ?_
                                  refine va_mmax hx hb (hml.trans hl.1.symm) hown hw10 hw11 hw12 hw13 (Nat.le_of_ble_eq_true rfl) (Nat.le_of_ble_eq_true rfl) (Nat.le_of_ble_eq_true rfl) (Nat.le_of_ble_eq_true rfl) dX5_plan_184 ?_
                                  refine lv_topi (fun x_144 ex_144 => ?_)
                                  refine lv_istore (lv' := [(6, .int x_144), (7, .int 7), (5, .int (nI (min 200 (u + 0)))), (4, .int 0), (0, .ref (h 0)), (1, .ref (h 18)), (2, .int (nI j)), (3, .int (nI u))]) hx hb dX5_plan_187 hl (by decide) rfl (fun ls hl => ?_)
                                  refine lv_aload_n hx hb dX5_plan_189 rfl (lv_at hl 4 rfl) ?_
                                  refine va_get (D := (dC, dI)) (ci := 5) (v := .ref (h 16)) (C := RX5) (T := TX5) (N := 33) hx hb hts hin_X5 hown hK hP 0 rfl rfl 25 (by decide) hw7 (fun _ h9 => h9) rfl dX5_plan_190 ?_
                                  refine lv_iload_n hx hb dX5_plan_193 rfl (lv_at hl 6 rfl) ?_
                                  refine lv_iload_n hx hb dX5_plan_194 rfl (lv_at hl 7 rfl) ?_
                                  refine lv_iload hx hb dX5_plan_195 (lv_at hl 3 rfl) ?_
                                  refine lv_iconst (v := 1) hx hb dX5_plan_197 (by decide) ?_
                                  refine lv_icmp_ne (tgt := 205) hx hb dX5_plan_198 (by decide) (fun c_145 => ?_) (fun c_145 => ?_)
                                  · refine lv_iconst (v := 0) hx hb dX5_plan_205 (by decide) ?_
                                    refine cw_Si (As := [.int (nI j), .int (nI u), .int 0]) (rest := [.ref (h 16)]) (c_X5_state0 l dC dI cI cZ cJ (wM cI cZ cJ h F4 G (va_up V 0 0)) j u) fx (va_cwS 3 hts gX5_plan_X5_state rfl rfl rfl (by decide +kernel) ⟨Nat.le_of_ble_eq_true rfl, Nat.le_of_ble_eq_true rfl⟩) hK hP hD hS hA rfl hl.1 rfl (Nat.le_of_ble_eq_true rfl) dX5_plan_206 ⟨Nat.le_of_ble_eq_true rfl, Nat.le_of_ble_eq_true rfl⟩ (fun r_146 u_147 H locs hw_148 hP hD hS => ?_)
                                    have hP : va_P (dC, dI) vwCl (wM cI cZ cJ h F4 G (va_up V 0 0)) H := hP
                                    have hD : va_D A (wM cI cZ cJ h F4 G (va_up V 0 0)) := hD
                                    obtain rfl : r_146 = nI ((201 * j + u) * 2 + 0) := hw_148
                                    refine lv_iload hx hb dX5_plan_209 (lv_at hl 0 rfl) ?_
                                    refine va_iast hx hb hK hP hD hS 16 0 rfl rfl (vp_in_nI (n := (201 * j + u) * 2 + 0) (N := 10050) (by omega) (by decide)) dX5_plan_211 (fun H locs hP hD hS => ?_)
                                    obtain ⟨F_149, eF_149⟩ : ∃ z : Nat → Nat → Int32, z = va_up F4 16 (upd (F4 16) (nI ((201 * j + u) * 2 + 0)).toNatClampNeg x_144) := ⟨_, rfl⟩
                                    have hP : va_P (dC, dI) vwCl (wM cI cZ cJ h F_149 G (va_up V 0 0)) H := by rw [eF_149]; exact hP
                                    have hD : va_D A (wM cI cZ cJ h F_149 G (va_up V 0 0)) := by rw [eF_149]; exact hD
                                    have hF_150 : ∀ i, i < 24 → F_149 18 i = 0 := by rw [eF_149]; exact hq4
                                    have hz_151 : ∀ i, j + 1 ≤ i → i ≤ 24 → F_149 16 (402 * i) = 0 := fun i h1 h2 => by
                                      rw [eF_149]
                                      show upd (F4 16) (nI ((201 * j + u) * 2 + 0)).toNatClampNeg _ (402 * i) = 0
                                      rw [nI_clamp (by omega), pk_un (by omega)]
                                      exact hz4 i h1 h2
                                    have hy_152 : F_149 16 (402 * j) = 0 := by
                                      rw [eF_149]
                                      show upd (F4 16) (nI ((201 * j + u) * 2 + 0)).toNatClampNeg _ (402 * j) = 0
                                      rw [nI_clamp (by omega)]
                                      by_cases h : u = 0
                                      · rw [show (201 * j + u) * 2 + 0 = 402 * j by omega]
                                        refine pk_us.trans ?_
                                        exact absurd h (by omega)
                                      · rw [pk_un (by omega)]; exact hy4 (by omega)
                                    refine lv_iinc (v := 1) (lv' := [(4, .int 1), (6, .int x_144), (7, .int 7), (5, .int (nI (min 200 (u + 0)))), (0, .ref (h 0)), (1, .ref (h 18)), (2, .int (nI j)), (3, .int (nI u))]) hx hb dX5_plan_212 hl (k := 3) rfl (by decide) (by decide) rfl (fun ls hl => ?_)
                                    refine lv_goto (tgt := 102) hx hb dX5_plan_215 (by decide) ?_
                                    refine lv_iload hx hb dX5_plan_102 (lv_at hl 0 rfl) ?_
                                    refine lv_iconst (v := 2) hx hb dX5_plan_104 (by decide) ?_
                                    refine lv_icmp_ge (tgt := 218) hx hb dX5_plan_105 (by decide) (fun c_153 => ?_) (fun c_153 => ?_)
                                    · exact absurd c_153 (by decide)
                                    · refine lv_iload_n hx hb dX5_plan_108 rfl (lv_at hl 7 rfl) ?_
                                      refine lv_aload_n hx hb dX5_plan_109 rfl (lv_at hl 5 rfl) ?_
                                      refine lv_iload_n hx hb dX5_plan_110 rfl (lv_at hl 6 rfl) ?_
                                      refine va_iald hx hb hK hP 18 0 rfl rfl (vp_in_nI (n := j) (N := 24) (by omega) (by decide)) dX5_plan_111 ?_
                                      refine lv_topi (fun x_154 ex_154 => ?_)
                                      obtain rfl : x_154 = 0 := ex_154.trans ((congrArg (F_149 18) (show (nI j).toNatClampNeg = j from nI_clamp (n := j) (by omega))).trans (hF_150 j (by omega)))
                                      refine cw_Si (As := [.int (nI u), .int 0]) (rest := []) (c_X5_filled l dC dI cI cZ cJ (wM cI cZ cJ h F_149 G (va_up V 0 0)) u 0 (by omega)) fx (va_cwS 2 hts gX5_plan_X5_filled rfl rfl rfl (by decide +kernel) ⟨Nat.le_of_ble_eq_true rfl, Nat.le_of_ble_eq_true rfl⟩) hK hP hD hS hA rfl hl.1 rfl (Nat.le_of_ble_eq_true rfl) dX5_plan_112 ⟨Nat.le_of_ble_eq_true rfl, Nat.le_of_ble_eq_true rfl⟩ (fun r_155 u_156 H locs hw_157 hP hD hS => ?_)
                                      have hP : va_P (dC, dI) vwCl (wM cI cZ cJ h F_149 G (va_up V 0 0)) H := hP
                                      have hD : va_D A (wM cI cZ cJ h F_149 G (va_up V 0 0)) := hD
                                      obtain rfl : r_155 = nI (min 200 (u + 0)) := hw_157
                                      refine lv_istore (lv' := [(5, .int (nI (min 200 (u + 0)))), (4, .int 1), (6, .int x_144), (7, .int 7), (0, .ref (h 0)), (1, .ref (h 18)), (2, .int (nI j)), (3, .int (nI u))]) hx hb dX5_plan_115 hl (by decide) rfl (fun ls hl => ?_)
                                      refine lv_aload_n hx hb dX5_plan_117 rfl (lv_at hl 4 rfl) ?_
                                      refine va_get (D := (dC, dI)) (ci := 5) (v := .ref (h 16)) (C := RX5) (T := TX5) (N := 33) hx hb hts hin_X5 hown hK hP 0 rfl rfl 25 (by decide) hw7 (fun _ h9 => h9) rfl dX5_plan_118 ?_
                                      refine lv_iload_n hx hb dX5_plan_121 rfl (lv_at hl 6 rfl) ?_
                                      refine lv_iconst (v := 1) hx hb dX5_plan_122 (by decide) ?_
                                      refine lv_iadd hx hb dX5_plan_123 ?_
                                      refine lv_topi (fun x_158 ex_158 => ?_)
                                      obtain rfl : x_158 = nI (j + 1) := ex_158.trans (nI_add j 1)
                                      refine lv_iload hx hb dX5_plan_124 (lv_at hl 0 rfl) ?_
                                      refine lv_iconst (v := 0) hx hb dX5_plan_126 (by decide) ?_
                                      refine cw_Si (As := [.int (nI (j + 1)), .int (nI (min 200 (u + 0))), .int 0]) (rest := [.ref (h 16)]) (c_X5_state0 l dC dI cI cZ cJ (wM cI cZ cJ h F_149 G (va_up V 0 0)) (j + 1) (min 200 (u + 0))) fx (va_cwS 3 hts gX5_plan_X5_state rfl rfl rfl (by decide +kernel) ⟨Nat.le_of_ble_eq_true rfl, Nat.le_of_ble_eq_true rfl⟩) hK hP hD hS hA rfl hl.1 rfl (Nat.le_of_ble_eq_true rfl) dX5_plan_127 ⟨Nat.le_of_ble_eq_true rfl, Nat.le_of_ble_eq_true rfl⟩ (fun r_159 u_160 H locs hw_161 hP hD hS => ?_)
                                      have hP : va_P (dC, dI) vwCl (wM cI cZ cJ h F_149 G (va_up V 0 0)) H := hP
                                      have hD : va_D A (wM cI cZ cJ h F_149 G (va_up V 0 0)) := hD
                                      obtain rfl : r_159 = nI ((201 * (j + 1) + (min 200 (u + 0))) * 2 + 0) := hw_161
                                      refine va_iald hx hb hK hP 16 0 rfl rfl (vp_in_nI (n := (201 * (j + 1) + (min 200 (u + 0))) * 2 + 0) (N := 10050) (by omega) (by decide)) dX5_plan_130 ?_
                                      refine lv_topi (fun x_162 ex_162 => ?_)
                                      refine lv_istore (lv' := [(6, .int x_162), (5, .int (nI (min 200 (u + 0)))), (4, .int 1), (7, .int 7), (0, .ref (h 0)), (1, .ref (h 18)), (2, .int (nI j)), (3, .int (nI u))]) hx hb dX5_plan_131 hl (by decide) rfl (fun ls hl => ?_)
                                      refine lv_iload hx hb dX5_plan_133 (lv_at hl 2 rfl) ?_
                                      refine lv_iconst (v := 1) hx hb dX5_plan_135 (by decide) ?_
                                      refine lv_icmp_ne (tgt := 143) hx hb dX5_plan_136 (by decide) (fun c_163 => ?_) (fun c_163 => ?_)
                                      · exact absurd c_163 (by decide)
                                      · refine lv_iconst (v := 1) hx hb dX5_plan_139 (by decide) ?_
                                        refine lv_goto (tgt := 144) hx hb dX5_plan_140 (by decide) ?_
                                        refine cw_Si (As := [.int 1]) (rest := []) (c_X5_takes l dC dI cI cZ cJ (wM cI cZ cJ h F_149 G (va_up V 0 0)) 1) fx (va_cwS 1 hts gX5_plan_X5_takes rfl rfl rfl (by decide +kernel) ⟨Nat.le_of_ble_eq_true rfl, Nat.le_of_ble_eq_true rfl⟩) hK hP hD hS hA rfl hl.1 rfl (Nat.le_of_ble_eq_true rfl) dX5_plan_144 ⟨Nat.le_of_ble_eq_true rfl, Nat.le_of_ble_eq_true rfl⟩ (fun r_164 u_165 H locs hw_166 hP hD hS => ?_)
                                        have hP : va_P (dC, dI) vwCl (wM cI cZ cJ h F_149 G (va_up V 0 0)) H := hP
                                        have hD : va_D A (wM cI cZ cJ h F_149 G (va_up V 0 0)) := hD
                                        obtain rfl : r_164 = 5 := Eq.trans hw_166 (by decide)
                                        refine lv_istore (lv' := [(7, .int 5), (6, .int x_162), (5, .int (nI (min 200 (u + 0)))), (4, .int 1), (0, .ref (h 0)), (1, .ref (h 18)), (2, .int (nI j)), (3, .int (nI u))]) hx hb dX5_plan_147 hl (by decide) rfl (fun ls hl => ?_)
                                        refine lv_iload hx hb dX5_plan_149 (lv_at hl 2 rfl) ?_
                                        refine lv_iload hx hb dX5_plan_151 (lv_at hl 0 rfl) ?_
                                        refine lv_icmp_lt (tgt := 189) hx hb dX5_plan_153 (by decide) (fun c_167 => ?_) (fun c_167 => ?_)
                                        · have c_167 : (min 200 (u + 0)) < 5 := (nI_ltI (a := min 200 (u + 0)) (b := 5) (by omega) (by omega)).mp c_167
                                          refine lv_aload_n hx hb dX5_plan_189 rfl (lv_at hl 4 rfl) ?_
                                          refine va_get (D := (dC, dI)) (ci := 5) (v := .ref (h 16)) (C := RX5) (T := TX5) (N := 33) hx hb hts hin_X5 hown hK hP 0 rfl rfl 25 (by decide) hw7 (fun _ h9 => h9) rfl dX5_plan_190 ?_
                                          refine lv_iload_n hx hb dX5_plan_193 rfl (lv_at hl 6 rfl) ?_
                                          refine lv_iload_n hx hb dX5_plan_194 rfl (lv_at hl 7 rfl) ?_
                                          refine lv_iload hx hb dX5_plan_195 (lv_at hl 3 rfl) ?_
                                          refine lv_iconst (v := 1) hx hb dX5_plan_197 (by decide) ?_
                                          refine lv_icmp_ne (tgt := 205) hx hb dX5_plan_198 (by decide) (fun c_168 => ?_) (fun c_168 => ?_)
                                          · exact absurd c_168 (by decide)
                                          · refine lv_iconst (v := 1) hx hb dX5_plan_201 (by decide) ?_
                                            refine lv_goto (tgt := 206) hx hb dX5_plan_202 (by decide) ?_
                                            refine cw_Si (As := [.int (nI j), .int (nI u), .int 1]) (rest := [.ref (h 16)]) (c_X5_state1 l dC dI cI cZ cJ (wM cI cZ cJ h F_149 G (va_up V 0 0)) j u) fx (va_cwS 3 hts gX5_plan_X5_state rfl rfl rfl (by decide +kernel) ⟨Nat.le_of_ble_eq_true rfl, Nat.le_of_ble_eq_true rfl⟩) hK hP hD hS hA rfl hl.1 rfl (Nat.le_of_ble_eq_true rfl) dX5_plan_206 ⟨Nat.le_of_ble_eq_true rfl, Nat.le_of_ble_eq_true rfl⟩ (fun r_169 u_170 H locs hw_171 hP hD hS => ?_)
                                            have hP : va_P (dC, dI) vwCl (wM cI cZ cJ h F_149 G (va_up V 0 0)) H := hP
                                            have hD : va_D A (wM cI cZ cJ h F_149 G (va_up V 0 0)) := hD
                                            obtain rfl : r_169 = nI ((201 * j + u) * 2 + 1) := hw_171
                                            refine lv_iload hx hb dX5_plan_209 (lv_at hl 1 rfl) ?_
                                            refine va_iast hx hb hK hP hD hS 16 0 rfl rfl (vp_in_nI (n := (201 * j + u) * 2 + 1) (N := 10050) (by omega) (by decide)) dX5_plan_211 (fun H locs hP hD hS => ?_)
                                            obtain ⟨F_172, eF_172⟩ : ∃ z : Nat → Nat → Int32, z = va_up F_149 16 (upd (F_149 16) (nI ((201 * j + u) * 2 + 1)).toNatClampNeg x_162) := ⟨_, rfl⟩
                                            have hP : va_P (dC, dI) vwCl (wM cI cZ cJ h F_172 G (va_up V 0 0)) H := by rw [eF_172]; exact hP
                                            have hD : va_D A (wM cI cZ cJ h F_172 G (va_up V 0 0)) := by rw [eF_172]; exact hD
                                            have hF_173 : ∀ i, i < 24 → F_172 18 i = 0 := by rw [eF_172]; exact hF_150
                                            have hz_174 : ∀ i, j + 1 ≤ i → i ≤ 24 → F_172 16 (402 * i) = 0 := fun i h1 h2 => by
                                              rw [eF_172]
                                              show upd (F_149 16) (nI ((201 * j + u) * 2 + 1)).toNatClampNeg _ (402 * i) = 0
                                              rw [nI_clamp (by omega), pk_un (by omega)]
                                              exact hz_151 i h1 h2
                                            have hy_175 : F_172 16 (402 * j) = 0 := by
                                              rw [eF_172]
                                              show upd (F_149 16) (nI ((201 * j + u) * 2 + 1)).toNatClampNeg _ (402 * j) = 0
                                              rw [nI_clamp (by omega), pk_un (by omega)]
                                              exact hy_152
                                            refine lv_iinc (v := 2) (lv' := [(4, .int 2), (7, .int 5), (6, .int x_162), (5, .int (nI (min 200 (u + 0)))), (0, .ref (h 0)), (1, .ref (h 18)), (2, .int (nI j)), (3, .int (nI u))]) hx hb dX5_plan_212 hl (k := 3) rfl (by decide) (by decide) rfl (fun ls hl => ?_)
                                            refine lv_goto (tgt := 102) hx hb dX5_plan_215 (by decide) ?_
                                            refine lv_iload hx hb dX5_plan_102 (lv_at hl 0 rfl) ?_
                                            refine lv_iconst (v := 2) hx hb dX5_plan_104 (by decide) ?_
                                            refine lv_icmp_ge (tgt := 218) hx hb dX5_plan_105 (by decide) (fun c_176 => ?_) (fun c_176 => ?_)
                                            · refine lv_iinc (v := nI (u + 1)) (lv' := [(3, .int (nI (u + 1))), (4, .int 2), (7, .int 5), (6, .int x_162), (5, .int (nI (min 200 (u + 0)))), (0, .ref (h 0)), (1, .ref (h 18)), (2, .int (nI j))]) hx hb dX5_plan_218 hl (k := 7) rfl (nI_1 _) (by decide) rfl (fun ls hl => ?_)
                                              refine lv_goto (tgt := 92) hx hb dX5_plan_221 (by decide) ?_
                                              exact ih92 (u + 1) F_172 (by omega) hF_173 hz_174 (fun _ => hy_175) (by omega) H locs ls hP hD hS (lv_sub hl [5, 6, 7, 0] rfl)
                                            · exact absurd c_176 (by decide)
                                        · have c_167 : ¬ (min 200 (u + 0)) < 5 := fun h => c_167 ((nI_ltI (a := min 200 (u + 0)) (b := 5) (by omega) (by omega)).mpr h)
                                          refine lv_iload hx hb dX5_plan_156 (lv_at hl 1 rfl) ?_
                                          refine lv_iconst (v := 5) hx hb dX5_plan_158 (by decide) ?_
                                          refine lv_aload_n hx hb dX5_plan_159 rfl (lv_at hl 4 rfl) ?_
                                          refine va_get (D := (dC, dI)) (ci := 5) (v := .ref (h 9)) (C := RX5) (T := TX5) (N := 33) hx hb hts hin_X5 hown hK hP 0 rfl rfl 16 (by decide) hw9 (fun _ h9 => h9) rfl dX5_plan_160 ?_
                                          refine lv_iload_n hx hb dX5_plan_163 rfl (lv_at hl 6 rfl) ?_
                                          refine va_iald hx hb hK hP 9 0 rfl rfl (vp_in_nI (n := j) (N := 24) (by omega) (by decide)) dX5_plan_164 ?_
                                          refine lv_topi (fun x_177 ex_177 => ?_)
                                          refine lv_imul hx hb dX5_plan_165 ?_
                                          refine lv_aload_n hx hb dX5_plan_166 rfl (lv_at hl 4 rfl) ?_
                                          refine va_get (D := (dC, dI)) (ci := 5) (v := .ref (h 16)) (C := RX5) (T := TX5) (N := 33) hx hb hts hin_X5 hown hK hP 0 rfl rfl 25 (by decide) hw7 (fun _ h9 => h9) rfl dX5_plan_167 ?_
                                          refine lv_iload_n hx hb dX5_plan_170 rfl (lv_at hl 6 rfl) ?_
                                          refine lv_iconst (v := 1) hx hb dX5_plan_171 (by decide) ?_
                                          refine lv_iadd hx hb dX5_plan_172 ?_
                                          refine lv_topi (fun x_178 ex_178 => ?_)
                                          obtain rfl : x_178 = nI (j + 1) := ex_178.trans (nI_add j 1)
                                          refine lv_iload hx hb dX5_plan_173 (lv_at hl 2 rfl) ?_
                                          refine lv_iload hx hb dX5_plan_175 (lv_at hl 0 rfl) ?_
                                          refine lv_isub hx hb dX5_plan_177 ?_
                                          refine lv_topi (fun x_179 ex_179 => ?_)
                                          obtain rfl : x_179 = nI ((min 200 (u + 0)) - 5) := ex_179.trans (pk_sub (a := min 200 (u + 0)) (b := 5) (by omega))
                                          refine lv_iconst (v := 1) hx hb dX5_plan_178 (by decide) ?_
                                          refine cw_Si (As := [.int (nI (j + 1)), .int (nI ((min 200 (u + 0)) - 5)), .int 1]) (rest := [.ref (h 16), .int (5 * x_177), .int x_162]) (c_X5_state1 l dC dI cI cZ cJ (wM cI cZ cJ h F_149 G (va_up V 0 0)) (j + 1) ((min 200 (u + 0)) - 5)) fx (va_cwS 3 hts gX5_plan_X5_state rfl rfl rfl (by decide +kernel) ⟨Nat.le_of_ble_eq_true rfl, Nat.le_of_ble_eq_true rfl⟩) hK hP hD hS hA rfl hl.1 rfl (Nat.le_of_ble_eq_true rfl) dX5_plan_179 ⟨Nat.le_of_ble_eq_true rfl, Nat.le_of_ble_eq_true rfl⟩ (fun r_180 u_181 H locs hw_182 hP hD hS => ?_)
                                          have hP : va_P (dC, dI) vwCl (wM cI cZ cJ h F_149 G (va_up V 0 0)) H := hP
                                          have hD : va_D A (wM cI cZ cJ h F_149 G (va_up V 0 0)) := hD
                                          obtain rfl : r_180 = nI ((201 * (j + 1) + ((min 200 (u + 0)) - 5)) * 2 + 1) := hw_182
                                          refine va_iald hx hb hK hP 16 0 rfl rfl (vp_in_nI (n := (201 * (j + 1) + ((min 200 (u + 0)) - 5)) * 2 + 1) (N := 10050) (by omega) (by decide)) dX5_plan_182 ?_
                                          refine lv_topi (fun x_183 ex_183 => ?_)
                                          refine lv_iadd hx hb dX5_plan_183 ?_
                                          refine va_mmax hx hb (hml.trans hl.1.symm) hown hw10 hw11 hw12 hw13 (Nat.le_of_ble_eq_true rfl) (Nat.le_of_ble_eq_true rfl) (Nat.le_of_ble_eq_true rfl) (Nat.le_of_ble_eq_true rfl) dX5_plan_184 ?_
                                          refine lv_topi (fun x_184 ex_184 => ?_)
                                          refine lv_istore (lv' := [(6, .int x_184), (7, .int 5), (5, .int (nI (min 200 (u + 0)))), (4, .int 1), (0, .ref (h 0)), (1, .ref (h 18)), (2, .int (nI j)), (3, .int (nI u))]) hx hb dX5_plan_187 hl (by decide) rfl (fun ls hl => ?_)
                                          refine lv_aload_n hx hb dX5_plan_189 rfl (lv_at hl 4 rfl) ?_
                                          refine va_get (D := (dC, dI)) (ci := 5) (v := .ref (h 16)) (C := RX5) (T := TX5) (N := 33) hx hb hts hin_X5 hown hK hP 0 rfl rfl 25 (by decide) hw7 (fun _ h9 => h9) rfl dX5_plan_190 ?_
                                          refine lv_iload_n hx hb dX5_plan_193 rfl (lv_at hl 6 rfl) ?_
                                          refine lv_iload_n hx hb dX5_plan_194 rfl (lv_at hl 7 rfl) ?_
                                          refine lv_iload hx hb dX5_plan_195 (lv_at hl 3 rfl) ?_
                                          refine lv_iconst (v := 1) hx hb dX5_plan_197 (by decide) ?_
                                          refine lv_icmp_ne (tgt := 205) hx hb dX5_plan_198 (by decide) (fun c_185 => ?_) (fun c_185 => ?_)
                                          · exact absurd c_185 (by decide)
                                          · refine lv_iconst (v := 1) hx hb dX5_plan_201 (by decide) ?_
                                            refine lv_goto (tgt := 206) hx hb dX5_plan_202 (by decide) ?_
                                            refine cw_Si (As := [.int (nI j), .int (nI u), .int 1]) (rest := [.ref (h 16)]) (c_X5_state1 l dC dI cI cZ cJ (wM cI cZ cJ h F_149 G (va_up V 0 0)) j u) fx (va_cwS 3 hts gX5_plan_X5_state rfl rfl rfl (by decide +kernel) ⟨Nat.le_of_ble_eq_true rfl, Nat.le_of_ble_eq_true rfl⟩) hK hP hD hS hA rfl hl.1 rfl (Nat.le_of_ble_eq_true rfl) dX5_plan_206 ⟨Nat.le_of_ble_eq_true rfl, Nat.le_of_ble_eq_true rfl⟩ (fun r_186 u_187 H locs hw_188 hP hD hS => ?_)
                                            have hP : va_P (dC, dI) vwCl (wM cI cZ cJ h F_149 G (va_up V 0 0)) H := hP
                                            have hD : va_D A (wM cI cZ cJ h F_149 G (va_up V 0 0)) := hD
                                            obtain rfl : r_186 = nI ((201 * j + u) * 2 + 1) := hw_188
                                            refine lv_iload hx hb dX5_plan_209 (lv_at hl 0 rfl) ?_
                                            refine va_iast hx hb hK hP hD hS 16 0 rfl rfl (vp_in_nI (n := (201 * j + u) * 2 + 1) (N := 10050) (by omega) (by decide)) dX5_plan_211 (fun H locs hP hD hS => ?_)
                                            obtain ⟨F_189, eF_189⟩ : ∃ z : Nat → Nat → Int32, z = va_up F_149 16 (upd (F_149 16) (nI ((201 * j + u) * 2 + 1)).toNatClampNeg x_184) := ⟨_, rfl⟩
                                            have hP : va_P (dC, dI) vwCl (wM cI cZ cJ h F_189 G (va_up V 0 0)) H := by rw [eF_189]; exact hP
                                            have hD : va_D A (wM cI cZ cJ h F_189 G (va_up V 0 0)) := by rw [eF_189]; exact hD
                                            have hF_190 : ∀ i, i < 24 → F_189 18 i = 0 := by rw [eF_189]; exact hF_150
                                            have hz_191 : ∀ i, j + 1 ≤ i → i ≤ 24 → F_189 16 (402 * i) = 0 := fun i h1 h2 => by
                                              rw [eF_189]
                                              show upd (F_149 16) (nI ((201 * j + u) * 2 + 1)).toNatClampNeg _ (402 * i) = 0
                                              rw [nI_clamp (by omega), pk_un (by omega)]
                                              exact hz_151 i h1 h2
                                            have hy_192 : F_189 16 (402 * j) = 0 := by
                                              rw [eF_189]
                                              show upd (F_149 16) (nI ((201 * j + u) * 2 + 1)).toNatClampNeg _ (402 * j) = 0
                                              rw [nI_clamp (by omega), pk_un (by omega)]
                                              exact hy_152
                                            refine lv_iinc (v := 2) (lv' := [(4, .int 2), (6, .int x_184), (7, .int 5), (5, .int (nI (min 200 (u + 0)))), (0, .ref (h 0)), (1, .ref (h 18)), (2, .int (nI j)), (3, .int (nI u))]) hx hb dX5_plan_212 hl (k := 3) rfl (by decide) (by decide) rfl (fun ls hl => ?_)
                                            refine lv_goto (tgt := 102) hx hb dX5_plan_215 (by decide) ?_
                                            refine lv_iload hx hb dX5_plan_102 (lv_at hl 0 rfl) ?_
                                            refine lv_iconst (v := 2) hx hb dX5_plan_104 (by decide) ?_
                                            refine lv_icmp_ge (tgt := 218) hx hb dX5_plan_105 (by decide) (fun c_193 => ?_) (fun c_193 => ?_)
                                            · refine lv_iinc (v := nI (u + 1)) (lv' := [(3, .int (nI (u + 1))), (4, .int 2), (6, .int x_184), (7, .int 5), (5, .int (nI (min 200 (u + 0)))), (0, .ref (h 0)), (1, .ref (h 18)), (2, .int (nI j))]) hx hb dX5_plan_218 hl (k := 7) rfl (nI_1 _) (by decide) rfl (fun ls hl => ?_)
                                              refine lv_goto (tgt := 92) hx hb dX5_plan_221 (by decide) ?_
                                              exact ih92 (u + 1) F_189 (by omega) hF_190 hz_191 (fun _ => hy_192) (by omega) H locs ls hP hD hS (lv_sub hl [5, 6, 7, 0] rfl)
                                            · exact absurd c_193 (by decide)
                                  · exact absurd c_145 (by decide)
                              · exact absurd c_83 (by decide)
                      exact loop92 _ 0 F3 (by omega) hq3 hz3 (fun h => absurd h (Nat.lt_irrefl 0)) (Nat.lt_succ_self _) H locs ls hP hD hS (lv_sub hl [1, 2, 3, 0] rfl)
              exact loop82 _ 24 F2 (by omega) hq2 (fun i h1 h2 => by
                obtain rfl : i = 24 := by omega
                exact hz2 (by omega)) (Nat.lt_succ_self _) H locs ls hP hD hS (lv_sub hl [1, 2, 0] rfl)
            · have c_3 : ¬ 402 ≤ k2 := fun h => c_3 ((nI_leI (a := 402) (b := k2) (by omega) (by omega)).mpr h)
              refine lv_aload_n hx hb dX5_plan_58 rfl (lv_at hl 0 rfl) ?_
              refine va_get (D := (dC, dI)) (ci := 5) (v := .ref (h 16)) (C := RX5) (T := TX5) (N := 33) hx hb hts hin_X5 hown hK hP 0 rfl rfl 25 (by decide) hw7 (fun _ h9 => h9) rfl dX5_plan_59 ?_
              refine lv_bipush (v := 24) hx hb dX5_plan_62 (by decide) ?_
              refine lv_iconst (v := 0) hx hb dX5_plan_64 (by decide) ?_
              refine lv_iconst (v := 0) hx hb dX5_plan_65 (by decide) ?_
              refine cw_Si (As := [.int 24, .int 0, .int 0]) (rest := [.ref (h 16)]) (c_X5_state0 l dC dI cI cZ cJ (wM cI cZ cJ h F2 G (va_up V 0 0)) 24 0) fx (va_cwS 3 hts gX5_plan_X5_state rfl rfl rfl (by decide +kernel) ⟨Nat.le_of_ble_eq_true rfl, Nat.le_of_ble_eq_true rfl⟩) hK hP hD hS hA rfl hl.1 rfl (Nat.le_of_ble_eq_true rfl) dX5_plan_66 ⟨Nat.le_of_ble_eq_true rfl, Nat.le_of_ble_eq_true rfl⟩ (fun r_194 u_195 H locs hw_196 hP hD hS => ?_)
              have hP : va_P (dC, dI) vwCl (wM cI cZ cJ h F2 G (va_up V 0 0)) H := hP
              have hD : va_D A (wM cI cZ cJ h F2 G (va_up V 0 0)) := hD
              obtain rfl : r_194 = 9648 := hw_196
              refine lv_iload_n hx hb dX5_plan_69 rfl (lv_at hl 2 rfl) ?_
              refine lv_iadd hx hb dX5_plan_70 ?_
              refine lv_topi (fun x_197 ex_197 => ?_)
              obtain rfl : x_197 = nI (9648 + k2) := ex_197.trans (nI_add 9648 k2)
              refine lv_iconst (v := 0) hx hb dX5_plan_71 (by decide) ?_
              refine va_iast hx hb hK hP hD hS 16 0 rfl rfl (vp_in_nI (n := 9648 + k2) (N := 10050) (by omega) (by decide)) dX5_plan_72 (fun H locs hP hD hS => ?_)
              obtain ⟨F_198, eF_198⟩ : ∃ z : Nat → Nat → Int32, z = va_up F2 16 (upd (F2 16) (nI (9648 + k2)).toNatClampNeg 0) := ⟨_, rfl⟩
              have hP : va_P (dC, dI) vwCl (wM cI cZ cJ h F_198 G (va_up V 0 0)) H := by rw [eF_198]; exact hP
              have hD : va_D A (wM cI cZ cJ h F_198 G (va_up V 0 0)) := by rw [eF_198]; exact hD
              have hF_199 : ∀ i, i < 24 → F_198 18 i = 0 := by rw [eF_198]; exact hq2
              have hE_200 : F_198 16 (9648 + k2) = 0 := by rw [eF_198]; show upd _ (nI (9648 + k2)).toNatClampNeg _ _ = _; rw [nI_clamp (by omega)]; exact pk_us
              refine lv_iinc (v := nI (k2 + 1)) (lv' := [(2, .int (nI (k2 + 1))), (0, .ref (h 0)), (1, .ref (h 18))]) hx hb dX5_plan_73 hl (k := 2) rfl (nI_1 _) (by decide) rfl (fun ls hl => ?_)
              refine lv_goto (tgt := 51) hx hb dX5_plan_76 (by decide) ?_
              have hb_201 : 0 < k2 + 1 → F_198 16 9648 = 0 := fun _ => by
                rw [eF_198]
                show upd (F2 16) (nI (9648 + k2)).toNatClampNeg 0 9648 = 0
                rw [nI_clamp (by omega)]
                by_cases h : 9648 = 9648 + k2
                · rw [← h]; exact pk_us
                · rw [pk_un h]; exact hz2 (by omega)
              exact ih51 (k2 + 1) F_198 (by omega) hF_199 hb_201 (by omega) H locs ls hP hD hS (lv_sub hl [1, 2, 0] rfl)
        exact loop51 _ 0 F1 (by omega) (fun i hi => hq i (by omega)) (fun h => absurd h (Nat.lt_irrefl 0)) (Nat.lt_succ_self _) H locs ls hP hD hS (lv_sub hl [1, 2, 0] rfl)
      · have c_2 : ¬ 24 ≤ k := fun h => c_2 ((nI_leI (a := 24) (b := k) (by omega) (by omega)).mpr h)
        refine lv_aload_n hx hb dX5_plan_21 rfl (lv_at hl 1 rfl) ?_
        refine lv_iload_n hx hb dX5_plan_22 rfl (lv_at hl 2 rfl) ?_
        refine lv_aload_n hx hb dX5_plan_23 rfl (lv_at hl 0 rfl) ?_
        refine lv_iload_n hx hb dX5_plan_24 rfl (lv_at hl 2 rfl) ?_
        refine lv_aload_n hx hb dX5_plan_25 rfl (lv_at hl 0 rfl) ?_
        refine va_get (D := (dC, dI)) (ci := 5) (v := .int (V 6)) (C := RX5) (T := TX5) (N := 33) hx hb hts hin_X5 hown hK hP 0 rfl rfl 6 (by decide) hw14 (fun _ h9 => h9) rfl dX5_plan_26 ?_
        refine lv_iload_n hx hb dX5_plan_29 rfl (lv_at hl 2 rfl) ?_
        refine lv_aload_n hx hb dX5_plan_30 rfl (lv_at hl 0 rfl) ?_
        refine va_get (D := (dC, dI)) (ci := 5) (v := .int (V 3)) (C := RX5) (T := TX5) (N := 33) hx hb hts hin_X5 hown hK hP 0 rfl rfl 3 (by decide) hw3 (fun _ h9 => h9) rfl dX5_plan_31 ?_
        refine lv_topi (fun x_202 ex_202 => ?_)
        obtain rfl : x_202 = 0 := ex_202.trans (hV3)
        refine lv_isub hx hb dX5_plan_34 ?_
        refine lv_topi (fun x_203 ex_203 => ?_)
        obtain rfl : x_203 = nI (k - 0) := ex_203.trans (pk_sub (a := k) (b := 0) (by omega))
        refine lv_imul hx hb dX5_plan_35 ?_
        refine cw_Vi (As := [.int (nI k), .int ((V 6) * (nI (k - 0)))]) (rest := [.int (nI k), .ref (h 18)]) (c_X5_aims l dC dI cI cZ cJ h F1 G (va_up V 0 0) (nI k) ((V 6) * (nI (k - 0))) hV2) fx (cwV 2 hts gX5_plan_X5_aims rfl rfl rfl (by decide +kernel) ⟨Nat.le_of_ble_eq_true rfl, Nat.le_of_ble_eq_true rfl⟩) hK hP hD hS hA 0 rfl rfl rfl rfl hl.1 rfl (Nat.le_of_ble_eq_true rfl) dX5_plan_36 ⟨Nat.le_of_ble_eq_true rfl, Nat.le_of_ble_eq_true rfl⟩ (fun r_204 u_205 H locs hw_206 hP hD hS => ?_)
        obtain ⟨F_207, rfl⟩ : ∃ z, z = u_205 := ⟨_, rfl⟩
        have hP : va_P (dC, dI) vwCl (wM cI cZ cJ h F_207 G (va_up V 0 0)) H := hP
        have hD : va_D A (wM cI cZ cJ h F_207 G (va_up V 0 0)) := hD
        obtain rfl : r_204 = 0 := hw_206.1
        refine lv_bipush (v := 100) hx hb dX5_plan_39 (by decide) ?_
        refine lv_idiv hx hb dX5_plan_41 (by decide) ?_
        refine lv_topi (fun x_208 ex_208 => ?_)
        obtain rfl : x_208 = 0 := ex_208.trans (by decide)
        refine va_iast hx hb hK hP hD hS 18 0 rfl rfl (vp_in_nI (n := k) (N := 24) (by omega) (by decide)) dX5_plan_42 (fun H locs hP hD hS => ?_)
        obtain ⟨F_209, eF_209⟩ : ∃ z : Nat → Nat → Int32, z = va_up F_207 18 (upd (F_207 18) (nI k).toNatClampNeg 0) := ⟨_, rfl⟩
        have hP : va_P (dC, dI) vwCl (wM cI cZ cJ h F_209 G (va_up V 0 0)) H := by rw [eF_209]; exact hP
        have hD : va_D A (wM cI cZ cJ h F_209 G (va_up V 0 0)) := by rw [eF_209]; exact hD
        have hE_210 : F_209 18 k = 0 := by rw [eF_209]; show upd _ (nI k).toNatClampNeg _ _ = _; rw [nI_clamp (by omega)]; exact pk_us
        refine lv_iinc (v := nI (k + 1)) (lv' := [(2, .int (nI (k + 1))), (0, .ref (h 0)), (1, .ref (h 18))]) hx hb dX5_plan_43 hl (k := 2) rfl (nI_1 _) (by decide) rfl (fun ls hl => ?_)
        refine lv_goto (tgt := 15) hx hb dX5_plan_46 (by decide) ?_
        have hb_211 : ∀ i, i < k + 1 → F_209 18 i = 0 := fun i hi => by
          have q18 : F_207 18 = F1 18 := hw_206.2 18 (by decide)
          rw [eF_209]
          show upd (F_207 18) (nI k).toNatClampNeg 0 i = 0
          rw [nI_clamp (by omega), q18]
          by_cases h : i = k
          · rw [h]; exact pk_us
          · rw [pk_un h]; exact hq i (by omega)
        exact ih15 (k + 1) F_209 (by omega) hb_211 (by omega) H locs ls hP hD hS (lv_sub hl [1, 2, 0] rfl)
  exact loop15 _ 0 F (by omega) (fun i hi => absurd hi (Nat.not_lt_zero i)) (Nat.lt_succ_self _) H locs ls hP hD hS (lv_sub hl [2, 1, 0] rfl)
