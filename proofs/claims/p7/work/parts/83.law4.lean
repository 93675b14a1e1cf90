set_option maxHeartbeats 4000000 in
set_option maxRecDepth 100000 in
theorem lc_18 {p : Program} {l : Launch} {e : Env} {s : State} {m : MethodId} {below : List Frame} {meth : Method} {c : Code} {b : Nat} {xs : Nat → Int32} {dC : Nat → ClassId} {dI : Nat → Nat → Nat} {cI cZ cJ : ClassId} {g : Nat → Nat} {h0 : Nat} {L j : Nat} (C0 : lw_At p s m meth c b L xs) (hK : va_K (dC, dI) vwCl (tys3 cI cZ cJ) s) (hL : L ≤ 2560) (hj : 5 * j + 5 ≤ L) (nx : lwK p l e s m below meth c b dC dI cI cZ cJ g h0 869 j) : lwK p l e s m below meth c b dC dI cI cZ cJ g h0 676 j := by
  obtain ⟨hx, hb, hr, hml, hown, hts0, hX, hbl, hlocks, hgv⟩ := id C0
  have hbA : ¬ (fun q : Nat => s.heap.size ≤ q) b := Nat.not_le.mpr hbl
  have hts : ∀ w ∈ wsL_law, w.before #[Value.ref b] s = true := fun w h => hts0 w (wsL_law_in w h)
  have fx : CallFix p m c cL_law 4 s #[Value.ref b] wsL_law RL := ⟨hx, hb, hml, hown, hts⟩
  have hA : ∀ q : Nat, s.heap.size ≤ q → (fun q : Nat => s.heap.size ≤ q) q := fun _ h => h
  intro h F V F2 G V2 H locs ls hh hI hP hD hS hl
  subst hh
  obtain ⟨n, d, ks, nw, un, wm, pf, So, Hh, Wd, Lm, Pr, X, Y, SX, SY, Kc, Kp, er, rb, hVC, hVM⟩ := hI
  obtain ⟨⟨va1, ba1⟩, ⟨va2, ba2⟩, ⟨va3, ba3⟩, ⟨va4, ba4⟩, ⟨va5, ba5⟩, ⟨va6, ba6⟩, ⟨va9, ba9⟩, ⟨sha, va11, ba11⟩, ⟨hSoa, bSoa⟩, ⟨hHha, bHha⟩, ⟨hWda, bWda⟩, ⟨hLma, bLma⟩, ⟨hPra, bPra⟩, hkn, hGP, hSU, hGC, hF10, hF11, hKC, hE, hPL⟩ := hVC
  obtain ⟨⟨vb2, bb2⟩, ⟨vb3, bb3⟩, ⟨vb4, bb4⟩, ⟨vb6, bb6⟩, ⟨vb7, bb7⟩, ⟨vb10, bb10⟩, ⟨shb, vb11, bb11⟩, ⟨hSob, bSob⟩, ⟨hLmb, bLmb⟩, ⟨hHhb, bHhb⟩, ⟨hWdb, bWdb⟩, ⟨hPrb, bPrb⟩, ⟨hXb, bXb⟩, ⟨hYb, bYb⟩, ⟨amb, vb8, bb8, hk8⟩, hGPb, hSXb, hSYb, hKcb, hKpb, hEb, hRBb⟩ := hVM
  refine lv_aload_n hx hb dL_law_676 rfl (lv_at hl 1 rfl) ?_
  refine lv_aload_n hx hb dL_law_677 rfl (lv_at hl 0 rfl) ?_
  refine lv_iload_n hx hb dL_law_678 rfl (lv_at hl 3 rfl) ?_
  refine lv_iconst (v := 1) hx hb dL_law_679 (by decide) ?_
  refine lv_iadd hx hb dL_law_680 ?_
  refine lv_topi (fun x_1 ex_1 => ?_)
  obtain rfl : x_1 = nI (5 * j + 1) := ex_1.trans (nI_add (5 * j) 1)
  refine va_sld hx hb hX hbl hbA hS (vp_in_nI (n := 5 * j + 1) (N := L) (by omega) (by omega)) dL_law_681 ?_
  refine lv_if_eq (tgt := 689) hx hb dL_law_682 (by decide) (fun c_2 => ?_) (fun c_2 => ?_)
  · refine lv_iconst (v := 0) hx hb dL_law_689 (by decide) ?_
    refine cl_Vi (As := [.int 0]) (rest := []) (wr := wM cI cZ cJ g F2 G V2) (c_X4_step0 l dC dI cI cZ cJ h F V n va1 ba1 d va2 ba2 ks va3 ba3 nw va4 ba4 un va5 ba5 wm va6 ba6 pf va9 ba9 sha va11 ba11 So hSoa bSoa Hh hHha bHha Wd hWda bWda Lm hLma bLma Pr hPra bPra  X Y SX SY Kc Kp er rb hkn hGP hSU hGC hF10 hF11 hKC hE hPL) fx (cwV 1 hts gL_law_X4_step rfl rfl rfl (by decide +kernel) ⟨Nat.le_of_ble_eq_true rfl, Nat.le_of_ble_eq_true rfl⟩) hK hP hD hS hA [0, 1, 2, 3, 4, 5, 6, 7, 8, 9, 10, 11, 12, 13, 14, 15, 16, 17, 18, 19, 20, 21, 22, 23, 24, 25, 26, 27, 28, 29, 30] [31, 32, 33, 34, 35, 36, 37, 38, 39, 40, 41, 42, 43, 44, 45, 46, 47, 48, 49, 50, 51, 52] rfl rfl (by decide) (by decide) (by decide) 0 rfl rfl rfl rfl hl.1 rfl (Nat.le_of_ble_eq_true rfl) dL_law_690 ⟨Nat.le_of_ble_eq_true rfl, Nat.le_of_ble_eq_true rfl⟩ (fun r_3 u_4 H locs hw_5 hP hD hS => ?_)
    obtain ⟨h_1, F_1, V_1⟩ := u_4
    obtain ⟨an1, hh1, hI1⟩ := hw_5
    dsimp only at an1 hh1 hI1 hP hD
    have hh : h_1 0 = h 0 := hh1
    have hP : va_P (dC, dI) vwCl (wC cI cZ h_1 F_1 V_1 ++ wM cI cZ cJ g F2 G V2) H := hP.sub [22, 23, 24, 25, 26, 27, 28, 29, 30, 31, 32, 33, 34, 35, 36, 37, 38, 39, 40, 41, 42, 43, 44, 45, 46, 47, 48, 49, 50, 51, 52, 0, 1, 2, 3, 4, 5, 6, 7, 8, 9, 10, 11, 12, 13, 14, 15, 16, 17, 18, 19, 20, 21] rfl
    have hD : va_D (fun q : Nat => s.heap.size ≤ q) (wC cI cZ h_1 F_1 V_1 ++ wM cI cZ cJ g F2 G V2) := hD.sub [22, 23, 24, 25, 26, 27, 28, 29, 30, 31, 32, 33, 34, 35, 36, 37, 38, 39, 40, 41, 42, 43, 44, 45, 46, 47, 48, 49, 50, 51, 52, 0, 1, 2, 3, 4, 5, 6, 7, 8, 9, 10, 11, 12, 13, 14, 15, 16, 17, 18, 19, 20, 21] (by decide) rfl
    refine lv_pop hx hb dL_law_693 rfl ?_
    refine lv_aload_n hx hb dL_law_694 rfl (lv_at hl 2 rfl) ?_
    refine lv_aload_n hx hb dL_law_695 rfl (lv_at hl 0 rfl) ?_
    refine lv_iload_n hx hb dL_law_696 rfl (lv_at hl 3 rfl) ?_
    refine lv_iconst (v := 1) hx hb dL_law_697 (by decide) ?_
    refine lv_iadd hx hb dL_law_698 ?_
    refine lv_topi (fun x_6 ex_6 => ?_)
    obtain rfl : x_6 = nI (5 * j + 1) := ex_6.trans (nI_add (5 * j) 1)
    refine va_sld hx hb hX hbl hbA hS (vp_in_nI (n := 5 * j + 1) (N := L) (by omega) (by omega)) dL_law_699 ?_
    refine lv_if_eq (tgt := 707) hx hb dL_law_700 (by decide) (fun c_7 => ?_) (fun c_7 => ?_)
    · refine lv_iconst (v := 0) hx hb dL_law_707 (by decide) ?_
      refine cl_Vi (As := [.int 0]) (rest := []) (wr := wC cI cZ h_1 F_1 V_1) (c_X5_step0 l dC dI cI cZ cJ g F2 G V2 n vb2 bb2 nw vb3 bb3 un vb4 bb4 d vb6 bb6 wm vb7 bb7 pf vb10 bb10 shb vb11 bb11 So hSob bSob Lm hLmb bLmb Hh hHhb bHhb Wd hWdb bWdb Pr hPrb bPrb X hXb bXb Y hYb bYb  ks amb vb8 bb8 hk8 SX SY Kc Kp er rb hGPb hSXb hSYb hKcb hKpb hEb hRBb) fx (cwV 1 hts gL_law_X5_step rfl rfl rfl (by decide +kernel) ⟨Nat.le_of_ble_eq_true rfl, Nat.le_of_ble_eq_true rfl⟩) hK hP hD hS hA [31, 32, 33, 34, 35, 36, 37, 38, 39, 40, 41, 42, 43, 44, 45, 46, 47, 48, 49, 50, 51, 52] [0, 1, 2, 3, 4, 5, 6, 7, 8, 9, 10, 11, 12, 13, 14, 15, 16, 17, 18, 19, 20, 21, 22, 23, 24, 25, 26, 27, 28, 29, 30] rfl rfl (by decide) (by decide) (by decide) 0 rfl rfl rfl rfl hl.1 rfl (Nat.le_of_ble_eq_true rfl) dL_law_708 ⟨Nat.le_of_ble_eq_true rfl, Nat.le_of_ble_eq_true rfl⟩ (fun r_8 u_9 H locs hw_10 hP hD hS => ?_)
      obtain ⟨F2_1, G_1, V2_1⟩ := u_9
      obtain ⟨an2, hI2⟩ := hw_10
      dsimp only at an2 hI2 hP hD
      have hI : LI F_1 V_1 F2_1 G_1 V2_1 := ⟨_, _, _, _, _, _, _, _, _, _, _, _, _, _, _, _, _, _, _, _, hI1, hI2⟩
      refine lv_pop hx hb dL_law_711 rfl ?_
      refine lv_goto (tgt := 869) hx hb dL_law_712 (by decide) ?_
      exact nx h_1 F_1 V_1 F2_1 G_1 V2_1 H locs ls hh hI hP hD hS hl
    · exact absurd c_2 c_7
  · refine lv_iconst (v := 1) hx hb dL_law_685 (by decide) ?_
    refine lv_goto (tgt := 690) hx hb dL_law_686 (by decide) ?_
    refine cl_Vi (As := [.int 1]) (rest := []) (wr := wM cI cZ cJ g F2 G V2) (c_X4_step1 l dC dI cI cZ cJ h F V n va1 ba1 d va2 ba2 ks va3 ba3 nw va4 ba4 un va5 ba5 wm va6 ba6 pf va9 ba9 sha va11 ba11 So hSoa bSoa Hh hHha bHha Wd hWda bWda Lm hLma bLma Pr hPra bPra  X Y SX SY Kc Kp er rb hkn hGP hSU hGC hF10 hF11 hKC hE hPL) fx (cwV 1 hts gL_law_X4_step rfl rfl rfl (by decide +kernel) ⟨Nat.le_of_ble_eq_true rfl, Nat.le_of_ble_eq_true rfl⟩) hK hP hD hS hA [0, 1, 2, 3, 4, 5, 6, 7, 8, 9, 10, 11, 12, 13, 14, 15, 16, 17, 18, 19, 20, 21, 22, 23, 24, 25, 26, 27, 28, 29, 30] [31, 32, 33, 34, 35, 36, 37, 38, 39, 40, 41, 42, 43, 44, 45, 46, 47, 48, 49, 50, 51, 52] rfl rfl (by decide) (by decide) (by decide) 0 rfl rfl rfl rfl hl.1 rfl (Nat.le_of_ble_eq_true rfl) dL_law_690 ⟨Nat.le_of_ble_eq_true rfl, Nat.le_of_ble_eq_true rfl⟩ (fun r_11 u_12 H locs hw_13 hP hD hS => ?_)
    obtain ⟨h_1, F_1, V_1⟩ := u_12
    obtain ⟨an1, hh1, hI1⟩ := hw_13
    dsimp only at an1 hh1 hI1 hP hD
    have hh : h_1 0 = h 0 := hh1
    have hP : va_P (dC, dI) vwCl (wC cI cZ h_1 F_1 V_1 ++ wM cI cZ cJ g F2 G V2) H := hP.sub [22, 23, 24, 25, 26, 27, 28, 29, 30, 31, 32, 33, 34, 35, 36, 37, 38, 39, 40, 41, 42, 43, 44, 45, 46, 47, 48, 49, 50, 51, 52, 0, 1, 2, 3, 4, 5, 6, 7, 8, 9, 10, 11, 12, 13, 14, 15, 16, 17, 18, 19, 20, 21] rfl
    have hD : va_D (fun q : Nat => s.heap.size ≤ q) (wC cI cZ h_1 F_1 V_1 ++ wM cI cZ cJ g F2 G V2) := hD.sub [22, 23, 24, 25, 26, 27, 28, 29, 30, 31, 32, 33, 34, 35, 36, 37, 38, 39, 40, 41, 42, 43, 44, 45, 46, 47, 48, 49, 50, 51, 52, 0, 1, 2, 3, 4, 5, 6, 7, 8, 9, 10, 11, 12, 13, 14, 15, 16, 17, 18, 19, 20, 21] (by decide) rfl
    refine lv_pop hx hb dL_law_693 rfl ?_
    refine lv_aload_n hx hb dL_law_694 rfl (lv_at hl 2 rfl) ?_
    refine lv_aload_n hx hb dL_law_695 rfl (lv_at hl 0 rfl) ?_
    refine lv_iload_n hx hb dL_law_696 rfl (lv_at hl 3 rfl) ?_
    refine lv_iconst (v := 1) hx hb dL_law_697 (by decide) ?_
    refine lv_iadd hx hb dL_law_698 ?_
    refine lv_topi (fun x_14 ex_14 => ?_)
    obtain rfl : x_14 = nI (5 * j + 1) := ex_14.trans (nI_add (5 * j) 1)
    refine va_sld hx hb hX hbl hbA hS (vp_in_nI (n := 5 * j + 1) (N := L) (by omega) (by omega)) dL_law_699 ?_
    refine lv_if_eq (tgt := 707) hx hb dL_law_700 (by decide) (fun c_15 => ?_) (fun c_15 => ?_)
    · exact absurd c_15 c_2
    · refine lv_iconst (v := 1) hx hb dL_law_703 (by decide) ?_
      refine lv_goto (tgt := 708) hx hb dL_law_704 (by decide) ?_
      refine cl_Vi (As := [.int 1]) (rest := []) (wr := wC cI cZ h_1 F_1 V_1) (c_X5_step1 l dC dI cI cZ cJ g F2 G V2 n vb2 bb2 nw vb3 bb3 un vb4 bb4 d vb6 bb6 wm vb7 bb7 pf vb10 bb10 shb vb11 bb11 So hSob bSob Lm hLmb bLmb Hh hHhb bHhb Wd hWdb bWdb Pr hPrb bPrb X hXb bXb Y hYb bYb  ks amb vb8 bb8 hk8 SX SY Kc Kp er rb hGPb hSXb hSYb hKcb hKpb hEb hRBb) fx (cwV 1 hts gL_law_X5_step rfl rfl rfl (by decide +kernel) ⟨Nat.le_of_ble_eq_true rfl, Nat.le_of_ble_eq_true rfl⟩) hK hP hD hS hA [31, 32, 33, 34, 35, 36, 37, 38, 39, 40, 41, 42, 43, 44, 45, 46, 47, 48, 49, 50, 51, 52] [0, 1, 2, 3, 4, 5, 6, 7, 8, 9, 10, 11, 12, 13, 14, 15, 16, 17, 18, 19, 20, 21, 22, 23, 24, 25, 26, 27, 28, 29, 30] rfl rfl (by decide) (by decide) (by decide) 0 rfl rfl rfl rfl hl.1 rfl (Nat.le_of_ble_eq_true rfl) dL_law_708 ⟨Nat.le_of_ble_eq_true rfl, Nat.le_of_ble_eq_true rfl⟩ (fun r_16 u_17 H locs hw_18 hP hD hS => ?_)
      obtain ⟨F2_1, G_1, V2_1⟩ := u_17
      obtain ⟨an2, hI2⟩ := hw_18
      dsimp only at an2 hI2 hP hD
      have hI : LI F_1 V_1 F2_1 G_1 V2_1 := ⟨_, _, _, _, _, _, _, _, _, _, _, _, _, _, _, _, _, _, _, _, hI1, hI2⟩
      refine lv_pop hx hb dL_law_711 rfl ?_
      refine lv_goto (tgt := 869) hx hb dL_law_712 (by decide) ?_
      exact nx h_1 F_1 V_1 F2_1 G_1 V2_1 H locs ls hh hI hP hD hS hl
set_option maxHeartbeats 4000000 in
set_option maxRecDepth 100000 in
theorem lc_19 {p : Program} {l : Launch} {e : Env} {s : State} {m : MethodId} {below : List Frame} {meth : Method} {c : Code} {b : Nat} {xs : Nat → Int32} {dC : Nat → ClassId} {dI : Nat → Nat → Nat} {cI cZ cJ : ClassId} {g : Nat → Nat} {h0 : Nat} {L j : Nat} (C0 : lw_At p s m meth c b L xs) (hK : va_K (dC, dI) vwCl (tys3 cI cZ cJ) s) (hL : L ≤ 2560) (hj : 5 * j + 5 ≤ L) (nx : lwK p l e s m below meth c b dC dI cI cZ cJ g h0 869 j) : lwK p l e s m below meth c b dC dI cI cZ cJ g h0 715 j := by
  obtain ⟨hx, hb, hr, hml, hown, hts0, hX, hbl, hlocks, hgv⟩ := id C0
  have hbA : ¬ (fun q : Nat => s.heap.size ≤ q) b := Nat.not_le.mpr hbl
  have hts : ∀ w ∈ wsL_law, w.before #[Value.ref b] s = true := fun w h => hts0 w (wsL_law_in w h)
  have fx : CallFix p m c cL_law 4 s #[Value.ref b] wsL_law RL := ⟨hx, hb, hml, hown, hts⟩
  have hA : ∀ q : Nat, s.heap.size ≤ q → (fun q : Nat => s.heap.size ≤ q) q := fun _ h => h
  intro h F V F2 G V2 H locs ls hh hI hP hD hS hl
  subst hh
  obtain ⟨n, d, ks, nw, un, wm, pf, So, Hh, Wd, Lm, Pr, X, Y, SX, SY, Kc, Kp, er, rb, hVC, hVM⟩ := hI
  obtain ⟨⟨va1, ba1⟩, ⟨va2, ba2⟩, ⟨va3, ba3⟩, ⟨va4, ba4⟩, ⟨va5, ba5⟩, ⟨va6, ba6⟩, ⟨va9, ba9⟩, ⟨sha, va11, ba11⟩, ⟨hSoa, bSoa⟩, ⟨hHha, bHha⟩, ⟨hWda, bWda⟩, ⟨hLma, bLma⟩, ⟨hPra, bPra⟩, hkn, hGP, hSU, hGC, hF10, hF11, hKC, hE, hPL⟩ := hVC
  obtain ⟨⟨vb2, bb2⟩, ⟨vb3, bb3⟩, ⟨vb4, bb4⟩, ⟨vb6, bb6⟩, ⟨vb7, bb7⟩, ⟨vb10, bb10⟩, ⟨shb, vb11, bb11⟩, ⟨hSob, bSob⟩, ⟨hLmb, bLmb⟩, ⟨hHhb, bHhb⟩, ⟨hWdb, bWdb⟩, ⟨hPrb, bPrb⟩, ⟨hXb, bXb⟩, ⟨hYb, bYb⟩, ⟨amb, vb8, bb8, hk8⟩, hGPb, hSXb, hSYb, hKcb, hKpb, hEb, hRBb⟩ := hVM
  refine lv_aload_n hx hb dL_law_715 rfl (lv_at hl 1 rfl) ?_
  refine cl_Vi (As := []) (rest := []) (wr := wM cI cZ cJ g F2 G V2) (c_X4_earned l dC dI cI cZ cJ h F V n va1 ba1 d va2 ba2 ks va3 ba3 nw va4 ba4 un va5 ba5 wm va6 ba6 pf va9 ba9 sha va11 ba11 So hSoa bSoa Hh hHha bHha Wd hWda bWda Lm hLma bLma Pr hPra bPra  X Y SX SY Kc Kp er rb hkn hGP hSU hGC hF10 hF11 hKC hE hPL) fx (cwV 0 hts gL_law_X4_earned rfl rfl rfl (by decide +kernel) ⟨Nat.le_of_ble_eq_true rfl, Nat.le_of_ble_eq_true rfl⟩) hK hP hD hS hA [0, 1, 2, 3, 4, 5, 6, 7, 8, 9, 10, 11, 12, 13, 14, 15, 16, 17, 18, 19, 20, 21, 22, 23, 24, 25, 26, 27, 28, 29, 30] [31, 32, 33, 34, 35, 36, 37, 38, 39, 40, 41, 42, 43, 44, 45, 46, 47, 48, 49, 50, 51, 52] rfl rfl (by decide) (by decide) (by decide) 0 rfl rfl rfl rfl hl.1 rfl (Nat.le_of_ble_eq_true rfl) dL_law_716 ⟨Nat.le_of_ble_eq_true rfl, Nat.le_of_ble_eq_true rfl⟩ (fun r_1 u_2 H locs hw_3 hP hD hS => ?_)
  obtain ⟨h_1, F_1, V_1⟩ := u_2
  obtain ⟨an1, hh1, hI1⟩ := hw_3
  dsimp only at an1 hh1 hI1 hP hD
  have hh : h_1 0 = h 0 := hh1
  have hP : va_P (dC, dI) vwCl (wC cI cZ h_1 F_1 V_1 ++ wM cI cZ cJ g F2 G V2) H := hP.sub [22, 23, 24, 25, 26, 27, 28, 29, 30, 31, 32, 33, 34, 35, 36, 37, 38, 39, 40, 41, 42, 43, 44, 45, 46, 47, 48, 49, 50, 51, 52, 0, 1, 2, 3, 4, 5, 6, 7, 8, 9, 10, 11, 12, 13, 14, 15, 16, 17, 18, 19, 20, 21] rfl
  have hD : va_D (fun q : Nat => s.heap.size ≤ q) (wC cI cZ h_1 F_1 V_1 ++ wM cI cZ cJ g F2 G V2) := hD.sub [22, 23, 24, 25, 26, 27, 28, 29, 30, 31, 32, 33, 34, 35, 36, 37, 38, 39, 40, 41, 42, 43, 44, 45, 46, 47, 48, 49, 50, 51, 52, 0, 1, 2, 3, 4, 5, 6, 7, 8, 9, 10, 11, 12, 13, 14, 15, 16, 17, 18, 19, 20, 21] (by decide) rfl
  refine lv_pop hx hb dL_law_719 rfl ?_
  refine lv_aload_n hx hb dL_law_720 rfl (lv_at hl 2 rfl) ?_
  refine cl_Vi (As := []) (rest := []) (wr := wC cI cZ h_1 F_1 V_1) (c_X5_earned l dC dI cI cZ cJ g F2 G V2 n vb2 bb2 nw vb3 bb3 un vb4 bb4 d vb6 bb6 wm vb7 bb7 pf vb10 bb10 shb vb11 bb11 So hSob bSob Lm hLmb bLmb Hh hHhb bHhb Wd hWdb bWdb Pr hPrb bPrb X hXb bXb Y hYb bYb  ks amb vb8 bb8 hk8 SX SY Kc Kp er rb hGPb hSXb hSYb hKcb hKpb hEb hRBb) fx (cwV 0 hts gL_law_X5_earned rfl rfl rfl (by decide +kernel) ⟨Nat.le_of_ble_eq_true rfl, Nat.le_of_ble_eq_true rfl⟩) hK hP hD hS hA [31, 32, 33, 34, 35, 36, 37, 38, 39, 40, 41, 42, 43, 44, 45, 46, 47, 48, 49, 50, 51, 52] [0, 1, 2, 3, 4, 5, 6, 7, 8, 9, 10, 11, 12, 13, 14, 15, 16, 17, 18, 19, 20, 21, 22, 23, 24, 25, 26, 27, 28, 29, 30] rfl rfl (by decide) (by decide) (by decide) 0 rfl rfl rfl rfl hl.1 rfl (Nat.le_of_ble_eq_true rfl) dL_law_721 ⟨Nat.le_of_ble_eq_true rfl, Nat.le_of_ble_eq_true rfl⟩ (fun r_4 u_5 H locs hw_6 hP hD hS => ?_)
  obtain ⟨F2_1, G_1, V2_1⟩ := u_5
  obtain ⟨an2, hI2⟩ := hw_6
  dsimp only at an2 hI2 hP hD
  have hI : LI F_1 V_1 F2_1 G_1 V2_1 := ⟨_, _, _, _, _, _, _, _, _, _, _, _, _, _, _, _, _, _, _, _, hI1, hI2⟩
  refine lv_pop hx hb dL_law_724 rfl ?_
  refine lv_goto (tgt := 869) hx hb dL_law_725 (by decide) ?_
  exact nx h_1 F_1 V_1 F2_1 G_1 V2_1 H locs ls hh hI hP hD hS hl
set_option maxHeartbeats 4000000 in
set_option maxRecDepth 100000 in
theorem lc_20 {p : Program} {l : Launch} {e : Env} {s : State} {m : MethodId} {below : List Frame} {meth : Method} {c : Code} {b : Nat} {xs : Nat → Int32} {dC : Nat → ClassId} {dI : Nat → Nat → Nat} {cI cZ cJ : ClassId} {g : Nat → Nat} {h0 : Nat} {L j : Nat} (C0 : lw_At p s m meth c b L xs) (hK : va_K (dC, dI) vwCl (tys3 cI cZ cJ) s) (hL : L ≤ 2560) (hj : 5 * j + 5 ≤ L) (nx : lwK p l e s m below meth c b dC dI cI cZ cJ g h0 869 j) : lwK p l e s m below meth c b dC dI cI cZ cJ g h0 728 j := by
  obtain ⟨hx, hb, hr, hml, hown, hts0, hX, hbl, hlocks, hgv⟩ := id C0
  have hbA : ¬ (fun q : Nat => s.heap.size ≤ q) b := Nat.not_le.mpr hbl
  have hts : ∀ w ∈ wsL_law, w.before #[Value.ref b] s = true := fun w h => hts0 w (wsL_law_in w h)
  have fx : CallFix p m c cL_law 4 s #[Value.ref b] wsL_law RL := ⟨hx, hb, hml, hown, hts⟩
  have hA : ∀ q : Nat, s.heap.size ≤ q → (fun q : Nat => s.heap.size ≤ q) q := fun _ h => h
  intro h F V F2 G V2 H locs ls hh hI hP hD hS hl
  subst hh
  obtain ⟨n, d, ks, nw, un, wm, pf, So, Hh, Wd, Lm, Pr, X, Y, SX, SY, Kc, Kp, er, rb, hVC, hVM⟩ := hI
  obtain ⟨⟨va1, ba1⟩, ⟨va2, ba2⟩, ⟨va3, ba3⟩, ⟨va4, ba4⟩, ⟨va5, ba5⟩, ⟨va6, ba6⟩, ⟨va9, ba9⟩, ⟨sha, va11, ba11⟩, ⟨hSoa, bSoa⟩, ⟨hHha, bHha⟩, ⟨hWda, bWda⟩, ⟨hLma, bLma⟩, ⟨hPra, bPra⟩, hkn, hGP, hSU, hGC, hF10, hF11, hKC, hE, hPL⟩ := hVC
  obtain ⟨⟨vb2, bb2⟩, ⟨vb3, bb3⟩, ⟨vb4, bb4⟩, ⟨vb6, bb6⟩, ⟨vb7, bb7⟩, ⟨vb10, bb10⟩, ⟨shb, vb11, bb11⟩, ⟨hSob, bSob⟩, ⟨hLmb, bLmb⟩, ⟨hHhb, bHhb⟩, ⟨hWdb, bWdb⟩, ⟨hPrb, bPrb⟩, ⟨hXb, bXb⟩, ⟨hYb, bYb⟩, ⟨amb, vb8, bb8, hk8⟩, hGPb, hSXb, hSYb, hKcb, hKpb, hEb, hRBb⟩ := hVM
  refine lv_aload_n hx hb dL_law_728 rfl (lv_at hl 1 rfl) ?_
  refine lv_aload_n hx hb dL_law_729 rfl (lv_at hl 0 rfl) ?_
  refine lv_iload_n hx hb dL_law_730 rfl (lv_at hl 3 rfl) ?_
  refine lv_iconst (v := 1) hx hb dL_law_731 (by decide) ?_
  refine lv_iadd hx hb dL_law_732 ?_
  refine lv_topi (fun x_1 ex_1 => ?_)
  obtain rfl : x_1 = nI (5 * j + 1) := ex_1.trans (nI_add (5 * j) 1)
  refine va_sld hx hb hX hbl hbA hS (vp_in_nI (n := 5 * j + 1) (N := L) (by omega) (by omega)) dL_law_733 ?_
  refine lv_aload_n hx hb dL_law_734 rfl (lv_at hl 0 rfl) ?_
  refine lv_iload_n hx hb dL_law_735 rfl (lv_at hl 3 rfl) ?_
  refine lv_iconst (v := 2) hx hb dL_law_736 (by decide) ?_
  refine lv_iadd hx hb dL_law_737 ?_
  refine lv_topi (fun x_2 ex_2 => ?_)
  obtain rfl : x_2 = nI (5 * j + 2) := ex_2.trans (nI_add (5 * j) 2)
  refine va_sld hx hb hX hbl hbA hS (vp_in_nI (n := 5 * j + 2) (N := L) (by omega) (by omega)) dL_law_738 ?_
  refine lv_aload_n hx hb dL_law_739 rfl (lv_at hl 0 rfl) ?_
  refine lv_iload_n hx hb dL_law_740 rfl (lv_at hl 3 rfl) ?_
  refine lv_iconst (v := 3) hx hb dL_law_741 (by decide) ?_
  refine lv_iadd hx hb dL_law_742 ?_
  refine lv_topi (fun x_3 ex_3 => ?_)
  obtain rfl : x_3 = nI (5 * j + 3) := ex_3.trans (nI_add (5 * j) 3)
  refine va_sld hx hb hX hbl hbA hS (vp_in_nI (n := 5 * j + 3) (N := L) (by omega) (by omega)) dL_law_743 ?_
  refine cl_Vi (As := [.int (xs (nI (5 * j + 1)).toNatClampNeg), .int (xs (nI (5 * j + 2)).toNatClampNeg), .int (xs (nI (5 * j + 3)).toNatClampNeg)]) (rest := []) (wr := wM cI cZ cJ g F2 G V2) (c_X4_shot l dC dI cI cZ cJ h F V n va1 ba1 d va2 ba2 ks va3 ba3 nw va4 ba4 un va5 ba5 wm va6 ba6 pf va9 ba9 sha va11 ba11 So hSoa bSoa Hh hHha bHha Wd hWda bWda Lm hLma bLma Pr hPra bPra (xs (nI (5 * j + 1)).toNatClampNeg) (xs (nI (5 * j + 2)).toNatClampNeg) (xs (nI (5 * j + 3)).toNatClampNeg) X Y SX SY Kc Kp er rb hkn hGP hSU hGC hF10 hF11 hKC hE hPL) fx (cwV 3 hts gL_law_X4_shot rfl rfl rfl (by decide +kernel) ⟨Nat.le_of_ble_eq_true rfl, Nat.le_of_ble_eq_true rfl⟩) hK hP hD hS hA [0, 1, 2, 3, 4, 5, 6, 7, 8, 9, 10, 11, 12, 13, 14, 15, 16, 17, 18, 19, 20, 21, 22, 23, 24, 25, 26, 27, 28, 29, 30] [31, 32, 33, 34, 35, 36, 37, 38, 39, 40, 41, 42, 43, 44, 45, 46, 47, 48, 49, 50, 51, 52] rfl rfl (by decide) (by decide) (by decide) 0 rfl rfl rfl rfl hl.1 rfl (Nat.le_of_ble_eq_true rfl) dL_law_744 ⟨Nat.le_of_ble_eq_true rfl, Nat.le_of_ble_eq_true rfl⟩ (fun r_4 u_5 H locs hw_6 hP hD hS => ?_)
  obtain ⟨h_1, F_1, V_1⟩ := u_5
  obtain ⟨an1, hh1, hI1⟩ := hw_6
  dsimp only at an1 hh1 hI1 hP hD
  have hh : h_1 0 = h 0 := hh1
  have hP : va_P (dC, dI) vwCl (wC cI cZ h_1 F_1 V_1 ++ wM cI cZ cJ g F2 G V2) H := hP.sub [22, 23, 24, 25, 26, 27, 28, 29, 30, 31, 32, 33, 34, 35, 36, 37, 38, 39, 40, 41, 42, 43, 44, 45, 46, 47, 48, 49, 50, 51, 52, 0, 1, 2, 3, 4, 5, 6, 7, 8, 9, 10, 11, 12, 13, 14, 15, 16, 17, 18, 19, 20, 21] rfl
  have hD : va_D (fun q : Nat => s.heap.size ≤ q) (wC cI cZ h_1 F_1 V_1 ++ wM cI cZ cJ g F2 G V2) := hD.sub [22, 23, 24, 25, 26, 27, 28, 29, 30, 31, 32, 33, 34, 35, 36, 37, 38, 39, 40, 41, 42, 43, 44, 45, 46, 47, 48, 49, 50, 51, 52, 0, 1, 2, 3, 4, 5, 6, 7, 8, 9, 10, 11, 12, 13, 14, 15, 16, 17, 18, 19, 20, 21] (by decide) rfl
  refine lv_pop hx hb dL_law_747 rfl ?_
  refine lv_aload_n hx hb dL_law_748 rfl (lv_at hl 2 rfl) ?_
  refine lv_aload_n hx hb dL_law_749 rfl (lv_at hl 0 rfl) ?_
  refine lv_iload_n hx hb dL_law_750 rfl (lv_at hl 3 rfl) ?_
  refine lv_iconst (v := 1) hx hb dL_law_751 (by decide) ?_
  refine lv_iadd hx hb dL_law_752 ?_
  refine lv_topi (fun x_7 ex_7 => ?_)
  obtain rfl : x_7 = nI (5 * j + 1) := ex_7.trans (nI_add (5 * j) 1)
  refine va_sld hx hb hX hbl hbA hS (vp_in_nI (n := 5 * j + 1) (N := L) (by omega) (by omega)) dL_law_753 ?_
  refine lv_aload_n hx hb dL_law_754 rfl (lv_at hl 0 rfl) ?_
  refine lv_iload_n hx hb dL_law_755 rfl (lv_at hl 3 rfl) ?_
  refine lv_iconst (v := 2) hx hb dL_law_756 (by decide) ?_
  refine lv_iadd hx hb dL_law_757 ?_
  refine lv_topi (fun x_8 ex_8 => ?_)
  obtain rfl : x_8 = nI (5 * j + 2) := ex_8.trans (nI_add (5 * j) 2)
  refine va_sld hx hb hX hbl hbA hS (vp_in_nI (n := 5 * j + 2) (N := L) (by omega) (by omega)) dL_law_758 ?_
  refine lv_aload_n hx hb dL_law_759 rfl (lv_at hl 0 rfl) ?_
  refine lv_iload_n hx hb dL_law_760 rfl (lv_at hl 3 rfl) ?_
  refine lv_iconst (v := 3) hx hb dL_law_761 (by decide) ?_
  refine lv_iadd hx hb dL_law_762 ?_
  refine lv_topi (fun x_9 ex_9 => ?_)
  obtain rfl : x_9 = nI (5 * j + 3) := ex_9.trans (nI_add (5 * j) 3)
  refine va_sld hx hb hX hbl hbA hS (vp_in_nI (n := 5 * j + 3) (N := L) (by omega) (by omega)) dL_law_763 ?_
  refine cl_Vi (As := [.int (xs (nI (5 * j + 1)).toNatClampNeg), .int (xs (nI (5 * j + 2)).toNatClampNeg), .int (xs (nI (5 * j + 3)).toNatClampNeg)]) (rest := []) (wr := wC cI cZ h_1 F_1 V_1) (c_X5_shot l dC dI cI cZ cJ g F2 G V2 n vb2 bb2 nw vb3 bb3 un vb4 bb4 d vb6 bb6 wm vb7 bb7 pf vb10 bb10 shb vb11 bb11 So hSob bSob Lm hLmb bLmb Hh hHhb bHhb Wd hWdb bWdb Pr hPrb bPrb X hXb bXb Y hYb bYb (xs (nI (5 * j + 1)).toNatClampNeg) (xs (nI (5 * j + 2)).toNatClampNeg) (xs (nI (5 * j + 3)).toNatClampNeg) ks amb vb8 bb8 hk8 SX SY Kc Kp er rb hGPb hSXb hSYb hKcb hKpb hEb hRBb) fx (cwV 3 hts gL_law_X5_shot rfl rfl rfl (by decide +kernel) ⟨Nat.le_of_ble_eq_true rfl, Nat.le_of_ble_eq_true rfl⟩) hK hP hD hS hA [31, 32, 33, 34, 35, 36, 37, 38, 39, 40, 41, 42, 43, 44, 45, 46, 47, 48, 49, 50, 51, 52] [0, 1, 2, 3, 4, 5, 6, 7, 8, 9, 10, 11, 12, 13, 14, 15, 16, 17, 18, 19, 20, 21, 22, 23, 24, 25, 26, 27, 28, 29, 30] rfl rfl (by decide) (by decide) (by decide) 0 rfl rfl rfl rfl hl.1 rfl (Nat.le_of_ble_eq_true rfl) dL_law_764 ⟨Nat.le_of_ble_eq_true rfl, Nat.le_of_ble_eq_true rfl⟩ (fun r_10 u_11 H locs hw_12 hP hD hS => ?_)
  obtain ⟨F2_1, G_1, V2_1⟩ := u_11
  obtain ⟨an2, hI2⟩ := hw_12
  dsimp only at an2 hI2 hP hD
  have hI : LI F_1 V_1 F2_1 G_1 V2_1 := ⟨_, _, _, _, _, _, _, _, _, _, _, _, _, _, _, _, _, _, _, _, hI1, hI2⟩
  refine lv_pop hx hb dL_law_767 rfl ?_
  refine lv_goto (tgt := 869) hx hb dL_law_768 (by decide) ?_
  exact nx h_1 F_1 V_1 F2_1 G_1 V2_1 H locs ls hh hI hP hD hS hl
set_option maxHeartbeats 4000000 in
set_option maxRecDepth 100000 in
theorem lc_21 {p : Program} {l : Launch} {e : Env} {s : State} {m : MethodId} {below : List Frame} {meth : Method} {c : Code} {b : Nat} {xs : Nat → Int32} {dC : Nat → ClassId} {dI : Nat → Nat → Nat} {cI cZ cJ : ClassId} {g : Nat → Nat} {h0 : Nat} {L j : Nat} (C0 : lw_At p s m meth c b L xs) (hK : va_K (dC, dI) vwCl (tys3 cI cZ cJ) s) (hL : L ≤ 2560) (hj : 5 * j + 5 ≤ L) (nx : lwK p l e s m below meth c b dC dI cI cZ cJ g h0 869 j) : lwK p l e s m below meth c b dC dI cI cZ cJ g h0 771 j := by
  obtain ⟨hx, hb, hr, hml, hown, hts0, hX, hbl, hlocks, hgv⟩ := id C0
  have hbA : ¬ (fun q : Nat => s.heap.size ≤ q) b := Nat.not_le.mpr hbl
  have hts : ∀ w ∈ wsL_law, w.before #[Value.ref b] s = true := fun w h => hts0 w (wsL_law_in w h)
  have fx : CallFix p m c cL_law 4 s #[Value.ref b] wsL_law RL := ⟨hx, hb, hml, hown, hts⟩
  have hA : ∀ q : Nat, s.heap.size ≤ q → (fun q : Nat => s.heap.size ≤ q) q := fun _ h => h
  intro h F V F2 G V2 H locs ls hh hI hP hD hS hl
  subst hh
  obtain ⟨n, d, ks, nw, un, wm, pf, So, Hh, Wd, Lm, Pr, X, Y, SX, SY, Kc, Kp, er, rb, hVC, hVM⟩ := hI
  obtain ⟨⟨va1, ba1⟩, ⟨va2, ba2⟩, ⟨va3, ba3⟩, ⟨va4, ba4⟩, ⟨va5, ba5⟩, ⟨va6, ba6⟩, ⟨va9, ba9⟩, ⟨sha, va11, ba11⟩, ⟨hSoa, bSoa⟩, ⟨hHha, bHha⟩, ⟨hWda, bWda⟩, ⟨hLma, bLma⟩, ⟨hPra, bPra⟩, hkn, hGP, hSU, hGC, hF10, hF11, hKC, hE, hPL⟩ := hVC
  obtain ⟨⟨vb2, bb2⟩, ⟨vb3, bb3⟩, ⟨vb4, bb4⟩, ⟨vb6, bb6⟩, ⟨vb7, bb7⟩, ⟨vb10, bb10⟩, ⟨shb, vb11, bb11⟩, ⟨hSob, bSob⟩, ⟨hLmb, bLmb⟩, ⟨hHhb, bHhb⟩, ⟨hWdb, bWdb⟩, ⟨hPrb, bPrb⟩, ⟨hXb, bXb⟩, ⟨hYb, bYb⟩, ⟨amb, vb8, bb8, hk8⟩, hGPb, hSXb, hSYb, hKcb, hKpb, hEb, hRBb⟩ := hVM
  refine lv_aload_n hx hb dL_law_771 rfl (lv_at hl 1 rfl) ?_
  refine cl_Vi (As := []) (rest := []) (wr := wM cI cZ cJ g F2 G V2) (c_X4_forget l dC dI cI cZ cJ h F V n va1 ba1 d va2 ba2 ks va3 ba3 nw va4 ba4 un va5 ba5 wm va6 ba6 pf va9 ba9 sha va11 ba11 So hSoa bSoa Hh hHha bHha Wd hWda bWda Lm hLma bLma Pr hPra bPra  X Y SX SY Kc Kp er rb hkn hGP hSU hGC hF10 hF11 hKC hE hPL) fx (cwV 0 hts gL_law_X4_forget rfl rfl rfl (by decide +kernel) ⟨Nat.le_of_ble_eq_true rfl, Nat.le_of_ble_eq_true rfl⟩) hK hP hD hS hA [0, 1, 2, 3, 4, 5, 6, 7, 8, 9, 10, 11, 12, 13, 14, 15, 16, 17, 18, 19, 20, 21, 22, 23, 24, 25, 26, 27, 28, 29, 30] [31, 32, 33, 34, 35, 36, 37, 38, 39, 40, 41, 42, 43, 44, 45, 46, 47, 48, 49, 50, 51, 52] rfl rfl (by decide) (by decide) (by decide) 0 rfl rfl rfl rfl hl.1 rfl (Nat.le_of_ble_eq_true rfl) dL_law_772 ⟨Nat.le_of_ble_eq_true rfl, Nat.le_of_ble_eq_true rfl⟩ (fun r_1 u_2 H locs hw_3 hP hD hS => ?_)
  obtain ⟨h_1, F_1, V_1⟩ := u_2
  obtain ⟨an1, hh1, hI1⟩ := hw_3
  dsimp only at an1 hh1 hI1 hP hD
  have hh : h_1 0 = h 0 := hh1
  have hP : va_P (dC, dI) vwCl (wC cI cZ h_1 F_1 V_1 ++ wM cI cZ cJ g F2 G V2) H := hP.sub [22, 23, 24, 25, 26, 27, 28, 29, 30, 31, 32, 33, 34, 35, 36, 37, 38, 39, 40, 41, 42, 43, 44, 45, 46, 47, 48, 49, 50, 51, 52, 0, 1, 2, 3, 4, 5, 6, 7, 8, 9, 10, 11, 12, 13, 14, 15, 16, 17, 18, 19, 20, 21] rfl
  have hD : va_D (fun q : Nat => s.heap.size ≤ q) (wC cI cZ h_1 F_1 V_1 ++ wM cI cZ cJ g F2 G V2) := hD.sub [22, 23, 24, 25, 26, 27, 28, 29, 30, 31, 32, 33, 34, 35, 36, 37, 38, 39, 40, 41, 42, 43, 44, 45, 46, 47, 48, 49, 50, 51, 52, 0, 1, 2, 3, 4, 5, 6, 7, 8, 9, 10, 11, 12, 13, 14, 15, 16, 17, 18, 19, 20, 21] (by decide) rfl
  refine lv_pop hx hb dL_law_775 rfl ?_
  refine lv_aload_n hx hb dL_law_776 rfl (lv_at hl 2 rfl) ?_
  refine cl_Vi (As := []) (rest := []) (wr := wC cI cZ h_1 F_1 V_1) (c_X5_forget l dC dI cI cZ cJ g F2 G V2 n vb2 bb2 nw vb3 bb3 un vb4 bb4 d vb6 bb6 wm vb7 bb7 pf vb10 bb10 shb vb11 bb11 So hSob bSob Lm hLmb bLmb Hh hHhb bHhb Wd hWdb bWdb Pr hPrb bPrb X hXb bXb Y hYb bYb  ks amb vb8 bb8 hk8 SX SY Kc Kp er rb hGPb hSXb hSYb hKcb hKpb hEb hRBb) fx (cwV 0 hts gL_law_X5_forget rfl rfl rfl (by decide +kernel) ⟨Nat.le_of_ble_eq_true rfl, Nat.le_of_ble_eq_true rfl⟩) hK hP hD hS hA [31, 32, 33, 34, 35, 36, 37, 38, 39, 40, 41, 42, 43, 44, 45, 46, 47, 48, 49, 50, 51, 52] [0, 1, 2, 3, 4, 5, 6, 7, 8, 9, 10, 11, 12, 13, 14, 15, 16, 17, 18, 19, 20, 21, 22, 23, 24, 25, 26, 27, 28, 29, 30] rfl rfl (by decide) (by decide) (by decide) 0 rfl rfl rfl rfl hl.1 rfl (Nat.le_of_ble_eq_true rfl) dL_law_777 ⟨Nat.le_of_ble_eq_true rfl, Nat.le_of_ble_eq_true rfl⟩ (fun r_4 u_5 H locs hw_6 hP hD hS => ?_)
  obtain ⟨F2_1, G_1, V2_1⟩ := u_5
  obtain ⟨an2, hI2⟩ := hw_6
  dsimp only at an2 hI2 hP hD
  have hI : LI F_1 V_1 F2_1 G_1 V2_1 := ⟨_, _, _, _, _, _, _, _, _, _, _, _, _, _, _, _, _, _, _, _, hI1, hI2⟩
  refine lv_pop hx hb dL_law_780 rfl ?_
  refine lv_goto (tgt := 869) hx hb dL_law_781 (by decide) ?_
  exact nx h_1 F_1 V_1 F2_1 G_1 V2_1 H locs ls hh hI hP hD hS hl
set_option maxHeartbeats 4000000 in
set_option maxRecDepth 100000 in
theorem lc_22 {p : Program} {l : Launch} {e : Env} {s : State} {m : MethodId} {below : List Frame} {meth : Method} {c : Code} {b : Nat} {xs : Nat → Int32} {dC : Nat → ClassId} {dI : Nat → Nat → Nat} {cI cZ cJ : ClassId} {g : Nat → Nat} {h0 : Nat} {L j : Nat} (C0 : lw_At p s m meth c b L xs) (hK : va_K (dC, dI) vwCl (tys3 cI cZ cJ) s) (hL : L ≤ 2560) (hj : 5 * j + 5 ≤ L) (nx : lwK p l e s m below meth c b dC dI cI cZ cJ g h0 869 j) : lwK p l e s m below meth c b dC dI cI cZ cJ g h0 784 j := by
  obtain ⟨hx, hb, hr, hml, hown, hts0, hX, hbl, hlocks, hgv⟩ := id C0
  have hbA : ¬ (fun q : Nat => s.heap.size ≤ q) b := Nat.not_le.mpr hbl
  have hts : ∀ w ∈ wsL_law, w.before #[Value.ref b] s = true := fun w h => hts0 w (wsL_law_in w h)
  have fx : CallFix p m c cL_law 4 s #[Value.ref b] wsL_law RL := ⟨hx, hb, hml, hown, hts⟩
  have hA : ∀ q : Nat, s.heap.size ≤ q → (fun q : Nat => s.heap.size ≤ q) q := fun _ h => h
  intro h F V F2 G V2 H locs ls hh hI hP hD hS hl
  subst hh
  obtain ⟨n, d, ks, nw, un, wm, pf, So, Hh, Wd, Lm, Pr, X, Y, SX, SY, Kc, Kp, er, rb, hVC, hVM⟩ := hI
  obtain ⟨⟨va1, ba1⟩, ⟨va2, ba2⟩, ⟨va3, ba3⟩, ⟨va4, ba4⟩, ⟨va5, ba5⟩, ⟨va6, ba6⟩, ⟨va9, ba9⟩, ⟨sha, va11, ba11⟩, ⟨hSoa, bSoa⟩, ⟨hHha, bHha⟩, ⟨hWda, bWda⟩, ⟨hLma, bLma⟩, ⟨hPra, bPra⟩, hkn, hGP, hSU, hGC, hF10, hF11, hKC, hE, hPL⟩ := hVC
  obtain ⟨⟨vb2, bb2⟩, ⟨vb3, bb3⟩, ⟨vb4, bb4⟩, ⟨vb6, bb6⟩, ⟨vb7, bb7⟩, ⟨vb10, bb10⟩, ⟨shb, vb11, bb11⟩, ⟨hSob, bSob⟩, ⟨hLmb, bLmb⟩, ⟨hHhb, bHhb⟩, ⟨hWdb, bWdb⟩, ⟨hPrb, bPrb⟩, ⟨hXb, bXb⟩, ⟨hYb, bYb⟩, ⟨amb, vb8, bb8, hk8⟩, hGPb, hSXb, hSYb, hKcb, hKpb, hEb, hRBb⟩ := hVM
  refine lv_aload_n hx hb dL_law_784 rfl (lv_at hl 1 rfl) ?_
  refine cl_Vi (As := []) (rest := []) (wr := wM cI cZ cJ g F2 G V2) (c_X4_agree l dC dI cI cZ cJ h F V n va1 ba1 d va2 ba2 ks va3 ba3 nw va4 ba4 un va5 ba5 wm va6 ba6 pf va9 ba9 sha va11 ba11 So hSoa bSoa Hh hHha bHha Wd hWda bWda Lm hLma bLma Pr hPra bPra  X Y SX SY Kc Kp er rb hkn hGP hSU hGC hF10 hF11 hKC hE hPL) fx (cwV 0 hts gL_law_X4_agree rfl rfl rfl (by decide +kernel) ⟨Nat.le_of_ble_eq_true rfl, Nat.le_of_ble_eq_true rfl⟩) hK hP hD hS hA [0, 1, 2, 3, 4, 5, 6, 7, 8, 9, 10, 11, 12, 13, 14, 15, 16, 17, 18, 19, 20, 21, 22, 23, 24, 25, 26, 27, 28, 29, 30] [31, 32, 33, 34, 35, 36, 37, 38, 39, 40, 41, 42, 43, 44, 45, 46, 47, 48, 49, 50, 51, 52] rfl rfl (by decide) (by decide) (by decide) 0 rfl rfl rfl rfl hl.1 rfl (Nat.le_of_ble_eq_true rfl) dL_law_785 ⟨Nat.le_of_ble_eq_true rfl, Nat.le_of_ble_eq_true rfl⟩ (fun r_1 u_2 H locs hw_3 hP hD hS => ?_)
  obtain ⟨h_1, F_1, V_1⟩ := u_2
  obtain ⟨an1, hh1, hI1⟩ := hw_3
  dsimp only at an1 hh1 hI1 hP hD
  have hh : h_1 0 = h 0 := hh1
  have hP : va_P (dC, dI) vwCl (wC cI cZ h_1 F_1 V_1 ++ wM cI cZ cJ g F2 G V2) H := hP.sub [22, 23, 24, 25, 26, 27, 28, 29, 30, 31, 32, 33, 34, 35, 36, 37, 38, 39, 40, 41, 42, 43, 44, 45, 46, 47, 48, 49, 50, 51, 52, 0, 1, 2, 3, 4, 5, 6, 7, 8, 9, 10, 11, 12, 13, 14, 15, 16, 17, 18, 19, 20, 21] rfl
  have hD : va_D (fun q : Nat => s.heap.size ≤ q) (wC cI cZ h_1 F_1 V_1 ++ wM cI cZ cJ g F2 G V2) := hD.sub [22, 23, 24, 25, 26, 27, 28, 29, 30, 31, 32, 33, 34, 35, 36, 37, 38, 39, 40, 41, 42, 43, 44, 45, 46, 47, 48, 49, 50, 51, 52, 0, 1, 2, 3, 4, 5, 6, 7, 8, 9, 10, 11, 12, 13, 14, 15, 16, 17, 18, 19, 20, 21] (by decide) rfl
  refine lv_pop hx hb dL_law_788 rfl ?_
  refine lv_aload_n hx hb dL_law_789 rfl (lv_at hl 2 rfl) ?_
  refine cl_Vi (As := []) (rest := []) (wr := wC cI cZ h_1 F_1 V_1) (c_X5_agree l dC dI cI cZ cJ g F2 G V2 n vb2 bb2 nw vb3 bb3 un vb4 bb4 d vb6 bb6 wm vb7 bb7 pf vb10 bb10 shb vb11 bb11 So hSob bSob Lm hLmb bLmb Hh hHhb bHhb Wd hWdb bWdb Pr hPrb bPrb X hXb bXb Y hYb bYb  ks amb vb8 bb8 hk8 SX SY Kc Kp er rb hGPb hSXb hSYb hKcb hKpb hEb hRBb) fx (cwV 0 hts gL_law_X5_agree rfl rfl rfl (by decide +kernel) ⟨Nat.le_of_ble_eq_true rfl, Nat.le_of_ble_eq_true rfl⟩) hK hP hD hS hA [31, 32, 33, 34, 35, 36, 37, 38, 39, 40, 41, 42, 43, 44, 45, 46, 47, 48, 49, 50, 51, 52] [0, 1, 2, 3, 4, 5, 6, 7, 8, 9, 10, 11, 12, 13, 14, 15, 16, 17, 18, 19, 20, 21, 22, 23, 24, 25, 26, 27, 28, 29, 30] rfl rfl (by decide) (by decide) (by decide) 0 rfl rfl rfl rfl hl.1 rfl (Nat.le_of_ble_eq_true rfl) dL_law_790 ⟨Nat.le_of_ble_eq_true rfl, Nat.le_of_ble_eq_true rfl⟩ (fun r_4 u_5 H locs hw_6 hP hD hS => ?_)
  obtain ⟨F2_1, G_1, V2_1⟩ := u_5
  obtain ⟨an2, hI2⟩ := hw_6
  dsimp only at an2 hI2 hP hD
  have hI : LI F_1 V_1 F2_1 G_1 V2_1 := ⟨_, _, _, _, _, _, _, _, _, _, _, _, _, _, _, _, _, _, _, _, hI1, hI2⟩
  refine lv_pop hx hb dL_law_793 rfl ?_
  refine lv_goto (tgt := 869) hx hb dL_law_794 (by decide) ?_
  exact nx h_1 F_1 V_1 F2_1 G_1 V2_1 H locs ls hh hI hP hD hS hl
set_option maxHeartbeats 4000000 in
set_option maxRecDepth 100000 in
theorem lc_23 {p : Program} {l : Launch} {e : Env} {s : State} {m : MethodId} {below : List Frame} {meth : Method} {c : Code} {b : Nat} {xs : Nat → Int32} {dC : Nat → ClassId} {dI : Nat → Nat → Nat} {cI cZ cJ : ClassId} {g : Nat → Nat} {h0 : Nat} {L j : Nat} (C0 : lw_At p s m meth c b L xs) (hK : va_K (dC, dI) vwCl (tys3 cI cZ cJ) s) (hL : L ≤ 2560) (hj : 5 * j + 5 ≤ L) (nx : lwK p l e s m below meth c b dC dI cI cZ cJ g h0 869 j) : lwK p l e s m below meth c b dC dI cI cZ cJ g h0 797 j := by
  obtain ⟨hx, hb, hr, hml, hown, hts0, hX, hbl, hlocks, hgv⟩ := id C0
  have hbA : ¬ (fun q : Nat => s.heap.size ≤ q) b := Nat.not_le.mpr hbl
  have hts : ∀ w ∈ wsL_law, w.before #[Value.ref b] s = true := fun w h => hts0 w (wsL_law_in w h)
  have fx : CallFix p m c cL_law 4 s #[Value.ref b] wsL_law RL := ⟨hx, hb, hml, hown, hts⟩
  have hA : ∀ q : Nat, s.heap.size ≤ q → (fun q : Nat => s.heap.size ≤ q) q := fun _ h => h
  intro h F V F2 G V2 H locs ls hh hI hP hD hS hl
  subst hh
  obtain ⟨n, d, ks, nw, un, wm, pf, So, Hh, Wd, Lm, Pr, X, Y, SX, SY, Kc, Kp, er, rb, hVC, hVM⟩ := hI
  obtain ⟨⟨va1, ba1⟩, ⟨va2, ba2⟩, ⟨va3, ba3⟩, ⟨va4, ba4⟩, ⟨va5, ba5⟩, ⟨va6, ba6⟩, ⟨va9, ba9⟩, ⟨sha, va11, ba11⟩, ⟨hSoa, bSoa⟩, ⟨hHha, bHha⟩, ⟨hWda, bWda⟩, ⟨hLma, bLma⟩, ⟨hPra, bPra⟩, hkn, hGP, hSU, hGC, hF10, hF11, hKC, hE, hPL⟩ := hVC
  obtain ⟨⟨vb2, bb2⟩, ⟨vb3, bb3⟩, ⟨vb4, bb4⟩, ⟨vb6, bb6⟩, ⟨vb7, bb7⟩, ⟨vb10, bb10⟩, ⟨shb, vb11, bb11⟩, ⟨hSob, bSob⟩, ⟨hLmb, bLmb⟩, ⟨hHhb, bHhb⟩, ⟨hWdb, bWdb⟩, ⟨hPrb, bPrb⟩, ⟨hXb, bXb⟩, ⟨hYb, bYb⟩, ⟨amb, vb8, bb8, hk8⟩, hGPb, hSXb, hSYb, hKcb, hKpb, hEb, hRBb⟩ := hVM
  refine lv_aload_n hx hb dL_law_797 rfl (lv_at hl 1 rfl) ?_
  refine lv_aload_n hx hb dL_law_798 rfl (lv_at hl 0 rfl) ?_
  refine lv_iload_n hx hb dL_law_799 rfl (lv_at hl 3 rfl) ?_
  refine lv_iconst (v := 1) hx hb dL_law_800 (by decide) ?_
  refine lv_iadd hx hb dL_law_801 ?_
  refine lv_topi (fun x_1 ex_1 => ?_)
  obtain rfl : x_1 = nI (5 * j + 1) := ex_1.trans (nI_add (5 * j) 1)
  refine va_sld hx hb hX hbl hbA hS (vp_in_nI (n := 5 * j + 1) (N := L) (by omega) (by omega)) dL_law_802 ?_
  refine cl_Vi (As := [.int (xs (nI (5 * j + 1)).toNatClampNeg)]) (rest := []) (wr := wM cI cZ cJ g F2 G V2) (c_X4_stuck l dC dI cI cZ cJ h F V n va1 ba1 d va2 ba2 ks va3 ba3 nw va4 ba4 un va5 ba5 wm va6 ba6 pf va9 ba9 sha va11 ba11 So hSoa bSoa Hh hHha bHha Wd hWda bWda Lm hLma bLma Pr hPra bPra (xs (nI (5 * j + 1)).toNatClampNeg) X Y SX SY Kc Kp er rb hkn hGP hSU hGC hF10 hF11 hKC hE hPL) fx (cwV 1 hts gL_law_X4_stuck rfl rfl rfl (by decide +kernel) ⟨Nat.le_of_ble_eq_true rfl, Nat.le_of_ble_eq_true rfl⟩) hK hP hD hS hA [0, 1, 2, 3, 4, 5, 6, 7, 8, 9, 10, 11, 12, 13, 14, 15, 16, 17, 18, 19, 20, 21, 22, 23, 24, 25, 26, 27, 28, 29, 30] [31, 32, 33, 34, 35, 36, 37, 38, 39, 40, 41, 42, 43, 44, 45, 46, 47, 48, 49, 50, 51, 52] rfl rfl (by decide) (by decide) (by decide) 0 rfl rfl rfl rfl hl.1 rfl (Nat.le_of_ble_eq_true rfl) dL_law_803 ⟨Nat.le_of_ble_eq_true rfl, Nat.le_of_ble_eq_true rfl⟩ (fun r_2 u_3 H locs hw_4 hP hD hS => ?_)
  obtain ⟨h_1, F_1, V_1⟩ := u_3
  obtain ⟨an1, hh1, hI1⟩ := hw_4
  dsimp only at an1 hh1 hI1 hP hD
  have hh : h_1 0 = h 0 := hh1
  have hP : va_P (dC, dI) vwCl (wC cI cZ h_1 F_1 V_1 ++ wM cI cZ cJ g F2 G V2) H := hP.sub [22, 23, 24, 25, 26, 27, 28, 29, 30, 31, 32, 33, 34, 35, 36, 37, 38, 39, 40, 41, 42, 43, 44, 45, 46, 47, 48, 49, 50, 51, 52, 0, 1, 2, 3, 4, 5, 6, 7, 8, 9, 10, 11, 12, 13, 14, 15, 16, 17, 18, 19, 20, 21] rfl
  have hD : va_D (fun q : Nat => s.heap.size ≤ q) (wC cI cZ h_1 F_1 V_1 ++ wM cI cZ cJ g F2 G V2) := hD.sub [22, 23, 24, 25, 26, 27, 28, 29, 30, 31, 32, 33, 34, 35, 36, 37, 38, 39, 40, 41, 42, 43, 44, 45, 46, 47, 48, 49, 50, 51, 52, 0, 1, 2, 3, 4, 5, 6, 7, 8, 9, 10, 11, 12, 13, 14, 15, 16, 17, 18, 19, 20, 21] (by decide) rfl
  refine lv_pop hx hb dL_law_806 rfl ?_
  refine lv_aload_n hx hb dL_law_807 rfl (lv_at hl 2 rfl) ?_
  refine lv_aload_n hx hb dL_law_808 rfl (lv_at hl 0 rfl) ?_
  refine lv_iload_n hx hb dL_law_809 rfl (lv_at hl 3 rfl) ?_
  refine lv_iconst (v := 1) hx hb dL_law_810 (by decide) ?_
  refine lv_iadd hx hb dL_law_811 ?_
  refine lv_topi (fun x_5 ex_5 => ?_)
  obtain rfl : x_5 = nI (5 * j + 1) := ex_5.trans (nI_add (5 * j) 1)
  refine va_sld hx hb hX hbl hbA hS (vp_in_nI (n := 5 * j + 1) (N := L) (by omega) (by omega)) dL_law_812 ?_
  refine cl_Vi (As := [.int (xs (nI (5 * j + 1)).toNatClampNeg)]) (rest := []) (wr := wC cI cZ h_1 F_1 V_1) (c_X5_stuck l dC dI cI cZ cJ g F2 G V2 n vb2 bb2 nw vb3 bb3 un vb4 bb4 d vb6 bb6 wm vb7 bb7 pf vb10 bb10 shb vb11 bb11 So hSob bSob Lm hLmb bLmb Hh hHhb bHhb Wd hWdb bWdb Pr hPrb bPrb X hXb bXb Y hYb bYb (xs (nI (5 * j + 1)).toNatClampNeg) ks amb vb8 bb8 hk8 SX SY Kc Kp er rb hGPb hSXb hSYb hKcb hKpb hEb hRBb) fx (cwV 1 hts gL_law_X5_stuck rfl rfl rfl (by decide +kernel) ⟨Nat.le_of_ble_eq_true rfl, Nat.le_of_ble_eq_true rfl⟩) hK hP hD hS hA [31, 32, 33, 34, 35, 36, 37, 38, 39, 40, 41, 42, 43, 44, 45, 46, 47, 48, 49, 50, 51, 52] [0, 1, 2, 3, 4, 5, 6, 7, 8, 9, 10, 11, 12, 13, 14, 15, 16, 17, 18, 19, 20, 21, 22, 23, 24, 25, 26, 27, 28, 29, 30] rfl rfl (by decide) (by decide) (by decide) 0 rfl rfl rfl rfl hl.1 rfl (Nat.le_of_ble_eq_true rfl) dL_law_813 ⟨Nat.le_of_ble_eq_true rfl, Nat.le_of_ble_eq_true rfl⟩ (fun r_6 u_7 H locs hw_8 hP hD hS => ?_)
  obtain ⟨F2_1, G_1, V2_1⟩ := u_7
  obtain ⟨an2, hI2⟩ := hw_8
  dsimp only at an2 hI2 hP hD
  have hI : LI F_1 V_1 F2_1 G_1 V2_1 := ⟨_, _, _, _, _, _, _, _, _, _, _, _, _, _, _, _, _, _, _, _, hI1, hI2⟩
  refine lv_pop hx hb dL_law_816 rfl ?_
  refine lv_goto (tgt := 869) hx hb dL_law_817 (by decide) ?_
  exact nx h_1 F_1 V_1 F2_1 G_1 V2_1 H locs ls hh hI hP hD hS hl
set_option maxHeartbeats 4000000 in
set_option maxRecDepth 100000 in
theorem lc_24 {p : Program} {l : Launch} {e : Env} {s : State} {m : MethodId} {below : List Frame} {meth : Method} {c : Code} {b : Nat} {xs : Nat → Int32} {dC : Nat → ClassId} {dI : Nat → Nat → Nat} {cI cZ cJ : ClassId} {g : Nat → Nat} {h0 : Nat} {L j : Nat} (C0 : lw_At p s m meth c b L xs) (hK : va_K (dC, dI) vwCl (tys3 cI cZ cJ) s) (hL : L ≤ 2560) (hj : 5 * j + 5 ≤ L) (nx : lwK p l e s m below meth c b dC dI cI cZ cJ g h0 869 j) : lwK p l e s m below meth c b dC dI cI cZ cJ g h0 820 j := by
  obtain ⟨hx, hb, hr, hml, hown, hts0, hX, hbl, hlocks, hgv⟩ := id C0
  have hbA : ¬ (fun q : Nat => s.heap.size ≤ q) b := Nat.not_le.mpr hbl
  have hts : ∀ w ∈ wsL_law, w.before #[Value.ref b] s = true := fun w h => hts0 w (wsL_law_in w h)
  have fx : CallFix p m c cL_law 4 s #[Value.ref b] wsL_law RL := ⟨hx, hb, hml, hown, hts⟩
  have hA : ∀ q : Nat, s.heap.size ≤ q → (fun q : Nat => s.heap.size ≤ q) q := fun _ h => h
  intro h F V F2 G V2 H locs ls hh hI hP hD hS hl
  subst hh
  obtain ⟨n, d, ks, nw, un, wm, pf, So, Hh, Wd, Lm, Pr, X, Y, SX, SY, Kc, Kp, er, rb, hVC, hVM⟩ := hI
  obtain ⟨⟨va1, ba1⟩, ⟨va2, ba2⟩, ⟨va3, ba3⟩, ⟨va4, ba4⟩, ⟨va5, ba5⟩, ⟨va6, ba6⟩, ⟨va9, ba9⟩, ⟨sha, va11, ba11⟩, ⟨hSoa, bSoa⟩, ⟨hHha, bHha⟩, ⟨hWda, bWda⟩, ⟨hLma, bLma⟩, ⟨hPra, bPra⟩, hkn, hGP, hSU, hGC, hF10, hF11, hKC, hE, hPL⟩ := hVC
  obtain ⟨⟨vb2, bb2⟩, ⟨vb3, bb3⟩, ⟨vb4, bb4⟩, ⟨vb6, bb6⟩, ⟨vb7, bb7⟩, ⟨vb10, bb10⟩, ⟨shb, vb11, bb11⟩, ⟨hSob, bSob⟩, ⟨hLmb, bLmb⟩, ⟨hHhb, bHhb⟩, ⟨hWdb, bWdb⟩, ⟨hPrb, bPrb⟩, ⟨hXb, bXb⟩, ⟨hYb, bYb⟩, ⟨amb, vb8, bb8, hk8⟩, hGPb, hSXb, hSYb, hKcb, hKpb, hEb, hRBb⟩ := hVM
  refine lv_aload_n hx hb dL_law_820 rfl (lv_at hl 1 rfl) ?_
  refine cl_Vi (As := []) (rest := []) (wr := wM cI cZ cJ g F2 G V2) (c_X4_unsure l dC dI cI cZ cJ h F V n va1 ba1 d va2 ba2 ks va3 ba3 nw va4 ba4 un va5 ba5 wm va6 ba6 pf va9 ba9 sha va11 ba11 So hSoa bSoa Hh hHha bHha Wd hWda bWda Lm hLma bLma Pr hPra bPra  X Y SX SY Kc Kp er rb hkn hGP hSU hGC hF10 hF11 hKC hE hPL) fx (cwV 0 hts gL_law_X4_unsure rfl rfl rfl (by decide +kernel) ⟨Nat.le_of_ble_eq_true rfl, Nat.le_of_ble_eq_true rfl⟩) hK hP hD hS hA [0, 1, 2, 3, 4, 5, 6, 7, 8, 9, 10, 11, 12, 13, 14, 15, 16, 17, 18, 19, 20, 21, 22, 23, 24, 25, 26, 27, 28, 29, 30] [31, 32, 33, 34, 35, 36, 37, 38, 39, 40, 41, 42, 43, 44, 45, 46, 47, 48, 49, 50, 51, 52] rfl rfl (by decide) (by decide) (by decide) 0 rfl rfl rfl rfl hl.1 rfl (Nat.le_of_ble_eq_true rfl) dL_law_821 ⟨Nat.le_of_ble_eq_true rfl, Nat.le_of_ble_eq_true rfl⟩ (fun r_1 u_2 H locs hw_3 hP hD hS => ?_)
  obtain ⟨h_1, F_1, V_1⟩ := u_2
  obtain ⟨an1, hh1, hI1⟩ := hw_3
  dsimp only at an1 hh1 hI1 hP hD
  have hh : h_1 0 = h 0 := hh1
  have hP : va_P (dC, dI) vwCl (wC cI cZ h_1 F_1 V_1 ++ wM cI cZ cJ g F2 G V2) H := hP.sub [22, 23, 24, 25, 26, 27, 28, 29, 30, 31, 32, 33, 34, 35, 36, 37, 38, 39, 40, 41, 42, 43, 44, 45, 46, 47, 48, 49, 50, 51, 52, 0, 1, 2, 3, 4, 5, 6, 7, 8, 9, 10, 11, 12, 13, 14, 15, 16, 17, 18, 19, 20, 21] rfl
  have hD : va_D (fun q : Nat => s.heap.size ≤ q) (wC cI cZ h_1 F_1 V_1 ++ wM cI cZ cJ g F2 G V2) := hD.sub [22, 23, 24, 25, 26, 27, 28, 29, 30, 31, 32, 33, 34, 35, 36, 37, 38, 39, 40, 41, 42, 43, 44, 45, 46, 47, 48, 49, 50, 51, 52, 0, 1, 2, 3, 4, 5, 6, 7, 8, 9, 10, 11, 12, 13, 14, 15, 16, 17, 18, 19, 20, 21] (by decide) rfl
  refine lv_pop hx hb dL_law_824 rfl ?_
  refine lv_aload_n hx hb dL_law_825 rfl (lv_at hl 2 rfl) ?_
  refine cl_Vi (As := []) (rest := []) (wr := wC cI cZ h_1 F_1 V_1) (c_X5_unsure l dC dI cI cZ cJ g F2 G V2 n vb2 bb2 nw vb3 bb3 un vb4 bb4 d vb6 bb6 wm vb7 bb7 pf vb10 bb10 shb vb11 bb11 So hSob bSob Lm hLmb bLmb Hh hHhb bHhb Wd hWdb bWdb Pr hPrb bPrb X hXb bXb Y hYb bYb  ks amb vb8 bb8 hk8 SX SY Kc Kp er rb hGPb hSXb hSYb hKcb hKpb hEb hRBb) fx (cwV 0 hts gL_law_X5_unsure rfl rfl rfl (by decide +kernel) ⟨Nat.le_of_ble_eq_true rfl, Nat.le_of_ble_eq_true rfl⟩) hK hP hD hS hA [31, 32, 33, 34, 35, 36, 37, 38, 39, 40, 41, 42, 43, 44, 45, 46, 47, 48, 49, 50, 51, 52] [0, 1, 2, 3, 4, 5, 6, 7, 8, 9, 10, 11, 12, 13, 14, 15, 16, 17, 18, 19, 20, 21, 22, 23, 24, 25, 26, 27, 28, 29, 30] rfl rfl (by decide) (by decide) (by decide) 0 rfl rfl rfl rfl hl.1 rfl (Nat.le_of_ble_eq_true rfl) dL_law_826 ⟨Nat.le_of_ble_eq_true rfl, Nat.le_of_ble_eq_true rfl⟩ (fun r_4 u_5 H locs hw_6 hP hD hS => ?_)
  obtain ⟨F2_1, G_1, V2_1⟩ := u_5
  obtain ⟨an2, hI2⟩ := hw_6
  dsimp only at an2 hI2 hP hD
  have hI : LI F_1 V_1 F2_1 G_1 V2_1 := ⟨_, _, _, _, _, _, _, _, _, _, _, _, _, _, _, _, _, _, _, _, hI1, hI2⟩
  refine lv_pop hx hb dL_law_829 rfl ?_
  refine lv_goto (tgt := 869) hx hb dL_law_830 (by decide) ?_
  exact nx h_1 F_1 V_1 F2_1 G_1 V2_1 H locs ls hh hI hP hD hS hl
set_option maxHeartbeats 4000000 in
set_option maxRecDepth 100000 in
theorem lc_25 {p : Program} {l : Launch} {e : Env} {s : State} {m : MethodId} {below : List Frame} {meth : Method} {c : Code} {b : Nat} {xs : Nat → Int32} {dC : Nat → ClassId} {dI : Nat → Nat → Nat} {cI cZ cJ : ClassId} {g : Nat → Nat} {h0 : Nat} {L j : Nat} (C0 : lw_At p s m meth c b L xs) (hK : va_K (dC, dI) vwCl (tys3 cI cZ cJ) s) (hL : L ≤ 2560) (hj : 5 * j + 5 ≤ L) (nx : lwK p l e s m below meth c b dC dI cI cZ cJ g h0 869 j) : lwK p l e s m below meth c b dC dI cI cZ cJ g h0 833 j := by
  obtain ⟨hx, hb, hr, hml, hown, hts0, hX, hbl, hlocks, hgv⟩ := id C0
  have hbA : ¬ (fun q : Nat => s.heap.size ≤ q) b := Nat.not_le.mpr hbl
  have hts : ∀ w ∈ wsL_law, w.before #[Value.ref b] s = true := fun w h => hts0 w (wsL_law_in w h)
  have fx : CallFix p m c cL_law 4 s #[Value.ref b] wsL_law RL := ⟨hx, hb, hml, hown, hts⟩
  have hA : ∀ q : Nat, s.heap.size ≤ q → (fun q : Nat => s.heap.size ≤ q) q := fun _ h => h
  intro h F V F2 G V2 H locs ls hh hI hP hD hS hl
  subst hh
  obtain ⟨n, d, ks, nw, un, wm, pf, So, Hh, Wd, Lm, Pr, X, Y, SX, SY, Kc, Kp, er, rb, hVC, hVM⟩ := hI
  obtain ⟨⟨va1, ba1⟩, ⟨va2, ba2⟩, ⟨va3, ba3⟩, ⟨va4, ba4⟩, ⟨va5, ba5⟩, ⟨va6, ba6⟩, ⟨va9, ba9⟩, ⟨sha, va11, ba11⟩, ⟨hSoa, bSoa⟩, ⟨hHha, bHha⟩, ⟨hWda, bWda⟩, ⟨hLma, bLma⟩, ⟨hPra, bPra⟩, hkn, hGP, hSU, hGC, hF10, hF11, hKC, hE, hPL⟩ := hVC
  obtain ⟨⟨vb2, bb2⟩, ⟨vb3, bb3⟩, ⟨vb4, bb4⟩, ⟨vb6, bb6⟩, ⟨vb7, bb7⟩, ⟨vb10, bb10⟩, ⟨shb, vb11, bb11⟩, ⟨hSob, bSob⟩, ⟨hLmb, bLmb⟩, ⟨hHhb, bHhb⟩, ⟨hWdb, bWdb⟩, ⟨hPrb, bPrb⟩, ⟨hXb, bXb⟩, ⟨hYb, bYb⟩, ⟨amb, vb8, bb8, hk8⟩, hGPb, hSXb, hSYb, hKcb, hKpb, hEb, hRBb⟩ := hVM
  refine lv_aload_n hx hb dL_law_833 rfl (lv_at hl 1 rfl) ?_
  refine lv_aload_n hx hb dL_law_834 rfl (lv_at hl 0 rfl) ?_
  refine lv_iload_n hx hb dL_law_835 rfl (lv_at hl 3 rfl) ?_
  refine lv_iconst (v := 1) hx hb dL_law_836 (by decide) ?_
  refine lv_iadd hx hb dL_law_837 ?_
  refine lv_topi (fun x_1 ex_1 => ?_)
  obtain rfl : x_1 = nI (5 * j + 1) := ex_1.trans (nI_add (5 * j) 1)
  refine va_sld hx hb hX hbl hbA hS (vp_in_nI (n := 5 * j + 1) (N := L) (by omega) (by omega)) dL_law_838 ?_
  refine cl_Vi (As := [.int (xs (nI (5 * j + 1)).toNatClampNeg)]) (rest := []) (wr := wM cI cZ cJ g F2 G V2) (c_X4_count l dC dI cI cZ cJ h F V n va1 ba1 d va2 ba2 ks va3 ba3 nw va4 ba4 un va5 ba5 wm va6 ba6 pf va9 ba9 sha va11 ba11 So hSoa bSoa Hh hHha bHha Wd hWda bWda Lm hLma bLma Pr hPra bPra (xs (nI (5 * j + 1)).toNatClampNeg) X Y SX SY Kc Kp er rb hkn hGP hSU hGC hF10 hF11 hKC hE hPL) fx (cwV 1 hts gL_law_X4_count rfl rfl rfl (by decide +kernel) ⟨Nat.le_of_ble_eq_true rfl, Nat.le_of_ble_eq_true rfl⟩) hK hP hD hS hA [0, 1, 2, 3, 4, 5, 6, 7, 8, 9, 10, 11, 12, 13, 14, 15, 16, 17, 18, 19, 20, 21, 22, 23, 24, 25, 26, 27, 28, 29, 30] [31, 32, 33, 34, 35, 36, 37, 38, 39, 40, 41, 42, 43, 44, 45, 46, 47, 48, 49, 50, 51, 52] rfl rfl (by decide) (by decide) (by decide) 0 rfl rfl rfl rfl hl.1 rfl (Nat.le_of_ble_eq_true rfl) dL_law_839 ⟨Nat.le_of_ble_eq_true rfl, Nat.le_of_ble_eq_true rfl⟩ (fun r_2 u_3 H locs hw_4 hP hD hS => ?_)
  obtain ⟨h_1, F_1, V_1⟩ := u_3
  obtain ⟨an1, hh1, hI1⟩ := hw_4
  dsimp only at an1 hh1 hI1 hP hD
  have hh : h_1 0 = h 0 := hh1
  have hP : va_P (dC, dI) vwCl (wC cI cZ h_1 F_1 V_1 ++ wM cI cZ cJ g F2 G V2) H := hP.sub [22, 23, 24, 25, 26, 27, 28, 29, 30, 31, 32, 33, 34, 35, 36, 37, 38, 39, 40, 41, 42, 43, 44, 45, 46, 47, 48, 49, 50, 51, 52, 0, 1, 2, 3, 4, 5, 6, 7, 8, 9, 10, 11, 12, 13, 14, 15, 16, 17, 18, 19, 20, 21] rfl
  have hD : va_D (fun q : Nat => s.heap.size ≤ q) (wC cI cZ h_1 F_1 V_1 ++ wM cI cZ cJ g F2 G V2) := hD.sub [22, 23, 24, 25, 26, 27, 28, 29, 30, 31, 32, 33, 34, 35, 36, 37, 38, 39, 40, 41, 42, 43, 44, 45, 46, 47, 48, 49, 50, 51, 52, 0, 1, 2, 3, 4, 5, 6, 7, 8, 9, 10, 11, 12, 13, 14, 15, 16, 17, 18, 19, 20, 21] (by decide) rfl
  refine lv_pop hx hb dL_law_842 rfl ?_
  refine lv_aload_n hx hb dL_law_843 rfl (lv_at hl 2 rfl) ?_
  refine lv_aload_n hx hb dL_law_844 rfl (lv_at hl 0 rfl) ?_
  refine lv_iload_n hx hb dL_law_845 rfl (lv_at hl 3 rfl) ?_
  refine lv_iconst (v := 1) hx hb dL_law_846 (by decide) ?_
  refine lv_iadd hx hb dL_law_847 ?_
  refine lv_topi (fun x_5 ex_5 => ?_)
  obtain rfl : x_5 = nI (5 * j + 1) := ex_5.trans (nI_add (5 * j) 1)
  refine va_sld hx hb hX hbl hbA hS (vp_in_nI (n := 5 * j + 1) (N := L) (by omega) (by omega)) dL_law_848 ?_
  refine cl_Vi (As := [.int (xs (nI (5 * j + 1)).toNatClampNeg)]) (rest := []) (wr := wC cI cZ h_1 F_1 V_1) (c_X5_count l dC dI cI cZ cJ g F2 G V2 n vb2 bb2 nw vb3 bb3 un vb4 bb4 d vb6 bb6 wm vb7 bb7 pf vb10 bb10 shb vb11 bb11 So hSob bSob Lm hLmb bLmb Hh hHhb bHhb Wd hWdb bWdb Pr hPrb bPrb X hXb bXb Y hYb bYb (xs (nI (5 * j + 1)).toNatClampNeg) ks amb vb8 bb8 hk8 SX SY Kc Kp er rb hGPb hSXb hSYb hKcb hKpb hEb hRBb) fx (cwV 1 hts gL_law_X5_count rfl rfl rfl (by decide +kernel) ⟨Nat.le_of_ble_eq_true rfl, Nat.le_of_ble_eq_true rfl⟩) hK hP hD hS hA [31, 32, 33, 34, 35, 36, 37, 38, 39, 40, 41, 42, 43, 44, 45, 46, 47, 48, 49, 50, 51, 52] [0, 1, 2, 3, 4, 5, 6, 7, 8, 9, 10, 11, 12, 13, 14, 15, 16, 17, 18, 19, 20, 21, 22, 23, 24, 25, 26, 27, 28, 29, 30] rfl rfl (by decide) (by decide) (by decide) 0 rfl rfl rfl rfl hl.1 rfl (Nat.le_of_ble_eq_true rfl) dL_law_849 ⟨Nat.le_of_ble_eq_true rfl, Nat.le_of_ble_eq_true rfl⟩ (fun r_6 u_7 H locs hw_8 hP hD hS => ?_)
  obtain ⟨F2_1, G_1, V2_1⟩ := u_7
  obtain ⟨an2, hI2⟩ := hw_8
  dsimp only at an2 hI2 hP hD
  have hI : LI F_1 V_1 F2_1 G_1 V2_1 := ⟨_, _, _, _, _, _, _, _, _, _, _, _, _, _, _, _, _, _, _, _, hI1, hI2⟩
  refine lv_pop hx hb dL_law_852 rfl ?_
  refine lv_goto (tgt := 869) hx hb dL_law_853 (by decide) ?_
  exact nx h_1 F_1 V_1 F2_1 G_1 V2_1 H locs ls hh hI hP hD hS hl
set_option maxHeartbeats 4000000 in
set_option maxRecDepth 100000 in
theorem lc_26 {p : Program} {l : Launch} {e : Env} {s : State} {m : MethodId} {below : List Frame} {meth : Method} {c : Code} {b : Nat} {xs : Nat → Int32} {dC : Nat → ClassId} {dI : Nat → Nat → Nat} {cI cZ cJ : ClassId} {g : Nat → Nat} {h0 : Nat} {L j : Nat} (C0 : lw_At p s m meth c b L xs) (hK : va_K (dC, dI) vwCl (tys3 cI cZ cJ) s) (hL : L ≤ 2560) (hj : 5 * j + 5 ≤ L) (nx : lwK p l e s m below meth c b dC dI cI cZ cJ g h0 869 j) : lwK p l e s m below meth c b dC dI cI cZ cJ g h0 856 j := by
  obtain ⟨hx, hb, hr, hml, hown, hts0, hX, hbl, hlocks, hgv⟩ := id C0
  have hbA : ¬ (fun q : Nat => s.heap.size ≤ q) b := Nat.not_le.mpr hbl
  have hts : ∀ w ∈ wsL_law, w.before #[Value.ref b] s = true := fun w h => hts0 w (wsL_law_in w h)
  have fx : CallFix p m c cL_law 4 s #[Value.ref b] wsL_law RL := ⟨hx, hb, hml, hown, hts⟩
  have hA : ∀ q : Nat, s.heap.size ≤ q → (fun q : Nat => s.heap.size ≤ q) q := fun _ h => h
  intro h F V F2 G V2 H locs ls hh hI hP hD hS hl
  subst hh
  obtain ⟨n, d, ks, nw, un, wm, pf, So, Hh, Wd, Lm, Pr, X, Y, SX, SY, Kc, Kp, er, rb, hVC, hVM⟩ := hI
  obtain ⟨⟨va1, ba1⟩, ⟨va2, ba2⟩, ⟨va3, ba3⟩, ⟨va4, ba4⟩, ⟨va5, ba5⟩, ⟨va6, ba6⟩, ⟨va9, ba9⟩, ⟨sha, va11, ba11⟩, ⟨hSoa, bSoa⟩, ⟨hHha, bHha⟩, ⟨hWda, bWda⟩, ⟨hLma, bLma⟩, ⟨hPra, bPra⟩, hkn, hGP, hSU, hGC, hF10, hF11, hKC, hE, hPL⟩ := hVC
  obtain ⟨⟨vb2, bb2⟩, ⟨vb3, bb3⟩, ⟨vb4, bb4⟩, ⟨vb6, bb6⟩, ⟨vb7, bb7⟩, ⟨vb10, bb10⟩, ⟨shb, vb11, bb11⟩, ⟨hSob, bSob⟩, ⟨hLmb, bLmb⟩, ⟨hHhb, bHhb⟩, ⟨hWdb, bWdb⟩, ⟨hPrb, bPrb⟩, ⟨hXb, bXb⟩, ⟨hYb, bYb⟩, ⟨amb, vb8, bb8, hk8⟩, hGPb, hSXb, hSYb, hKcb, hKpb, hEb, hRBb⟩ := hVM
  refine lv_aload_n hx hb dL_law_856 rfl (lv_at hl 1 rfl) ?_
  refine cl_Vi (As := []) (rest := []) (wr := wM cI cZ cJ g F2 G V2) (c_X4_trouble l dC dI cI cZ cJ h F V n va1 ba1 d va2 ba2 ks va3 ba3 nw va4 ba4 un va5 ba5 wm va6 ba6 pf va9 ba9 sha va11 ba11 So hSoa bSoa Hh hHha bHha Wd hWda bWda Lm hLma bLma Pr hPra bPra  X Y SX SY Kc Kp er rb hkn hGP hSU hGC hF10 hF11 hKC hE hPL) fx (cwV 0 hts gL_law_X4_trouble rfl rfl rfl (by decide +kernel) ⟨Nat.le_of_ble_eq_true rfl, Nat.le_of_ble_eq_true rfl⟩) hK hP hD hS hA [0, 1, 2, 3, 4, 5, 6, 7, 8, 9, 10, 11, 12, 13, 14, 15, 16, 17, 18, 19, 20, 21, 22, 23, 24, 25, 26, 27, 28, 29, 30] [31, 32, 33, 34, 35, 36, 37, 38, 39, 40, 41, 42, 43, 44, 45, 46, 47, 48, 49, 50, 51, 52] rfl rfl (by decide) (by decide) (by decide) 0 rfl rfl rfl rfl hl.1 rfl (Nat.le_of_ble_eq_true rfl) dL_law_857 ⟨Nat.le_of_ble_eq_true rfl, Nat.le_of_ble_eq_true rfl⟩ (fun r_1 u_2 H locs hw_3 hP hD hS => ?_)
  obtain ⟨h_1, F_1, V_1⟩ := u_2
  obtain ⟨an1, hh1, hI1⟩ := hw_3
  dsimp only at an1 hh1 hI1 hP hD
  have hh : h_1 0 = h 0 := hh1
  have hP : va_P (dC, dI) vwCl (wC cI cZ h_1 F_1 V_1 ++ wM cI cZ cJ g F2 G V2) H := hP.sub [22, 23, 24, 25, 26, 27, 28, 29, 30, 31, 32, 33, 34, 35, 36, 37, 38, 39, 40, 41, 42, 43, 44, 45, 46, 47, 48, 49, 50, 51, 52, 0, 1, 2, 3, 4, 5, 6, 7, 8, 9, 10, 11, 12, 13, 14, 15, 16, 17, 18, 19, 20, 21] rfl
  have hD : va_D (fun q : Nat => s.heap.size ≤ q) (wC cI cZ h_1 F_1 V_1 ++ wM cI cZ cJ g F2 G V2) := hD.sub [22, 23, 24, 25, 26, 27, 28, 29, 30, 31, 32, 33, 34, 35, 36, 37, 38, 39, 40, 41, 42, 43, 44, 45, 46, 47, 48, 49, 50, 51, 52, 0, 1, 2, 3, 4, 5, 6, 7, 8, 9, 10, 11, 12, 13, 14, 15, 16, 17, 18, 19, 20, 21] (by decide) rfl
  refine lv_pop hx hb dL_law_860 rfl ?_
  refine lv_aload_n hx hb dL_law_861 rfl (lv_at hl 2 rfl) ?_
  refine cl_Vi (As := []) (rest := []) (wr := wC cI cZ h_1 F_1 V_1) (c_X5_trouble l dC dI cI cZ cJ g F2 G V2 n vb2 bb2 nw vb3 bb3 un vb4 bb4 d vb6 bb6 wm vb7 bb7 pf vb10 bb10 shb vb11 bb11 So hSob bSob Lm hLmb bLmb Hh hHhb bHhb Wd hWdb bWdb Pr hPrb bPrb X hXb bXb Y hYb bYb  ks amb vb8 bb8 hk8 SX SY Kc Kp er rb hGPb hSXb hSYb hKcb hKpb hEb hRBb) fx (cwV 0 hts gL_law_X5_trouble rfl rfl rfl (by decide +kernel) ⟨Nat.le_of_ble_eq_true rfl, Nat.le_of_ble_eq_true rfl⟩) hK hP hD hS hA [31, 32, 33, 34, 35, 36, 37, 38, 39, 40, 41, 42, 43, 44, 45, 46, 47, 48, 49, 50, 51, 52] [0, 1, 2, 3, 4, 5, 6, 7, 8, 9, 10, 11, 12, 13, 14, 15, 16, 17, 18, 19, 20, 21, 22, 23, 24, 25, 26, 27, 28, 29, 30] rfl rfl (by decide) (by decide) (by decide) 0 rfl rfl rfl rfl hl.1 rfl (Nat.le_of_ble_eq_true rfl) dL_law_862 ⟨Nat.le_of_ble_eq_true rfl, Nat.le_of_ble_eq_true rfl⟩ (fun r_4 u_5 H locs hw_6 hP hD hS => ?_)
  obtain ⟨F2_1, G_1, V2_1⟩ := u_5
  obtain ⟨an2, hI2⟩ := hw_6
  dsimp only at an2 hI2 hP hD
  have hI : LI F_1 V_1 F2_1 G_1 V2_1 := ⟨_, _, _, _, _, _, _, _, _, _, _, _, _, _, _, _, _, _, _, _, hI1, hI2⟩
  refine lv_pop hx hb dL_law_865 rfl ?_
  refine lv_goto (tgt := 869) hx hb dL_law_866 (by decide) ?_
  exact nx h_1 F_1 V_1 F2_1 G_1 V2_1 H locs ls hh hI hP hD hS hl
