set_option maxHeartbeats 4000000 in
set_option maxRecDepth 100000 in
theorem lc_9 {p : Program} {l : Launch} {e : Env} {s : State} {m : MethodId} {below : List Frame} {meth : Method} {c : Code} {b : Nat} {xs : Nat → Int32} {dC : Nat → ClassId} {dI : Nat → Nat → Nat} {cI cZ cJ : ClassId} {g : Nat → Nat} {h0 : Nat} {L j : Nat} (C0 : lw_At p s m meth c b L xs) (hK : va_K (dC, dI) vwCl (tys3 cI cZ cJ) s) (hL : L ≤ 2560) (hj : 5 * j + 5 ≤ L) (nx : lwK p l e s m below meth c b dC dI cI cZ cJ g h0 869 j) : lwK p l e s m below meth c b dC dI cI cZ cJ g h0 479 j := by
  obtain ⟨hx, hb, hr, hml, hown, hts0, hX, hbl, hlocks, hgv⟩ := id C0
  have hbA : ¬ (fun q : Nat => s.heap.size ≤ q) b := Nat.not_le.mpr hbl
  have hts : ∀ w ∈ wsL_law, w.before #[Value.ref b] s = true := fun w h => hts0 w (wsL_law_in w h)
  have fx : CallFix p m c cL_law 4 s #[Value.ref b] wsL_law RL := ⟨hx, hb, hml, hown, hts⟩
  have hA : ∀ q : Nat, s.heap.size ≤ q → (fun q : Nat => s.heap.size ≤ q) q := fun _ h => h
  intro h F V F2 G V2 H locs ls hh hI hP hD hS hl
  subst hh
  obtain ⟨n, d, ks, nw, un, wm, pf, So, Hh, Wd, Lm, Pr, X, Y, SX, SY, Kc, Kp, er, rb, hVC, hVM⟩ := hI
  obtain ⟨⟨va1, ba1⟩, ⟨va2, ba2⟩, ⟨va3, ba3⟩, ⟨va4, ba4⟩, ⟨va5, ba5⟩, ⟨va6, ba6⟩, ⟨va9, ba9⟩, ⟨sha, va11, ba11⟩, ⟨hSoa, bSoa⟩, ⟨hHha, bHha⟩, ⟨hWda, bWda⟩, ⟨hLma, bLma⟩, ⟨hPra, bPra⟩, hkn, hGP, hSU, hGC, hF10, hF11, hKC, hE, hPL⟩ := hVC
  obtain ⟨⟨vb2, bb2⟩, ⟨vb3, bb3⟩, ⟨vb4, bb4⟩, ⟨vb6, bb6⟩, ⟨vb7, bb7⟩, ⟨vb10, bb10⟩, ⟨shb, vb11, bb11⟩, ⟨hSob, bSob⟩, ⟨hLmb, bLmb⟩, ⟨hHhb, bHhb⟩, ⟨hWdb, bWdb⟩, ⟨hPrb, bPrb⟩, ⟨hXb, bXb⟩, ⟨hYb, bYb⟩, ⟨amb, vb8, bb8, hk8⟩, hGPb, hSXb, hSYb, hKcb, hKpb, hEb, hRBb⟩ := hVM
  refine lv_aload_n hx hb dL_law_479 rfl (lv_at hl 1 rfl) ?_
  refine lv_aload_n hx hb dL_law_480 rfl (lv_at hl 0 rfl) ?_
  refine lv_iload_n hx hb dL_law_481 rfl (lv_at hl 3 rfl) ?_
  refine lv_iconst (v := 1) hx hb dL_law_482 (by decide) ?_
  refine lv_iadd hx hb dL_law_483 ?_
  refine lv_topi (fun x_1 ex_1 => ?_)
  obtain rfl : x_1 = nI (5 * j + 1) := ex_1.trans (nI_add (5 * j) 1)
  refine va_sld hx hb hX hbl hbA hS (vp_in_nI (n := 5 * j + 1) (N := L) (by omega) (by omega)) dL_law_484 ?_
  refine cl_Vi (As := [.int (xs (nI (5 * j + 1)).toNatClampNeg)]) (rest := []) (wr := wM cI cZ cJ g F2 G V2) (c_X4_soil l dC dI cI cZ cJ h F V n va1 ba1 d va2 ba2 ks va3 ba3 nw va4 ba4 un va5 ba5 wm va6 ba6 pf va9 ba9 sha va11 ba11 So hSoa bSoa Hh hHha bHha Wd hWda bWda Lm hLma bLma Pr hPra bPra (xs (nI (5 * j + 1)).toNatClampNeg) X Y SX SY Kc Kp er rb hkn hGP hSU hGC hF10 hF11 hKC hE hPL) fx (cwV 1 hts gL_law_X4_soil rfl rfl rfl (by decide +kernel) ⟨Nat.le_of_ble_eq_true rfl, Nat.le_of_ble_eq_true rfl⟩) hK hP hD hS hA [0, 1, 2, 3, 4, 5, 6, 7, 8, 9, 10, 11, 12, 13, 14, 15, 16, 17, 18, 19, 20, 21, 22, 23, 24, 25, 26, 27, 28, 29, 30] [31, 32, 33, 34, 35, 36, 37, 38, 39, 40, 41, 42, 43, 44, 45, 46, 47, 48, 49, 50, 51, 52] rfl rfl (by decide) (by decide) (by decide) 0 rfl rfl rfl rfl hl.1 rfl (Nat.le_of_ble_eq_true rfl) dL_law_485 ⟨Nat.le_of_ble_eq_true rfl, Nat.le_of_ble_eq_true rfl⟩ (fun r_2 u_3 H locs hw_4 hP hD hS => ?_)
  obtain ⟨h_1, F_1, V_1⟩ := u_3
  obtain ⟨an1, hh1, hI1⟩ := hw_4
  dsimp only at an1 hh1 hI1 hP hD
  have hh : h_1 0 = h 0 := hh1
  have hP : va_P (dC, dI) vwCl (wC cI cZ h_1 F_1 V_1 ++ wM cI cZ cJ g F2 G V2) H := hP.sub [22, 23, 24, 25, 26, 27, 28, 29, 30, 31, 32, 33, 34, 35, 36, 37, 38, 39, 40, 41, 42, 43, 44, 45, 46, 47, 48, 49, 50, 51, 52, 0, 1, 2, 3, 4, 5, 6, 7, 8, 9, 10, 11, 12, 13, 14, 15, 16, 17, 18, 19, 20, 21] rfl
  have hD : va_D (fun q : Nat => s.heap.size ≤ q) (wC cI cZ h_1 F_1 V_1 ++ wM cI cZ cJ g F2 G V2) := hD.sub [22, 23, 24, 25, 26, 27, 28, 29, 30, 31, 32, 33, 34, 35, 36, 37, 38, 39, 40, 41, 42, 43, 44, 45, 46, 47, 48, 49, 50, 51, 52, 0, 1, 2, 3, 4, 5, 6, 7, 8, 9, 10, 11, 12, 13, 14, 15, 16, 17, 18, 19, 20, 21] (by decide) rfl
  refine lv_pop hx hb dL_law_488 rfl ?_
  refine lv_aload_n hx hb dL_law_489 rfl (lv_at hl 2 rfl) ?_
  refine lv_aload_n hx hb dL_law_490 rfl (lv_at hl 0 rfl) ?_
  refine lv_iload_n hx hb dL_law_491 rfl (lv_at hl 3 rfl) ?_
  refine lv_iconst (v := 1) hx hb dL_law_492 (by decide) ?_
  refine lv_iadd hx hb dL_law_493 ?_
  refine lv_topi (fun x_5 ex_5 => ?_)
  obtain rfl : x_5 = nI (5 * j + 1) := ex_5.trans (nI_add (5 * j) 1)
  refine va_sld hx hb hX hbl hbA hS (vp_in_nI (n := 5 * j + 1) (N := L) (by omega) (by omega)) dL_law_494 ?_
  refine cl_Vi (As := [.int (xs (nI (5 * j + 1)).toNatClampNeg)]) (rest := []) (wr := wC cI cZ h_1 F_1 V_1) (c_X5_soil l dC dI cI cZ cJ g F2 G V2 n vb2 bb2 nw vb3 bb3 un vb4 bb4 d vb6 bb6 wm vb7 bb7 pf vb10 bb10 shb vb11 bb11 So hSob bSob Lm hLmb bLmb Hh hHhb bHhb Wd hWdb bWdb Pr hPrb bPrb X hXb bXb Y hYb bYb (xs (nI (5 * j + 1)).toNatClampNeg) ks amb vb8 bb8 hk8 SX SY Kc Kp er rb hGPb hSXb hSYb hKcb hKpb hEb hRBb) fx (cwV 1 hts gL_law_X5_soil rfl rfl rfl (by decide +kernel) ⟨Nat.le_of_ble_eq_true rfl, Nat.le_of_ble_eq_true rfl⟩) hK hP hD hS hA [31, 32, 33, 34, 35, 36, 37, 38, 39, 40, 41, 42, 43, 44, 45, 46, 47, 48, 49, 50, 51, 52] [0, 1, 2, 3, 4, 5, 6, 7, 8, 9, 10, 11, 12, 13, 14, 15, 16, 17, 18, 19, 20, 21, 22, 23, 24, 25, 26, 27, 28, 29, 30] rfl rfl (by decide) (by decide) (by decide) 0 rfl rfl rfl rfl hl.1 rfl (Nat.le_of_ble_eq_true rfl) dL_law_495 ⟨Nat.le_of_ble_eq_true rfl, Nat.le_of_ble_eq_true rfl⟩ (fun r_6 u_7 H locs hw_8 hP hD hS => ?_)
  obtain ⟨F2_1, G_1, V2_1⟩ := u_7
  obtain ⟨an2, hI2⟩ := hw_8
  dsimp only at an2 hI2 hP hD
  have hI : LI F_1 V_1 F2_1 G_1 V2_1 := ⟨_, _, _, _, _, _, _, _, _, _, _, _, _, _, _, _, _, _, _, _, hI1, hI2⟩
  refine lv_pop hx hb dL_law_498 rfl ?_
  refine lv_goto (tgt := 869) hx hb dL_law_499 (by decide) ?_
  exact nx h_1 F_1 V_1 F2_1 G_1 V2_1 H locs ls hh hI hP hD hS hl
set_option maxHeartbeats 4000000 in
set_option maxRecDepth 100000 in
theorem lc_10 {p : Program} {l : Launch} {e : Env} {s : State} {m : MethodId} {below : List Frame} {meth : Method} {c : Code} {b : Nat} {xs : Nat → Int32} {dC : Nat → ClassId} {dI : Nat → Nat → Nat} {cI cZ cJ : ClassId} {g : Nat → Nat} {h0 : Nat} {L j : Nat} (C0 : lw_At p s m meth c b L xs) (hK : va_K (dC, dI) vwCl (tys3 cI cZ cJ) s) (hL : L ≤ 2560) (hj : 5 * j + 5 ≤ L) (nx : lwK p l e s m below meth c b dC dI cI cZ cJ g h0 869 j) : lwK p l e s m below meth c b dC dI cI cZ cJ g h0 502 j := by
  obtain ⟨hx, hb, hr, hml, hown, hts0, hX, hbl, hlocks, hgv⟩ := id C0
  have hbA : ¬ (fun q : Nat => s.heap.size ≤ q) b := Nat.not_le.mpr hbl
  have hts : ∀ w ∈ wsL_law, w.before #[Value.ref b] s = true := fun w h => hts0 w (wsL_law_in w h)
  have fx : CallFix p m c cL_law 4 s #[Value.ref b] wsL_law RL := ⟨hx, hb, hml, hown, hts⟩
  have hA : ∀ q : Nat, s.heap.size ≤ q → (fun q : Nat => s.heap.size ≤ q) q := fun _ h => h
  intro h F V F2 G V2 H locs ls hh hI hP hD hS hl
  subst hh
  obtain ⟨n, d, ks, nw, un, wm, pf, So, Hh, Wd, Lm, Pr, X, Y, SX, SY, Kc, Kp, er, rb, hVC, hVM⟩ := hI
  obtain ⟨⟨va1, ba1⟩, ⟨va2, ba2⟩, ⟨va3, ba3⟩, ⟨va4, ba4⟩, ⟨va5, ba5⟩, ⟨va6, ba6⟩, ⟨va9, ba9⟩, ⟨sha, va11, ba11⟩, ⟨hSoa, bSoa⟩, ⟨hHha, bHha⟩, ⟨hWda, bWda⟩, ⟨hLma, bLma⟩, ⟨hPra, bPra⟩, hkn, hGP, hSU, hGC, hF10, hF11, hKC, hE, hPL⟩ := hVC
  obtain ⟨⟨vb2, bb2⟩, ⟨vb3, bb3⟩, ⟨vb4, bb4⟩, ⟨vb6, bb6⟩, ⟨vb7, bb7⟩, ⟨vb10, bb10⟩, ⟨shb, vb11, bb11⟩, ⟨hSob, bSob⟩, ⟨hLmb, bLmb⟩, ⟨hHhb, bHhb⟩, ⟨hWdb, bWdb⟩, ⟨hPrb, bPrb⟩, ⟨hXb, bXb⟩, ⟨hYb, bYb⟩, ⟨amb, vb8, bb8, hk8⟩, hGPb, hSXb, hSYb, hKcb, hKpb, hEb, hRBb⟩ := hVM
  refine lv_aload_n hx hb dL_law_502 rfl (lv_at hl 1 rfl) ?_
  refine lv_aload_n hx hb dL_law_503 rfl (lv_at hl 0 rfl) ?_
  refine lv_iload_n hx hb dL_law_504 rfl (lv_at hl 3 rfl) ?_
  refine lv_iconst (v := 1) hx hb dL_law_505 (by decide) ?_
  refine lv_iadd hx hb dL_law_506 ?_
  refine lv_topi (fun x_1 ex_1 => ?_)
  obtain rfl : x_1 = nI (5 * j + 1) := ex_1.trans (nI_add (5 * j) 1)
  refine va_sld hx hb hX hbl hbA hS (vp_in_nI (n := 5 * j + 1) (N := L) (by omega) (by omega)) dL_law_507 ?_
  refine cl_Vi (As := [.int (xs (nI (5 * j + 1)).toNatClampNeg)]) (rest := []) (wr := wM cI cZ cJ g F2 G V2) (c_X4_wash l dC dI cI cZ cJ h F V n va1 ba1 d va2 ba2 ks va3 ba3 nw va4 ba4 un va5 ba5 wm va6 ba6 pf va9 ba9 sha va11 ba11 So hSoa bSoa Hh hHha bHha Wd hWda bWda Lm hLma bLma Pr hPra bPra (xs (nI (5 * j + 1)).toNatClampNeg) X Y SX SY Kc Kp er rb hkn hGP hSU hGC hF10 hF11 hKC hE hPL) fx (cwV 1 hts gL_law_X4_wash rfl rfl rfl (by decide +kernel) ⟨Nat.le_of_ble_eq_true rfl, Nat.le_of_ble_eq_true rfl⟩) hK hP hD hS hA [0, 1, 2, 3, 4, 5, 6, 7, 8, 9, 10, 11, 12, 13, 14, 15, 16, 17, 18, 19, 20, 21, 22, 23, 24, 25, 26, 27, 28, 29, 30] [31, 32, 33, 34, 35, 36, 37, 38, 39, 40, 41, 42, 43, 44, 45, 46, 47, 48, 49, 50, 51, 52] rfl rfl (by decide) (by decide) (by decide) 0 rfl rfl rfl rfl hl.1 rfl (Nat.le_of_ble_eq_true rfl) dL_law_508 ⟨Nat.le_of_ble_eq_true rfl, Nat.le_of_ble_eq_true rfl⟩ (fun r_2 u_3 H locs hw_4 hP hD hS => ?_)
  obtain ⟨h_1, F_1, V_1⟩ := u_3
  obtain ⟨an1, hh1, hI1⟩ := hw_4
  dsimp only at an1 hh1 hI1 hP hD
  have hh : h_1 0 = h 0 := hh1
  have hP : va_P (dC, dI) vwCl (wC cI cZ h_1 F_1 V_1 ++ wM cI cZ cJ g F2 G V2) H := hP.sub [22, 23, 24, 25, 26, 27, 28, 29, 30, 31, 32, 33, 34, 35, 36, 37, 38, 39, 40, 41, 42, 43, 44, 45, 46, 47, 48, 49, 50, 51, 52, 0, 1, 2, 3, 4, 5, 6, 7, 8, 9, 10, 11, 12, 13, 14, 15, 16, 17, 18, 19, 20, 21] rfl
  have hD : va_D (fun q : Nat => s.heap.size ≤ q) (wC cI cZ h_1 F_1 V_1 ++ wM cI cZ cJ g F2 G V2) := hD.sub [22, 23, 24, 25, 26, 27, 28, 29, 30, 31, 32, 33, 34, 35, 36, 37, 38, 39, 40, 41, 42, 43, 44, 45, 46, 47, 48, 49, 50, 51, 52, 0, 1, 2, 3, 4, 5, 6, 7, 8, 9, 10, 11, 12, 13, 14, 15, 16, 17, 18, 19, 20, 21] (by decide) rfl
  refine lv_pop hx hb dL_law_511 rfl ?_
  refine lv_aload_n hx hb dL_law_512 rfl (lv_at hl 2 rfl) ?_
  refine lv_aload_n hx hb dL_law_513 rfl (lv_at hl 0 rfl) ?_
  refine lv_iload_n hx hb dL_law_514 rfl (lv_at hl 3 rfl) ?_
  refine lv_iconst (v := 1) hx hb dL_law_515 (by decide) ?_
  refine lv_iadd hx hb dL_law_516 ?_
  refine lv_topi (fun x_5 ex_5 => ?_)
  obtain rfl : x_5 = nI (5 * j + 1) := ex_5.trans (nI_add (5 * j) 1)
  refine va_sld hx hb hX hbl hbA hS (vp_in_nI (n := 5 * j + 1) (N := L) (by omega) (by omega)) dL_law_517 ?_
  refine cl_Vi (As := [.int (xs (nI (5 * j + 1)).toNatClampNeg)]) (rest := []) (wr := wC cI cZ h_1 F_1 V_1) (c_X5_wash l dC dI cI cZ cJ g F2 G V2 n vb2 bb2 nw vb3 bb3 un vb4 bb4 d vb6 bb6 wm vb7 bb7 pf vb10 bb10 shb vb11 bb11 So hSob bSob Lm hLmb bLmb Hh hHhb bHhb Wd hWdb bWdb Pr hPrb bPrb X hXb bXb Y hYb bYb (xs (nI (5 * j + 1)).toNatClampNeg) ks amb vb8 bb8 hk8 SX SY Kc Kp er rb hGPb hSXb hSYb hKcb hKpb hEb hRBb) fx (cwV 1 hts gL_law_X5_wash rfl rfl rfl (by decide +kernel) ⟨Nat.le_of_ble_eq_true rfl, Nat.le_of_ble_eq_true rfl⟩) hK hP hD hS hA [31, 32, 33, 34, 35, 36, 37, 38, 39, 40, 41, 42, 43, 44, 45, 46, 47, 48, 49, 50, 51, 52] [0, 1, 2, 3, 4, 5, 6, 7, 8, 9, 10, 11, 12, 13, 14, 15, 16, 17, 18, 19, 20, 21, 22, 23, 24, 25, 26, 27, 28, 29, 30] rfl rfl (by decide) (by decide) (by decide) 0 rfl rfl rfl rfl hl.1 rfl (Nat.le_of_ble_eq_true rfl) dL_law_518 ⟨Nat.le_of_ble_eq_true rfl, Nat.le_of_ble_eq_true rfl⟩ (fun r_6 u_7 H locs hw_8 hP hD hS => ?_)
  obtain ⟨F2_1, G_1, V2_1⟩ := u_7
  obtain ⟨an2, hI2⟩ := hw_8
  dsimp only at an2 hI2 hP hD
  have hI : LI F_1 V_1 F2_1 G_1 V2_1 := ⟨_, _, _, _, _, _, _, _, _, _, _, _, _, _, _, _, _, _, _, _, hI1, hI2⟩
  refine lv_pop hx hb dL_law_521 rfl ?_
  refine lv_goto (tgt := 869) hx hb dL_law_522 (by decide) ?_
  exact nx h_1 F_1 V_1 F2_1 G_1 V2_1 H locs ls hh hI hP hD hS hl
set_option maxHeartbeats 4000000 in
set_option maxRecDepth 100000 in
theorem lc_11 {p : Program} {l : Launch} {e : Env} {s : State} {m : MethodId} {below : List Frame} {meth : Method} {c : Code} {b : Nat} {xs : Nat → Int32} {dC : Nat → ClassId} {dI : Nat → Nat → Nat} {cI cZ cJ : ClassId} {g : Nat → Nat} {h0 : Nat} {L j : Nat} (C0 : lw_At p s m meth c b L xs) (hK : va_K (dC, dI) vwCl (tys3 cI cZ cJ) s) (hL : L ≤ 2560) (hj : 5 * j + 5 ≤ L) (nx : lwK p l e s m below meth c b dC dI cI cZ cJ g h0 869 j) : lwK p l e s m below meth c b dC dI cI cZ cJ g h0 525 j := by
  obtain ⟨hx, hb, hr, hml, hown, hts0, hX, hbl, hlocks, hgv⟩ := id C0
  have hbA : ¬ (fun q : Nat => s.heap.size ≤ q) b := Nat.not_le.mpr hbl
  have hts : ∀ w ∈ wsL_law, w.before #[Value.ref b] s = true := fun w h => hts0 w (wsL_law_in w h)
  have fx : CallFix p m c cL_law 4 s #[Value.ref b] wsL_law RL := ⟨hx, hb, hml, hown, hts⟩
  have hA : ∀ q : Nat, s.heap.size ≤ q → (fun q : Nat => s.heap.size ≤ q) q := fun _ h => h
  intro h F V F2 G V2 H locs ls hh hI hP hD hS hl
  subst hh
  obtain ⟨n, d, ks, nw, un, wm, pf, So, Hh, Wd, Lm, Pr, X, Y, SX, SY, Kc, Kp, er, rb, hVC, hVM⟩ := hI
  obtain ⟨⟨va1, ba1⟩, ⟨va2, ba2⟩, ⟨va3, ba3⟩, ⟨va4, ba4⟩, ⟨va5, ba5⟩, ⟨va6, ba6⟩, ⟨va9, ba9⟩, ⟨sha, va11, ba11⟩, ⟨hSoa, bSoa⟩, ⟨hHha, bHha⟩, ⟨hWda, bWda⟩, ⟨hLma, bLma⟩, ⟨hPra, bPra⟩, hkn, hGP, hSU, hGC, hF10, hF11, hKC, hE, hPL⟩ := hVC
  obtain ⟨⟨vb2, bb2⟩, ⟨vb3, bb3⟩, ⟨vb4, bb4⟩, ⟨vb6, bb6⟩, ⟨vb7, bb7⟩, ⟨vb10, bb10⟩, ⟨shb, vb11, bb11⟩, ⟨hSob, bSob⟩, ⟨hLmb, bLmb⟩, ⟨hHhb, bHhb⟩, ⟨hWdb, bWdb⟩, ⟨hPrb, bPrb⟩, ⟨hXb, bXb⟩, ⟨hYb, bYb⟩, ⟨amb, vb8, bb8, hk8⟩, hGPb, hSXb, hSYb, hKcb, hKpb, hEb, hRBb⟩ := hVM
  refine lv_aload_n hx hb dL_law_525 rfl (lv_at hl 1 rfl) ?_
  refine lv_aload_n hx hb dL_law_526 rfl (lv_at hl 0 rfl) ?_
  refine lv_iload_n hx hb dL_law_527 rfl (lv_at hl 3 rfl) ?_
  refine lv_iconst (v := 1) hx hb dL_law_528 (by decide) ?_
  refine lv_iadd hx hb dL_law_529 ?_
  refine lv_topi (fun x_1 ex_1 => ?_)
  obtain rfl : x_1 = nI (5 * j + 1) := ex_1.trans (nI_add (5 * j) 1)
  refine va_sld hx hb hX hbl hbA hS (vp_in_nI (n := 5 * j + 1) (N := L) (by omega) (by omega)) dL_law_530 ?_
  refine cl_Vi (As := [.int (xs (nI (5 * j + 1)).toNatClampNeg)]) (rest := []) (wr := wM cI cZ cJ g F2 G V2) (c_X4_aim l dC dI cI cZ cJ h F V n va1 ba1 d va2 ba2 ks va3 ba3 nw va4 ba4 un va5 ba5 wm va6 ba6 pf va9 ba9 sha va11 ba11 So hSoa bSoa Hh hHha bHha Wd hWda bWda Lm hLma bLma Pr hPra bPra (xs (nI (5 * j + 1)).toNatClampNeg) X Y SX SY Kc Kp er rb hkn hGP hSU hGC hF10 hF11 hKC hE hPL) fx (cwV 1 hts gL_law_X4_aim rfl rfl rfl (by decide +kernel) ⟨Nat.le_of_ble_eq_true rfl, Nat.le_of_ble_eq_true rfl⟩) hK hP hD hS hA [0, 1, 2, 3, 4, 5, 6, 7, 8, 9, 10, 11, 12, 13, 14, 15, 16, 17, 18, 19, 20, 21, 22, 23, 24, 25, 26, 27, 28, 29, 30] [31, 32, 33, 34, 35, 36, 37, 38, 39, 40, 41, 42, 43, 44, 45, 46, 47, 48, 49, 50, 51, 52] rfl rfl (by decide) (by decide) (by decide) 0 rfl rfl rfl rfl hl.1 rfl (Nat.le_of_ble_eq_true rfl) dL_law_531 ⟨Nat.le_of_ble_eq_true rfl, Nat.le_of_ble_eq_true rfl⟩ (fun r_2 u_3 H locs hw_4 hP hD hS => ?_)
  obtain ⟨h_1, F_1, V_1⟩ := u_3
  obtain ⟨an1, hh1, hI1⟩ := hw_4
  dsimp only at an1 hh1 hI1 hP hD
  have hh : h_1 0 = h 0 := hh1
  have hP : va_P (dC, dI) vwCl (wC cI cZ h_1 F_1 V_1 ++ wM cI cZ cJ g F2 G V2) H := hP.sub [22, 23, 24, 25, 26, 27, 28, 29, 30, 31, 32, 33, 34, 35, 36, 37, 38, 39, 40, 41, 42, 43, 44, 45, 46, 47, 48, 49, 50, 51, 52, 0, 1, 2, 3, 4, 5, 6, 7, 8, 9, 10, 11, 12, 13, 14, 15, 16, 17, 18, 19, 20, 21] rfl
  have hD : va_D (fun q : Nat => s.heap.size ≤ q) (wC cI cZ h_1 F_1 V_1 ++ wM cI cZ cJ g F2 G V2) := hD.sub [22, 23, 24, 25, 26, 27, 28, 29, 30, 31, 32, 33, 34, 35, 36, 37, 38, 39, 40, 41, 42, 43, 44, 45, 46, 47, 48, 49, 50, 51, 52, 0, 1, 2, 3, 4, 5, 6, 7, 8, 9, 10, 11, 12, 13, 14, 15, 16, 17, 18, 19, 20, 21] (by decide) rfl
  refine lv_pop hx hb dL_law_534 rfl ?_
  refine lv_aload_n hx hb dL_law_535 rfl (lv_at hl 2 rfl) ?_
  refine lv_aload_n hx hb dL_law_536 rfl (lv_at hl 0 rfl) ?_
  refine lv_iload_n hx hb dL_law_537 rfl (lv_at hl 3 rfl) ?_
  refine lv_iconst (v := 1) hx hb dL_law_538 (by decide) ?_
  refine lv_iadd hx hb dL_law_539 ?_
  refine lv_topi (fun x_5 ex_5 => ?_)
  obtain rfl : x_5 = nI (5 * j + 1) := ex_5.trans (nI_add (5 * j) 1)
  refine va_sld hx hb hX hbl hbA hS (vp_in_nI (n := 5 * j + 1) (N := L) (by omega) (by omega)) dL_law_540 ?_
  refine cl_Vi (As := [.int (xs (nI (5 * j + 1)).toNatClampNeg)]) (rest := []) (wr := wC cI cZ h_1 F_1 V_1) (c_X5_aim l dC dI cI cZ cJ g F2 G V2 n vb2 bb2 nw vb3 bb3 un vb4 bb4 d vb6 bb6 wm vb7 bb7 pf vb10 bb10 shb vb11 bb11 So hSob bSob Lm hLmb bLmb Hh hHhb bHhb Wd hWdb bWdb Pr hPrb bPrb X hXb bXb Y hYb bYb (xs (nI (5 * j + 1)).toNatClampNeg) ks amb vb8 bb8 hk8 SX SY Kc Kp er rb hGPb hSXb hSYb hKcb hKpb hEb hRBb) fx (cwV 1 hts gL_law_X5_aim rfl rfl rfl (by decide +kernel) ⟨Nat.le_of_ble_eq_true rfl, Nat.le_of_ble_eq_true rfl⟩) hK hP hD hS hA [31, 32, 33, 34, 35, 36, 37, 38, 39, 40, 41, 42, 43, 44, 45, 46, 47, 48, 49, 50, 51, 52] [0, 1, 2, 3, 4, 5, 6, 7, 8, 9, 10, 11, 12, 13, 14, 15, 16, 17, 18, 19, 20, 21, 22, 23, 24, 25, 26, 27, 28, 29, 30] rfl rfl (by decide) (by decide) (by decide) 0 rfl rfl rfl rfl hl.1 rfl (Nat.le_of_ble_eq_true rfl) dL_law_541 ⟨Nat.le_of_ble_eq_true rfl, Nat.le_of_ble_eq_true rfl⟩ (fun r_6 u_7 H locs hw_8 hP hD hS => ?_)
  obtain ⟨F2_1, G_1, V2_1⟩ := u_7
  obtain ⟨an2, hI2⟩ := hw_8
  dsimp only at an2 hI2 hP hD
  have hI : LI F_1 V_1 F2_1 G_1 V2_1 := ⟨_, _, _, _, _, _, _, _, _, _, _, _, _, _, _, _, _, _, _, _, hI1, hI2⟩
  refine lv_pop hx hb dL_law_544 rfl ?_
  refine lv_goto (tgt := 869) hx hb dL_law_545 (by decide) ?_
  exact nx h_1 F_1 V_1 F2_1 G_1 V2_1 H locs ls hh hI hP hD hS hl
set_option maxHeartbeats 4000000 in
set_option maxRecDepth 100000 in
theorem lc_12 {p : Program} {l : Launch} {e : Env} {s : State} {m : MethodId} {below : List Frame} {meth : Method} {c : Code} {b : Nat} {xs : Nat → Int32} {dC : Nat → ClassId} {dI : Nat → Nat → Nat} {cI cZ cJ : ClassId} {g : Nat → Nat} {h0 : Nat} {L j : Nat} (C0 : lw_At p s m meth c b L xs) (hK : va_K (dC, dI) vwCl (tys3 cI cZ cJ) s) (hL : L ≤ 2560) (hj : 5 * j + 5 ≤ L) (nx : lwK p l e s m below meth c b dC dI cI cZ cJ g h0 869 j) : lwK p l e s m below meth c b dC dI cI cZ cJ g h0 548 j := by
  obtain ⟨hx, hb, hr, hml, hown, hts0, hX, hbl, hlocks, hgv⟩ := id C0
  have hbA : ¬ (fun q : Nat => s.heap.size ≤ q) b := Nat.not_le.mpr hbl
  have hts : ∀ w ∈ wsL_law, w.before #[Value.ref b] s = true := fun w h => hts0 w (wsL_law_in w h)
  have fx : CallFix p m c cL_law 4 s #[Value.ref b] wsL_law RL := ⟨hx, hb, hml, hown, hts⟩
  have hA : ∀ q : Nat, s.heap.size ≤ q → (fun q : Nat => s.heap.size ≤ q) q := fun _ h => h
  intro h F V F2 G V2 H locs ls hh hI hP hD hS hl
  subst hh
  obtain ⟨n, d, ks, nw, un, wm, pf, So, Hh, Wd, Lm, Pr, X, Y, SX, SY, Kc, Kp, er, rb, hVC, hVM⟩ := hI
  obtain ⟨⟨va1, ba1⟩, ⟨va2, ba2⟩, ⟨va3, ba3⟩, ⟨va4, ba4⟩, ⟨va5, ba5⟩, ⟨va6, ba6⟩, ⟨va9, ba9⟩, ⟨sha, va11, ba11⟩, ⟨hSoa, bSoa⟩, ⟨hHha, bHha⟩, ⟨hWda, bWda⟩, ⟨hLma, bLma⟩, ⟨hPra, bPra⟩, hkn, hGP, hSU, hGC, hF10, hF11, hKC, hE, hPL⟩ := hVC
  obtain ⟨⟨vb2, bb2⟩, ⟨vb3, bb3⟩, ⟨vb4, bb4⟩, ⟨vb6, bb6⟩, ⟨vb7, bb7⟩, ⟨vb10, bb10⟩, ⟨shb, vb11, bb11⟩, ⟨hSob, bSob⟩, ⟨hLmb, bLmb⟩, ⟨hHhb, bHhb⟩, ⟨hWdb, bWdb⟩, ⟨hPrb, bPrb⟩, ⟨hXb, bXb⟩, ⟨hYb, bYb⟩, ⟨amb, vb8, bb8, hk8⟩, hGPb, hSXb, hSYb, hKcb, hKpb, hEb, hRBb⟩ := hVM
  refine lv_aload_n hx hb dL_law_548 rfl (lv_at hl 1 rfl) ?_
  refine lv_aload_n hx hb dL_law_549 rfl (lv_at hl 0 rfl) ?_
  refine lv_iload_n hx hb dL_law_550 rfl (lv_at hl 3 rfl) ?_
  refine lv_iconst (v := 1) hx hb dL_law_551 (by decide) ?_
  refine lv_iadd hx hb dL_law_552 ?_
  refine lv_topi (fun x_1 ex_1 => ?_)
  obtain rfl : x_1 = nI (5 * j + 1) := ex_1.trans (nI_add (5 * j) 1)
  refine va_sld hx hb hX hbl hbA hS (vp_in_nI (n := 5 * j + 1) (N := L) (by omega) (by omega)) dL_law_553 ?_
  refine cl_Vi (As := [.int (xs (nI (5 * j + 1)).toNatClampNeg)]) (rest := []) (wr := wM cI cZ cJ g F2 G V2) (c_X4_aimed l dC dI cI cZ cJ h F V n va1 ba1 d va2 ba2 ks va3 ba3 nw va4 ba4 un va5 ba5 wm va6 ba6 pf va9 ba9 sha va11 ba11 So hSoa bSoa Hh hHha bHha Wd hWda bWda Lm hLma bLma Pr hPra bPra (xs (nI (5 * j + 1)).toNatClampNeg) X Y SX SY Kc Kp er rb hkn hGP hSU hGC hF10 hF11 hKC hE hPL) fx (cwV 1 hts gL_law_X4_aimed rfl rfl rfl (by decide +kernel) ⟨Nat.le_of_ble_eq_true rfl, Nat.le_of_ble_eq_true rfl⟩) hK hP hD hS hA [0, 1, 2, 3, 4, 5, 6, 7, 8, 9, 10, 11, 12, 13, 14, 15, 16, 17, 18, 19, 20, 21, 22, 23, 24, 25, 26, 27, 28, 29, 30] [31, 32, 33, 34, 35, 36, 37, 38, 39, 40, 41, 42, 43, 44, 45, 46, 47, 48, 49, 50, 51, 52] rfl rfl (by decide) (by decide) (by decide) 0 rfl rfl rfl rfl hl.1 rfl (Nat.le_of_ble_eq_true rfl) dL_law_554 ⟨Nat.le_of_ble_eq_true rfl, Nat.le_of_ble_eq_true rfl⟩ (fun r_2 u_3 H locs hw_4 hP hD hS => ?_)
  obtain ⟨h_1, F_1, V_1⟩ := u_3
  obtain ⟨an1, hh1, hI1⟩ := hw_4
  dsimp only at an1 hh1 hI1 hP hD
  have hh : h_1 0 = h 0 := hh1
  have hP : va_P (dC, dI) vwCl (wC cI cZ h_1 F_1 V_1 ++ wM cI cZ cJ g F2 G V2) H := hP.sub [22, 23, 24, 25, 26, 27, 28, 29, 30, 31, 32, 33, 34, 35, 36, 37, 38, 39, 40, 41, 42, 43, 44, 45, 46, 47, 48, 49, 50, 51, 52, 0, 1, 2, 3, 4, 5, 6, 7, 8, 9, 10, 11, 12, 13, 14, 15, 16, 17, 18, 19, 20, 21] rfl
  have hD : va_D (fun q : Nat => s.heap.size ≤ q) (wC cI cZ h_1 F_1 V_1 ++ wM cI cZ cJ g F2 G V2) := hD.sub [22, 23, 24, 25, 26, 27, 28, 29, 30, 31, 32, 33, 34, 35, 36, 37, 38, 39, 40, 41, 42, 43, 44, 45, 46, 47, 48, 49, 50, 51, 52, 0, 1, 2, 3, 4, 5, 6, 7, 8, 9, 10, 11, 12, 13, 14, 15, 16, 17, 18, 19, 20, 21] (by decide) rfl
  refine lv_pop hx hb dL_law_557 rfl ?_
  refine lv_aload_n hx hb dL_law_558 rfl (lv_at hl 2 rfl) ?_
  refine lv_aload_n hx hb dL_law_559 rfl (lv_at hl 0 rfl) ?_
  refine lv_iload_n hx hb dL_law_560 rfl (lv_at hl 3 rfl) ?_
  refine lv_iconst (v := 1) hx hb dL_law_561 (by decide) ?_
  refine lv_iadd hx hb dL_law_562 ?_
  refine lv_topi (fun x_5 ex_5 => ?_)
  obtain rfl : x_5 = nI (5 * j + 1) := ex_5.trans (nI_add (5 * j) 1)
  refine va_sld hx hb hX hbl hbA hS (vp_in_nI (n := 5 * j + 1) (N := L) (by omega) (by omega)) dL_law_563 ?_
  refine cl_Vi (As := [.int (xs (nI (5 * j + 1)).toNatClampNeg)]) (rest := []) (wr := wC cI cZ h_1 F_1 V_1) (c_X5_aimed l dC dI cI cZ cJ g F2 G V2 n vb2 bb2 nw vb3 bb3 un vb4 bb4 d vb6 bb6 wm vb7 bb7 pf vb10 bb10 shb vb11 bb11 So hSob bSob Lm hLmb bLmb Hh hHhb bHhb Wd hWdb bWdb Pr hPrb bPrb X hXb bXb Y hYb bYb (xs (nI (5 * j + 1)).toNatClampNeg) ks amb vb8 bb8 hk8 SX SY Kc Kp er rb hGPb hSXb hSYb hKcb hKpb hEb hRBb) fx (cwV 1 hts gL_law_X5_aimed rfl rfl rfl (by decide +kernel) ⟨Nat.le_of_ble_eq_true rfl, Nat.le_of_ble_eq_true rfl⟩) hK hP hD hS hA [31, 32, 33, 34, 35, 36, 37, 38, 39, 40, 41, 42, 43, 44, 45, 46, 47, 48, 49, 50, 51, 52] [0, 1, 2, 3, 4, 5, 6, 7, 8, 9, 10, 11, 12, 13, 14, 15, 16, 17, 18, 19, 20, 21, 22, 23, 24, 25, 26, 27, 28, 29, 30] rfl rfl (by decide) (by decide) (by decide) 0 rfl rfl rfl rfl hl.1 rfl (Nat.le_of_ble_eq_true rfl) dL_law_564 ⟨Nat.le_of_ble_eq_true rfl, Nat.le_of_ble_eq_true rfl⟩ (fun r_6 u_7 H locs hw_8 hP hD hS => ?_)
  obtain ⟨F2_1, G_1, V2_1⟩ := u_7
  obtain ⟨an2, hI2⟩ := hw_8
  dsimp only at an2 hI2 hP hD
  have hI : LI F_1 V_1 F2_1 G_1 V2_1 := ⟨_, _, _, _, _, _, _, _, _, _, _, _, _, _, _, _, _, _, _, _, hI1, hI2⟩
  refine lv_pop hx hb dL_law_567 rfl ?_
  refine lv_goto (tgt := 869) hx hb dL_law_568 (by decide) ?_
  exact nx h_1 F_1 V_1 F2_1 G_1 V2_1 H locs ls hh hI hP hD hS hl
set_option maxHeartbeats 4000000 in
set_option maxRecDepth 100000 in
theorem lc_13 {p : Program} {l : Launch} {e : Env} {s : State} {m : MethodId} {below : List Frame} {meth : Method} {c : Code} {b : Nat} {xs : Nat → Int32} {dC : Nat → ClassId} {dI : Nat → Nat → Nat} {cI cZ cJ : ClassId} {g : Nat → Nat} {h0 : Nat} {L j : Nat} (C0 : lw_At p s m meth c b L xs) (hK : va_K (dC, dI) vwCl (tys3 cI cZ cJ) s) (hL : L ≤ 2560) (hj : 5 * j + 5 ≤ L) (nx : lwK p l e s m below meth c b dC dI cI cZ cJ g h0 869 j) : lwK p l e s m below meth c b dC dI cI cZ cJ g h0 571 j := by
  obtain ⟨hx, hb, hr, hml, hown, hts0, hX, hbl, hlocks, hgv⟩ := id C0
  have hbA : ¬ (fun q : Nat => s.heap.size ≤ q) b := Nat.not_le.mpr hbl
  have hts : ∀ w ∈ wsL_law, w.before #[Value.ref b] s = true := fun w h => hts0 w (wsL_law_in w h)
  have fx : CallFix p m c cL_law 4 s #[Value.ref b] wsL_law RL := ⟨hx, hb, hml, hown, hts⟩
  have hA : ∀ q : Nat, s.heap.size ≤ q → (fun q : Nat => s.heap.size ≤ q) q := fun _ h => h
  intro h F V F2 G V2 H locs ls hh hI hP hD hS hl
  subst hh
  obtain ⟨n, d, ks, nw, un, wm, pf, So, Hh, Wd, Lm, Pr, X, Y, SX, SY, Kc, Kp, er, rb, hVC, hVM⟩ := hI
  obtain ⟨⟨va1, ba1⟩, ⟨va2, ba2⟩, ⟨va3, ba3⟩, ⟨va4, ba4⟩, ⟨va5, ba5⟩, ⟨va6, ba6⟩, ⟨va9, ba9⟩, ⟨sha, va11, ba11⟩, ⟨hSoa, bSoa⟩, ⟨hHha, bHha⟩, ⟨hWda, bWda⟩, ⟨hLma, bLma⟩, ⟨hPra, bPra⟩, hkn, hGP, hSU, hGC, hF10, hF11, hKC, hE, hPL⟩ := hVC
  obtain ⟨⟨vb2, bb2⟩, ⟨vb3, bb3⟩, ⟨vb4, bb4⟩, ⟨vb6, bb6⟩, ⟨vb7, bb7⟩, ⟨vb10, bb10⟩, ⟨shb, vb11, bb11⟩, ⟨hSob, bSob⟩, ⟨hLmb, bLmb⟩, ⟨hHhb, bHhb⟩, ⟨hWdb, bWdb⟩, ⟨hPrb, bPrb⟩, ⟨hXb, bXb⟩, ⟨hYb, bYb⟩, ⟨amb, vb8, bb8, hk8⟩, hGPb, hSXb, hSYb, hKcb, hKpb, hEb, hRBb⟩ := hVM
  refine lv_aload_n hx hb dL_law_571 rfl (lv_at hl 1 rfl) ?_
  refine lv_aload_n hx hb dL_law_572 rfl (lv_at hl 0 rfl) ?_
  refine lv_iload_n hx hb dL_law_573 rfl (lv_at hl 3 rfl) ?_
  refine lv_iconst (v := 1) hx hb dL_law_574 (by decide) ?_
  refine lv_iadd hx hb dL_law_575 ?_
  refine lv_topi (fun x_1 ex_1 => ?_)
  obtain rfl : x_1 = nI (5 * j + 1) := ex_1.trans (nI_add (5 * j) 1)
  refine va_sld hx hb hX hbl hbA hS (vp_in_nI (n := 5 * j + 1) (N := L) (by omega) (by omega)) dL_law_576 ?_
  refine cl_Vi (As := [.int (xs (nI (5 * j + 1)).toNatClampNeg)]) (rest := []) (wr := wM cI cZ cJ g F2 G V2) (c_X4_face l dC dI cI cZ cJ h F V n va1 ba1 d va2 ba2 ks va3 ba3 nw va4 ba4 un va5 ba5 wm va6 ba6 pf va9 ba9 sha va11 ba11 So hSoa bSoa Hh hHha bHha Wd hWda bWda Lm hLma bLma Pr hPra bPra (xs (nI (5 * j + 1)).toNatClampNeg) X Y SX SY Kc Kp er rb hkn hGP hSU hGC hF10 hF11 hKC hE hPL) fx (cwV 1 hts gL_law_X4_face rfl rfl rfl (by decide +kernel) ⟨Nat.le_of_ble_eq_true rfl, Nat.le_of_ble_eq_true rfl⟩) hK hP hD hS hA [0, 1, 2, 3, 4, 5, 6, 7, 8, 9, 10, 11, 12, 13, 14, 15, 16, 17, 18, 19, 20, 21, 22, 23, 24, 25, 26, 27, 28, 29, 30] [31, 32, 33, 34, 35, 36, 37, 38, 39, 40, 41, 42, 43, 44, 45, 46, 47, 48, 49, 50, 51, 52] rfl rfl (by decide) (by decide) (by decide) 0 rfl rfl rfl rfl hl.1 rfl (Nat.le_of_ble_eq_true rfl) dL_law_577 ⟨Nat.le_of_ble_eq_true rfl, Nat.le_of_ble_eq_true rfl⟩ (fun r_2 u_3 H locs hw_4 hP hD hS => ?_)
  obtain ⟨h_1, F_1, V_1⟩ := u_3
  obtain ⟨an1, hh1, hI1⟩ := hw_4
  dsimp only at an1 hh1 hI1 hP hD
  have hh : h_1 0 = h 0 := hh1
  have hP : va_P (dC, dI) vwCl (wC cI cZ h_1 F_1 V_1 ++ wM cI cZ cJ g F2 G V2) H := hP.sub [22, 23, 24, 25, 26, 27, 28, 29, 30, 31, 32, 33, 34, 35, 36, 37, 38, 39, 40, 41, 42, 43, 44, 45, 46, 47, 48, 49, 50, 51, 52, 0, 1, 2, 3, 4, 5, 6, 7, 8, 9, 10, 11, 12, 13, 14, 15, 16, 17, 18, 19, 20, 21] rfl
  have hD : va_D (fun q : Nat => s.heap.size ≤ q) (wC cI cZ h_1 F_1 V_1 ++ wM cI cZ cJ g F2 G V2) := hD.sub [22, 23, 24, 25, 26, 27, 28, 29, 30, 31, 32, 33, 34, 35, 36, 37, 38, 39, 40, 41, 42, 43, 44, 45, 46, 47, 48, 49, 50, 51, 52, 0, 1, 2, 3, 4, 5, 6, 7, 8, 9, 10, 11, 12, 13, 14, 15, 16, 17, 18, 19, 20, 21] (by decide) rfl
  refine lv_pop hx hb dL_law_580 rfl ?_
  refine lv_aload_n hx hb dL_law_581 rfl (lv_at hl 2 rfl) ?_
  refine lv_aload_n hx hb dL_law_582 rfl (lv_at hl 0 rfl) ?_
  refine lv_iload_n hx hb dL_law_583 rfl (lv_at hl 3 rfl) ?_
  refine lv_iconst (v := 1) hx hb dL_law_584 (by decide) ?_
  refine lv_iadd hx hb dL_law_585 ?_
  refine lv_topi (fun x_5 ex_5 => ?_)
  obtain rfl : x_5 = nI (5 * j + 1) := ex_5.trans (nI_add (5 * j) 1)
  refine va_sld hx hb hX hbl hbA hS (vp_in_nI (n := 5 * j + 1) (N := L) (by omega) (by omega)) dL_law_586 ?_
  refine cl_Vi (As := [.int (xs (nI (5 * j + 1)).toNatClampNeg)]) (rest := []) (wr := wC cI cZ h_1 F_1 V_1) (c_X5_face l dC dI cI cZ cJ g F2 G V2 n vb2 bb2 nw vb3 bb3 un vb4 bb4 d vb6 bb6 wm vb7 bb7 pf vb10 bb10 shb vb11 bb11 So hSob bSob Lm hLmb bLmb Hh hHhb bHhb Wd hWdb bWdb Pr hPrb bPrb X hXb bXb Y hYb bYb (xs (nI (5 * j + 1)).toNatClampNeg) ks amb vb8 bb8 hk8 SX SY Kc Kp er rb hGPb hSXb hSYb hKcb hKpb hEb hRBb) fx (cwV 1 hts gL_law_X5_face rfl rfl rfl (by decide +kernel) ⟨Nat.le_of_ble_eq_true rfl, Nat.le_of_ble_eq_true rfl⟩) hK hP hD hS hA [31, 32, 33, 34, 35, 36, 37, 38, 39, 40, 41, 42, 43, 44, 45, 46, 47, 48, 49, 50, 51, 52] [0, 1, 2, 3, 4, 5, 6, 7, 8, 9, 10, 11, 12, 13, 14, 15, 16, 17, 18, 19, 20, 21, 22, 23, 24, 25, 26, 27, 28, 29, 30] rfl rfl (by decide) (by decide) (by decide) 0 rfl rfl rfl rfl hl.1 rfl (Nat.le_of_ble_eq_true rfl) dL_law_587 ⟨Nat.le_of_ble_eq_true rfl, Nat.le_of_ble_eq_true rfl⟩ (fun r_6 u_7 H locs hw_8 hP hD hS => ?_)
  obtain ⟨F2_1, G_1, V2_1⟩ := u_7
  obtain ⟨an2, hI2⟩ := hw_8
  dsimp only at an2 hI2 hP hD
  have hI : LI F_1 V_1 F2_1 G_1 V2_1 := ⟨_, _, _, _, _, _, _, _, _, _, _, _, _, _, _, _, _, _, _, _, hI1, hI2⟩
  refine lv_pop hx hb dL_law_590 rfl ?_
  refine lv_goto (tgt := 869) hx hb dL_law_591 (by decide) ?_
  exact nx h_1 F_1 V_1 F2_1 G_1 V2_1 H locs ls hh hI hP hD hS hl
set_option maxHeartbeats 4000000 in
set_option maxRecDepth 100000 in
theorem lc_14 {p : Program} {l : Launch} {e : Env} {s : State} {m : MethodId} {below : List Frame} {meth : Method} {c : Code} {b : Nat} {xs : Nat → Int32} {dC : Nat → ClassId} {dI : Nat → Nat → Nat} {cI cZ cJ : ClassId} {g : Nat → Nat} {h0 : Nat} {L j : Nat} (C0 : lw_At p s m meth c b L xs) (hK : va_K (dC, dI) vwCl (tys3 cI cZ cJ) s) (hL : L ≤ 2560) (hj : 5 * j + 5 ≤ L) (nx : lwK p l e s m below meth c b dC dI cI cZ cJ g h0 869 j) : lwK p l e s m below meth c b dC dI cI cZ cJ g h0 594 j := by
  obtain ⟨hx, hb, hr, hml, hown, hts0, hX, hbl, hlocks, hgv⟩ := id C0
  have hbA : ¬ (fun q : Nat => s.heap.size ≤ q) b := Nat.not_le.mpr hbl
  have hts : ∀ w ∈ wsL_law, w.before #[Value.ref b] s = true := fun w h => hts0 w (wsL_law_in w h)
  have fx : CallFix p m c cL_law 4 s #[Value.ref b] wsL_law RL := ⟨hx, hb, hml, hown, hts⟩
  have hA : ∀ q : Nat, s.heap.size ≤ q → (fun q : Nat => s.heap.size ≤ q) q := fun _ h => h
  intro h F V F2 G V2 H locs ls hh hI hP hD hS hl
  subst hh
  obtain ⟨n, d, ks, nw, un, wm, pf, So, Hh, Wd, Lm, Pr, X, Y, SX, SY, Kc, Kp, er, rb, hVC, hVM⟩ := hI
  obtain ⟨⟨va1, ba1⟩, ⟨va2, ba2⟩, ⟨va3, ba3⟩, ⟨va4, ba4⟩, ⟨va5, ba5⟩, ⟨va6, ba6⟩, ⟨va9, ba9⟩, ⟨sha, va11, ba11⟩, ⟨hSoa, bSoa⟩, ⟨hHha, bHha⟩, ⟨hWda, bWda⟩, ⟨hLma, bLma⟩, ⟨hPra, bPra⟩, hkn, hGP, hSU, hGC, hF10, hF11, hKC, hE, hPL⟩ := hVC
  obtain ⟨⟨vb2, bb2⟩, ⟨vb3, bb3⟩, ⟨vb4, bb4⟩, ⟨vb6, bb6⟩, ⟨vb7, bb7⟩, ⟨vb10, bb10⟩, ⟨shb, vb11, bb11⟩, ⟨hSob, bSob⟩, ⟨hLmb, bLmb⟩, ⟨hHhb, bHhb⟩, ⟨hWdb, bWdb⟩, ⟨hPrb, bPrb⟩, ⟨hXb, bXb⟩, ⟨hYb, bYb⟩, ⟨amb, vb8, bb8, hk8⟩, hGPb, hSXb, hSYb, hKcb, hKpb, hEb, hRBb⟩ := hVM
  refine lv_aload_n hx hb dL_law_594 rfl (lv_at hl 1 rfl) ?_
  refine lv_aload_n hx hb dL_law_595 rfl (lv_at hl 0 rfl) ?_
  refine lv_iload_n hx hb dL_law_596 rfl (lv_at hl 3 rfl) ?_
  refine lv_iconst (v := 1) hx hb dL_law_597 (by decide) ?_
  refine lv_iadd hx hb dL_law_598 ?_
  refine lv_topi (fun x_1 ex_1 => ?_)
  obtain rfl : x_1 = nI (5 * j + 1) := ex_1.trans (nI_add (5 * j) 1)
  refine va_sld hx hb hX hbl hbA hS (vp_in_nI (n := 5 * j + 1) (N := L) (by omega) (by omega)) dL_law_599 ?_
  refine cl_Vi (As := [.int (xs (nI (5 * j + 1)).toNatClampNeg)]) (rest := []) (wr := wM cI cZ cJ g F2 G V2) (c_X4_best l dC dI cI cZ cJ h F V n va1 ba1 d va2 ba2 ks va3 ba3 nw va4 ba4 un va5 ba5 wm va6 ba6 pf va9 ba9 sha va11 ba11 So hSoa bSoa Hh hHha bHha Wd hWda bWda Lm hLma bLma Pr hPra bPra (xs (nI (5 * j + 1)).toNatClampNeg) X Y SX SY Kc Kp er rb hkn hGP hSU hGC hF10 hF11 hKC hE hPL) fx (cwV 1 hts gL_law_X4_best rfl rfl rfl (by decide +kernel) ⟨Nat.le_of_ble_eq_true rfl, Nat.le_of_ble_eq_true rfl⟩) hK hP hD hS hA [0, 1, 2, 3, 4, 5, 6, 7, 8, 9, 10, 11, 12, 13, 14, 15, 16, 17, 18, 19, 20, 21, 22, 23, 24, 25, 26, 27, 28, 29, 30] [31, 32, 33, 34, 35, 36, 37, 38, 39, 40, 41, 42, 43, 44, 45, 46, 47, 48, 49, 50, 51, 52] rfl rfl (by decide) (by decide) (by decide) 0 rfl rfl rfl rfl hl.1 rfl (Nat.le_of_ble_eq_true rfl) dL_law_600 ⟨Nat.le_of_ble_eq_true rfl, Nat.le_of_ble_eq_true rfl⟩ (fun r_2 u_3 H locs hw_4 hP hD hS => ?_)
  obtain ⟨h_1, F_1, V_1⟩ := u_3
  obtain ⟨an1, hh1, hI1⟩ := hw_4
  dsimp only at an1 hh1 hI1 hP hD
  have hh : h_1 0 = h 0 := hh1
  have hP : va_P (dC, dI) vwCl (wC cI cZ h_1 F_1 V_1 ++ wM cI cZ cJ g F2 G V2) H := hP.sub [22, 23, 24, 25, 26, 27, 28, 29, 30, 31, 32, 33, 34, 35, 36, 37, 38, 39, 40, 41, 42, 43, 44, 45, 46, 47, 48, 49, 50, 51, 52, 0, 1, 2, 3, 4, 5, 6, 7, 8, 9, 10, 11, 12, 13, 14, 15, 16, 17, 18, 19, 20, 21] rfl
  have hD : va_D (fun q : Nat => s.heap.size ≤ q) (wC cI cZ h_1 F_1 V_1 ++ wM cI cZ cJ g F2 G V2) := hD.sub [22, 23, 24, 25, 26, 27, 28, 29, 30, 31, 32, 33, 34, 35, 36, 37, 38, 39, 40, 41, 42, 43, 44, 45, 46, 47, 48, 49, 50, 51, 52, 0, 1, 2, 3, 4, 5, 6, 7, 8, 9, 10, 11, 12, 13, 14, 15, 16, 17, 18, 19, 20, 21] (by decide) rfl
  refine lv_pop hx hb dL_law_603 rfl ?_
  refine lv_aload_n hx hb dL_law_604 rfl (lv_at hl 2 rfl) ?_
  refine lv_aload_n hx hb dL_law_605 rfl (lv_at hl 0 rfl) ?_
  refine lv_iload_n hx hb dL_law_606 rfl (lv_at hl 3 rfl) ?_
  refine lv_iconst (v := 1) hx hb dL_law_607 (by decide) ?_
  refine lv_iadd hx hb dL_law_608 ?_
  refine lv_topi (fun x_5 ex_5 => ?_)
  obtain rfl : x_5 = nI (5 * j + 1) := ex_5.trans (nI_add (5 * j) 1)
  refine va_sld hx hb hX hbl hbA hS (vp_in_nI (n := 5 * j + 1) (N := L) (by omega) (by omega)) dL_law_609 ?_
  refine cl_Vi (As := [.int (xs (nI (5 * j + 1)).toNatClampNeg)]) (rest := []) (wr := wC cI cZ h_1 F_1 V_1) (c_X5_best l dC dI cI cZ cJ g F2 G V2 n vb2 bb2 nw vb3 bb3 un vb4 bb4 d vb6 bb6 wm vb7 bb7 pf vb10 bb10 shb vb11 bb11 So hSob bSob Lm hLmb bLmb Hh hHhb bHhb Wd hWdb bWdb Pr hPrb bPrb X hXb bXb Y hYb bYb (xs (nI (5 * j + 1)).toNatClampNeg) ks amb vb8 bb8 hk8 SX SY Kc Kp er rb hGPb hSXb hSYb hKcb hKpb hEb hRBb) fx (cwV 1 hts gL_law_X5_best rfl rfl rfl (by decide +kernel) ⟨Nat.le_of_ble_eq_true rfl, Nat.le_of_ble_eq_true rfl⟩) hK hP hD hS hA [31, 32, 33, 34, 35, 36, 37, 38, 39, 40, 41, 42, 43, 44, 45, 46, 47, 48, 49, 50, 51, 52] [0, 1, 2, 3, 4, 5, 6, 7, 8, 9, 10, 11, 12, 13, 14, 15, 16, 17, 18, 19, 20, 21, 22, 23, 24, 25, 26, 27, 28, 29, 30] rfl rfl (by decide) (by decide) (by decide) 0 rfl rfl rfl rfl hl.1 rfl (Nat.le_of_ble_eq_true rfl) dL_law_610 ⟨Nat.le_of_ble_eq_true rfl, Nat.le_of_ble_eq_true rfl⟩ (fun r_6 u_7 H locs hw_8 hP hD hS => ?_)
  obtain ⟨F2_1, G_1, V2_1⟩ := u_7
  obtain ⟨an2, hI2⟩ := hw_8
  dsimp only at an2 hI2 hP hD
  have hI : LI F_1 V_1 F2_1 G_1 V2_1 := ⟨_, _, _, _, _, _, _, _, _, _, _, _, _, _, _, _, _, _, _, _, hI1, hI2⟩
  refine lv_pop hx hb dL_law_613 rfl ?_
  refine lv_goto (tgt := 869) hx hb dL_law_614 (by decide) ?_
  exact nx h_1 F_1 V_1 F2_1 G_1 V2_1 H locs ls hh hI hP hD hS hl
set_option maxHeartbeats 4000000 in
set_option maxRecDepth 100000 in
theorem lc_15 {p : Program} {l : Launch} {e : Env} {s : State} {m : MethodId} {below : List Frame} {meth : Method} {c : Code} {b : Nat} {xs : Nat → Int32} {dC : Nat → ClassId} {dI : Nat → Nat → Nat} {cI cZ cJ : ClassId} {g : Nat → Nat} {h0 : Nat} {L j : Nat} (C0 : lw_At p s m meth c b L xs) (hK : va_K (dC, dI) vwCl (tys3 cI cZ cJ) s) (hL : L ≤ 2560) (hj : 5 * j + 5 ≤ L) (nx : lwK p l e s m below meth c b dC dI cI cZ cJ g h0 869 j) : lwK p l e s m below meth c b dC dI cI cZ cJ g h0 617 j := by
  obtain ⟨hx, hb, hr, hml, hown, hts0, hX, hbl, hlocks, hgv⟩ := id C0
  have hbA : ¬ (fun q : Nat => s.heap.size ≤ q) b := Nat.not_le.mpr hbl
  have hts : ∀ w ∈ wsL_law, w.before #[Value.ref b] s = true := fun w h => hts0 w (wsL_law_in w h)
  have fx : CallFix p m c cL_law 4 s #[Value.ref b] wsL_law RL := ⟨hx, hb, hml, hown, hts⟩
  have hA : ∀ q : Nat, s.heap.size ≤ q → (fun q : Nat => s.heap.size ≤ q) q := fun _ h => h
  intro h F V F2 G V2 H locs ls hh hI hP hD hS hl
  subst hh
  obtain ⟨n, d, ks, nw, un, wm, pf, So, Hh, Wd, Lm, Pr, X, Y, SX, SY, Kc, Kp, er, rb, hVC, hVM⟩ := hI
  obtain ⟨⟨va1, ba1⟩, ⟨va2, ba2⟩, ⟨va3, ba3⟩, ⟨va4, ba4⟩, ⟨va5, ba5⟩, ⟨va6, ba6⟩, ⟨va9, ba9⟩, ⟨sha, va11, ba11⟩, ⟨hSoa, bSoa⟩, ⟨hHha, bHha⟩, ⟨hWda, bWda⟩, ⟨hLma, bLma⟩, ⟨hPra, bPra⟩, hkn, hGP, hSU, hGC, hF10, hF11, hKC, hE, hPL⟩ := hVC
  obtain ⟨⟨vb2, bb2⟩, ⟨vb3, bb3⟩, ⟨vb4, bb4⟩, ⟨vb6, bb6⟩, ⟨vb7, bb7⟩, ⟨vb10, bb10⟩, ⟨shb, vb11, bb11⟩, ⟨hSob, bSob⟩, ⟨hLmb, bLmb⟩, ⟨hHhb, bHhb⟩, ⟨hWdb, bWdb⟩, ⟨hPrb, bPrb⟩, ⟨hXb, bXb⟩, ⟨hYb, bYb⟩, ⟨amb, vb8, bb8, hk8⟩, hGPb, hSXb, hSYb, hKcb, hKpb, hEb, hRBb⟩ := hVM
  refine lv_aload_n hx hb dL_law_617 rfl (lv_at hl 1 rfl) ?_
  refine lv_aload_n hx hb dL_law_618 rfl (lv_at hl 0 rfl) ?_
  refine lv_iload_n hx hb dL_law_619 rfl (lv_at hl 3 rfl) ?_
  refine lv_iconst (v := 1) hx hb dL_law_620 (by decide) ?_
  refine lv_iadd hx hb dL_law_621 ?_
  refine lv_topi (fun x_1 ex_1 => ?_)
  obtain rfl : x_1 = nI (5 * j + 1) := ex_1.trans (nI_add (5 * j) 1)
  refine va_sld hx hb hX hbl hbA hS (vp_in_nI (n := 5 * j + 1) (N := L) (by omega) (by omega)) dL_law_622 ?_
  refine cl_Vi (As := [.int (xs (nI (5 * j + 1)).toNatClampNeg)]) (rest := []) (wr := wM cI cZ cJ g F2 G V2) (c_X4_comes l dC dI cI cZ cJ h F V n va1 ba1 d va2 ba2 ks va3 ba3 nw va4 ba4 un va5 ba5 wm va6 ba6 pf va9 ba9 sha va11 ba11 So hSoa bSoa Hh hHha bHha Wd hWda bWda Lm hLma bLma Pr hPra bPra (xs (nI (5 * j + 1)).toNatClampNeg) X Y SX SY Kc Kp er rb hkn hGP hSU hGC hF10 hF11 hKC hE hPL) fx (cwV 1 hts gL_law_X4_comes rfl rfl rfl (by decide +kernel) ⟨Nat.le_of_ble_eq_true rfl, Nat.le_of_ble_eq_true rfl⟩) hK hP hD hS hA [0, 1, 2, 3, 4, 5, 6, 7, 8, 9, 10, 11, 12, 13, 14, 15, 16, 17, 18, 19, 20, 21, 22, 23, 24, 25, 26, 27, 28, 29, 30] [31, 32, 33, 34, 35, 36, 37, 38, 39, 40, 41, 42, 43, 44, 45, 46, 47, 48, 49, 50, 51, 52] rfl rfl (by decide) (by decide) (by decide) 0 rfl rfl rfl rfl hl.1 rfl (Nat.le_of_ble_eq_true rfl) dL_law_623 ⟨Nat.le_of_ble_eq_true rfl, Nat.le_of_ble_eq_true rfl⟩ (fun r_2 u_3 H locs hw_4 hP hD hS => ?_)
  obtain ⟨h_1, F_1, V_1⟩ := u_3
  obtain ⟨an1, hh1, hI1⟩ := hw_4
  dsimp only at an1 hh1 hI1 hP hD
  have hh : h_1 0 = h 0 := hh1
  have hP : va_P (dC, dI) vwCl (wC cI cZ h_1 F_1 V_1 ++ wM cI cZ cJ g F2 G V2) H := hP.sub [22, 23, 24, 25, 26, 27, 28, 29, 30, 31, 32, 33, 34, 35, 36, 37, 38, 39, 40, 41, 42, 43, 44, 45, 46, 47, 48, 49, 50, 51, 52, 0, 1, 2, 3, 4, 5, 6, 7, 8, 9, 10, 11, 12, 13, 14, 15, 16, 17, 18, 19, 20, 21] rfl
  have hD : va_D (fun q : Nat => s.heap.size ≤ q) (wC cI cZ h_1 F_1 V_1 ++ wM cI cZ cJ g F2 G V2) := hD.sub [22, 23, 24, 25, 26, 27, 28, 29, 30, 31, 32, 33, 34, 35, 36, 37, 38, 39, 40, 41, 42, 43, 44, 45, 46, 47, 48, 49, 50, 51, 52, 0, 1, 2, 3, 4, 5, 6, 7, 8, 9, 10, 11, 12, 13, 14, 15, 16, 17, 18, 19, 20, 21] (by decide) rfl
  refine lv_pop hx hb dL_law_626 rfl ?_
  refine lv_aload_n hx hb dL_law_627 rfl (lv_at hl 2 rfl) ?_
  refine lv_aload_n hx hb dL_law_628 rfl (lv_at hl 0 rfl) ?_
  refine lv_iload_n hx hb dL_law_629 rfl (lv_at hl 3 rfl) ?_
  refine lv_iconst (v := 1) hx hb dL_law_630 (by decide) ?_
  refine lv_iadd hx hb dL_law_631 ?_
  refine lv_topi (fun x_5 ex_5 => ?_)
  obtain rfl : x_5 = nI (5 * j + 1) := ex_5.trans (nI_add (5 * j) 1)
  refine va_sld hx hb hX hbl hbA hS (vp_in_nI (n := 5 * j + 1) (N := L) (by omega) (by omega)) dL_law_632 ?_
  refine cl_Vi (As := [.int (xs (nI (5 * j + 1)).toNatClampNeg)]) (rest := []) (wr := wC cI cZ h_1 F_1 V_1) (c_X5_comes l dC dI cI cZ cJ g F2 G V2 n vb2 bb2 nw vb3 bb3 un vb4 bb4 d vb6 bb6 wm vb7 bb7 pf vb10 bb10 shb vb11 bb11 So hSob bSob Lm hLmb bLmb Hh hHhb bHhb Wd hWdb bWdb Pr hPrb bPrb X hXb bXb Y hYb bYb (xs (nI (5 * j + 1)).toNatClampNeg) ks amb vb8 bb8 hk8 SX SY Kc Kp er rb hGPb hSXb hSYb hKcb hKpb hEb hRBb) fx (cwV 1 hts gL_law_X5_comes rfl rfl rfl (by decide +kernel) ⟨Nat.le_of_ble_eq_true rfl, Nat.le_of_ble_eq_true rfl⟩) hK hP hD hS hA [31, 32, 33, 34, 35, 36, 37, 38, 39, 40, 41, 42, 43, 44, 45, 46, 47, 48, 49, 50, 51, 52] [0, 1, 2, 3, 4, 5, 6, 7, 8, 9, 10, 11, 12, 13, 14, 15, 16, 17, 18, 19, 20, 21, 22, 23, 24, 25, 26, 27, 28, 29, 30] rfl rfl (by decide) (by decide) (by decide) 0 rfl rfl rfl rfl hl.1 rfl (Nat.le_of_ble_eq_true rfl) dL_law_633 ⟨Nat.le_of_ble_eq_true rfl, Nat.le_of_ble_eq_true rfl⟩ (fun r_6 u_7 H locs hw_8 hP hD hS => ?_)
  obtain ⟨F2_1, G_1, V2_1⟩ := u_7
  obtain ⟨an2, hI2⟩ := hw_8
  dsimp only at an2 hI2 hP hD
  have hI : LI F_1 V_1 F2_1 G_1 V2_1 := ⟨_, _, _, _, _, _, _, _, _, _, _, _, _, _, _, _, _, _, _, _, hI1, hI2⟩
  refine lv_pop hx hb dL_law_636 rfl ?_
  refine lv_goto (tgt := 869) hx hb dL_law_637 (by decide) ?_
  exact nx h_1 F_1 V_1 F2_1 G_1 V2_1 H locs ls hh hI hP hD hS hl
set_option maxHeartbeats 4000000 in
set_option maxRecDepth 100000 in
theorem lc_16 {p : Program} {l : Launch} {e : Env} {s : State} {m : MethodId} {below : List Frame} {meth : Method} {c : Code} {b : Nat} {xs : Nat → Int32} {dC : Nat → ClassId} {dI : Nat → Nat → Nat} {cI cZ cJ : ClassId} {g : Nat → Nat} {h0 : Nat} {L j : Nat} (C0 : lw_At p s m meth c b L xs) (hK : va_K (dC, dI) vwCl (tys3 cI cZ cJ) s) (hL : L ≤ 2560) (hj : 5 * j + 5 ≤ L) (nx : lwK p l e s m below meth c b dC dI cI cZ cJ g h0 869 j) : lwK p l e s m below meth c b dC dI cI cZ cJ g h0 640 j := by
  obtain ⟨hx, hb, hr, hml, hown, hts0, hX, hbl, hlocks, hgv⟩ := id C0
  have hbA : ¬ (fun q : Nat => s.heap.size ≤ q) b := Nat.not_le.mpr hbl
  have hts : ∀ w ∈ wsL_law, w.before #[Value.ref b] s = true := fun w h => hts0 w (wsL_law_in w h)
  have fx : CallFix p m c cL_law 4 s #[Value.ref b] wsL_law RL := ⟨hx, hb, hml, hown, hts⟩
  have hA : ∀ q : Nat, s.heap.size ≤ q → (fun q : Nat => s.heap.size ≤ q) q := fun _ h => h
  intro h F V F2 G V2 H locs ls hh hI hP hD hS hl
  subst hh
  obtain ⟨n, d, ks, nw, un, wm, pf, So, Hh, Wd, Lm, Pr, X, Y, SX, SY, Kc, Kp, er, rb, hVC, hVM⟩ := hI
  obtain ⟨⟨va1, ba1⟩, ⟨va2, ba2⟩, ⟨va3, ba3⟩, ⟨va4, ba4⟩, ⟨va5, ba5⟩, ⟨va6, ba6⟩, ⟨va9, ba9⟩, ⟨sha, va11, ba11⟩, ⟨hSoa, bSoa⟩, ⟨hHha, bHha⟩, ⟨hWda, bWda⟩, ⟨hLma, bLma⟩, ⟨hPra, bPra⟩, hkn, hGP, hSU, hGC, hF10, hF11, hKC, hE, hPL⟩ := hVC
  obtain ⟨⟨vb2, bb2⟩, ⟨vb3, bb3⟩, ⟨vb4, bb4⟩, ⟨vb6, bb6⟩, ⟨vb7, bb7⟩, ⟨vb10, bb10⟩, ⟨shb, vb11, bb11⟩, ⟨hSob, bSob⟩, ⟨hLmb, bLmb⟩, ⟨hHhb, bHhb⟩, ⟨hWdb, bWdb⟩, ⟨hPrb, bPrb⟩, ⟨hXb, bXb⟩, ⟨hYb, bYb⟩, ⟨amb, vb8, bb8, hk8⟩, hGPb, hSXb, hSYb, hKcb, hKpb, hEb, hRBb⟩ := hVM
  refine lv_aload_n hx hb dL_law_640 rfl (lv_at hl 1 rfl) ?_
  refine cl_Vi (As := []) (rest := []) (wr := wM cI cZ cJ g F2 G V2) (c_X4_plan l dC dI cI cZ cJ h F V n va1 ba1 d va2 ba2 ks va3 ba3 nw va4 ba4 un va5 ba5 wm va6 ba6 pf va9 ba9 sha va11 ba11 So hSoa bSoa Hh hHha bHha Wd hWda bWda Lm hLma bLma Pr hPra bPra  X Y SX SY Kc Kp er rb hkn hGP hSU hGC hF10 hF11 hKC hE hPL) fx (cwV 0 hts gL_law_X4_plan rfl rfl rfl (by decide +kernel) ⟨Nat.le_of_ble_eq_true rfl, Nat.le_of_ble_eq_true rfl⟩) hK hP hD hS hA [0, 1, 2, 3, 4, 5, 6, 7, 8, 9, 10, 11, 12, 13, 14, 15, 16, 17, 18, 19, 20, 21, 22, 23, 24, 25, 26, 27, 28, 29, 30] [31, 32, 33, 34, 35, 36, 37, 38, 39, 40, 41, 42, 43, 44, 45, 46, 47, 48, 49, 50, 51, 52] rfl rfl (by decide) (by decide) (by decide) 0 rfl rfl rfl rfl hl.1 rfl (Nat.le_of_ble_eq_true rfl) dL_law_641 ⟨Nat.le_of_ble_eq_true rfl, Nat.le_of_ble_eq_true rfl⟩ (fun r_1 u_2 H locs hw_3 hP hD hS => ?_)
  obtain ⟨h_1, F_1, V_1⟩ := u_2
  obtain ⟨an1, hh1, hI1⟩ := hw_3
  dsimp only at an1 hh1 hI1 hP hD
  have hh : h_1 0 = h 0 := hh1
  have hP : va_P (dC, dI) vwCl (wC cI cZ h_1 F_1 V_1 ++ wM cI cZ cJ g F2 G V2) H := hP.sub [22, 23, 24, 25, 26, 27, 28, 29, 30, 31, 32, 33, 34, 35, 36, 37, 38, 39, 40, 41, 42, 43, 44, 45, 46, 47, 48, 49, 50, 51, 52, 0, 1, 2, 3, 4, 5, 6, 7, 8, 9, 10, 11, 12, 13, 14, 15, 16, 17, 18, 19, 20, 21] rfl
  have hD : va_D (fun q : Nat => s.heap.size ≤ q) (wC cI cZ h_1 F_1 V_1 ++ wM cI cZ cJ g F2 G V2) := hD.sub [22, 23, 24, 25, 26, 27, 28, 29, 30, 31, 32, 33, 34, 35, 36, 37, 38, 39, 40, 41, 42, 43, 44, 45, 46, 47, 48, 49, 50, 51, 52, 0, 1, 2, 3, 4, 5, 6, 7, 8, 9, 10, 11, 12, 13, 14, 15, 16, 17, 18, 19, 20, 21] (by decide) rfl
  refine lv_pop hx hb dL_law_644 rfl ?_
  refine lv_aload_n hx hb dL_law_645 rfl (lv_at hl 2 rfl) ?_
  refine cl_Vi (As := []) (rest := []) (wr := wC cI cZ h_1 F_1 V_1) (c_X5_plan l dC dI cI cZ cJ g F2 G V2 n vb2 bb2 nw vb3 bb3 un vb4 bb4 d vb6 bb6 wm vb7 bb7 pf vb10 bb10 shb vb11 bb11 So hSob bSob Lm hLmb bLmb Hh hHhb bHhb Wd hWdb bWdb Pr hPrb bPrb X hXb bXb Y hYb bYb  ks amb vb8 bb8 hk8 SX SY Kc Kp er rb hGPb hSXb hSYb hKcb hKpb hEb hRBb) fx (cwV 0 hts gL_law_X5_plan rfl rfl rfl (by decide +kernel) ⟨Nat.le_of_ble_eq_true rfl, Nat.le_of_ble_eq_true rfl⟩) hK hP hD hS hA [31, 32, 33, 34, 35, 36, 37, 38, 39, 40, 41, 42, 43, 44, 45, 46, 47, 48, 49, 50, 51, 52] [0, 1, 2, 3, 4, 5, 6, 7, 8, 9, 10, 11, 12, 13, 14, 15, 16, 17, 18, 19, 20, 21, 22, 23, 24, 25, 26, 27, 28, 29, 30] rfl rfl (by decide) (by decide) (by decide) 0 rfl rfl rfl rfl hl.1 rfl (Nat.le_of_ble_eq_true rfl) dL_law_646 ⟨Nat.le_of_ble_eq_true rfl, Nat.le_of_ble_eq_true rfl⟩ (fun r_4 u_5 H locs hw_6 hP hD hS => ?_)
  obtain ⟨F2_1, G_1, V2_1⟩ := u_5
  obtain ⟨an2, hI2⟩ := hw_6
  dsimp only at an2 hI2 hP hD
  have hI : LI F_1 V_1 F2_1 G_1 V2_1 := ⟨_, _, _, _, _, _, _, _, _, _, _, _, _, _, _, _, _, _, _, _, hI1, hI2⟩
  refine lv_pop hx hb dL_law_649 rfl ?_
  refine lv_goto (tgt := 869) hx hb dL_law_650 (by decide) ?_
  exact nx h_1 F_1 V_1 F2_1 G_1 V2_1 H locs ls hh hI hP hD hS hl
set_option maxHeartbeats 4000000 in
set_option maxRecDepth 100000 in
theorem lc_17 {p : Program} {l : Launch} {e : Env} {s : State} {m : MethodId} {below : List Frame} {meth : Method} {c : Code} {b : Nat} {xs : Nat → Int32} {dC : Nat → ClassId} {dI : Nat → Nat → Nat} {cI cZ cJ : ClassId} {g : Nat → Nat} {h0 : Nat} {L j : Nat} (C0 : lw_At p s m meth c b L xs) (hK : va_K (dC, dI) vwCl (tys3 cI cZ cJ) s) (hL : L ≤ 2560) (hj : 5 * j + 5 ≤ L) (nx : lwK p l e s m below meth c b dC dI cI cZ cJ g h0 869 j) : lwK p l e s m below meth c b dC dI cI cZ cJ g h0 653 j := by
  obtain ⟨hx, hb, hr, hml, hown, hts0, hX, hbl, hlocks, hgv⟩ := id C0
  have hbA : ¬ (fun q : Nat => s.heap.size ≤ q) b := Nat.not_le.mpr hbl
  have hts : ∀ w ∈ wsL_law, w.before #[Value.ref b] s = true := fun w h => hts0 w (wsL_law_in w h)
  have fx : CallFix p m c cL_law 4 s #[Value.ref b] wsL_law RL := ⟨hx, hb, hml, hown, hts⟩
  have hA : ∀ q : Nat, s.heap.size ≤ q → (fun q : Nat => s.heap.size ≤ q) q := fun _ h => h
  intro h F V F2 G V2 H locs ls hh hI hP hD hS hl
  subst hh
  obtain ⟨n, d, ks, nw, un, wm, pf, So, Hh, Wd, Lm, Pr, X, Y, SX, SY, Kc, Kp, er, rb, hVC, hVM⟩ := hI
  obtain ⟨⟨va1, ba1⟩, ⟨va2, ba2⟩, ⟨va3, ba3⟩, ⟨va4, ba4⟩, ⟨va5, ba5⟩, ⟨va6, ba6⟩, ⟨va9, ba9⟩, ⟨sha, va11, ba11⟩, ⟨hSoa, bSoa⟩, ⟨hHha, bHha⟩, ⟨hWda, bWda⟩, ⟨hLma, bLma⟩, ⟨hPra, bPra⟩, hkn, hGP, hSU, hGC, hF10, hF11, hKC, hE, hPL⟩ := hVC
  obtain ⟨⟨vb2, bb2⟩, ⟨vb3, bb3⟩, ⟨vb4, bb4⟩, ⟨vb6, bb6⟩, ⟨vb7, bb7⟩, ⟨vb10, bb10⟩, ⟨shb, vb11, bb11⟩, ⟨hSob, bSob⟩, ⟨hLmb, bLmb⟩, ⟨hHhb, bHhb⟩, ⟨hWdb, bWdb⟩, ⟨hPrb, bPrb⟩, ⟨hXb, bXb⟩, ⟨hYb, bYb⟩, ⟨amb, vb8, bb8, hk8⟩, hGPb, hSXb, hSYb, hKcb, hKpb, hEb, hRBb⟩ := hVM
  refine lv_aload_n hx hb dL_law_653 rfl (lv_at hl 1 rfl) ?_
  refine lv_aload_n hx hb dL_law_654 rfl (lv_at hl 0 rfl) ?_
  refine lv_iload_n hx hb dL_law_655 rfl (lv_at hl 3 rfl) ?_
  refine lv_iconst (v := 1) hx hb dL_law_656 (by decide) ?_
  refine lv_iadd hx hb dL_law_657 ?_
  refine lv_topi (fun x_1 ex_1 => ?_)
  obtain rfl : x_1 = nI (5 * j + 1) := ex_1.trans (nI_add (5 * j) 1)
  refine va_sld hx hb hX hbl hbA hS (vp_in_nI (n := 5 * j + 1) (N := L) (by omega) (by omega)) dL_law_658 ?_
  refine cl_Vi (As := [.int (xs (nI (5 * j + 1)).toNatClampNeg)]) (rest := []) (wr := wM cI cZ cJ g F2 G V2) (c_X4_runs l dC dI cI cZ cJ h F V n va1 ba1 d va2 ba2 ks va3 ba3 nw va4 ba4 un va5 ba5 wm va6 ba6 pf va9 ba9 sha va11 ba11 So hSoa bSoa Hh hHha bHha Wd hWda bWda Lm hLma bLma Pr hPra bPra (xs (nI (5 * j + 1)).toNatClampNeg) X Y SX SY Kc Kp er rb hkn hGP hSU hGC hF10 hF11 hKC hE hPL) fx (cwV 1 hts gL_law_X4_runs rfl rfl rfl (by decide +kernel) ⟨Nat.le_of_ble_eq_true rfl, Nat.le_of_ble_eq_true rfl⟩) hK hP hD hS hA [0, 1, 2, 3, 4, 5, 6, 7, 8, 9, 10, 11, 12, 13, 14, 15, 16, 17, 18, 19, 20, 21, 22, 23, 24, 25, 26, 27, 28, 29, 30] [31, 32, 33, 34, 35, 36, 37, 38, 39, 40, 41, 42, 43, 44, 45, 46, 47, 48, 49, 50, 51, 52] rfl rfl (by decide) (by decide) (by decide) 0 rfl rfl rfl rfl hl.1 rfl (Nat.le_of_ble_eq_true rfl) dL_law_659 ⟨Nat.le_of_ble_eq_true rfl, Nat.le_of_ble_eq_true rfl⟩ (fun r_2 u_3 H locs hw_4 hP hD hS => ?_)
  obtain ⟨h_1, F_1, V_1⟩ := u_3
  obtain ⟨an1, hh1, hI1⟩ := hw_4
  dsimp only at an1 hh1 hI1 hP hD
  have hh : h_1 0 = h 0 := hh1
  have hP : va_P (dC, dI) vwCl (wC cI cZ h_1 F_1 V_1 ++ wM cI cZ cJ g F2 G V2) H := hP.sub [22, 23, 24, 25, 26, 27, 28, 29, 30, 31, 32, 33, 34, 35, 36, 37, 38, 39, 40, 41, 42, 43, 44, 45, 46, 47, 48, 49, 50, 51, 52, 0, 1, 2, 3, 4, 5, 6, 7, 8, 9, 10, 11, 12, 13, 14, 15, 16, 17, 18, 19, 20, 21] rfl
  have hD : va_D (fun q : Nat => s.heap.size ≤ q) (wC cI cZ h_1 F_1 V_1 ++ wM cI cZ cJ g F2 G V2) := hD.sub [22, 23, 24, 25, 26, 27, 28, 29, 30, 31, 32, 33, 34, 35, 36, 37, 38, 39, 40, 41, 42, 43, 44, 45, 46, 47, 48, 49, 50, 51, 52, 0, 1, 2, 3, 4, 5, 6, 7, 8, 9, 10, 11, 12, 13, 14, 15, 16, 17, 18, 19, 20, 21] (by decide) rfl
  refine lv_pop hx hb dL_law_662 rfl ?_
  refine lv_aload_n hx hb dL_law_663 rfl (lv_at hl 2 rfl) ?_
  refine lv_aload_n hx hb dL_law_664 rfl (lv_at hl 0 rfl) ?_
  refine lv_iload_n hx hb dL_law_665 rfl (lv_at hl 3 rfl) ?_
  refine lv_iconst (v := 1) hx hb dL_law_666 (by decide) ?_
  refine lv_iadd hx hb dL_law_667 ?_
  refine lv_topi (fun x_5 ex_5 => ?_)
  obtain rfl : x_5 = nI (5 * j + 1) := ex_5.trans (nI_add (5 * j) 1)
  refine va_sld hx hb hX hbl hbA hS (vp_in_nI (n := 5 * j + 1) (N := L) (by omega) (by omega)) dL_law_668 ?_
  refine cl_Vi (As := [.int (xs (nI (5 * j + 1)).toNatClampNeg)]) (rest := []) (wr := wC cI cZ h_1 F_1 V_1) (c_X5_runs l dC dI cI cZ cJ g F2 G V2 n vb2 bb2 nw vb3 bb3 un vb4 bb4 d vb6 bb6 wm vb7 bb7 pf vb10 bb10 shb vb11 bb11 So hSob bSob Lm hLmb bLmb Hh hHhb bHhb Wd hWdb bWdb Pr hPrb bPrb X hXb bXb Y hYb bYb (xs (nI (5 * j + 1)).toNatClampNeg) ks amb vb8 bb8 hk8 SX SY Kc Kp er rb hGPb hSXb hSYb hKcb hKpb hEb hRBb) fx (cwV 1 hts gL_law_X5_runs rfl rfl rfl (by decide +kernel) ⟨Nat.le_of_ble_eq_true rfl, Nat.le_of_ble_eq_true rfl⟩) hK hP hD hS hA [31, 32, 33, 34, 35, 36, 37, 38, 39, 40, 41, 42, 43, 44, 45, 46, 47, 48, 49, 50, 51, 52] [0, 1, 2, 3, 4, 5, 6, 7, 8, 9, 10, 11, 12, 13, 14, 15, 16, 17, 18, 19, 20, 21, 22, 23, 24, 25, 26, 27, 28, 29, 30] rfl rfl (by decide) (by decide) (by decide) 0 rfl rfl rfl rfl hl.1 rfl (Nat.le_of_ble_eq_true rfl) dL_law_669 ⟨Nat.le_of_ble_eq_true rfl, Nat.le_of_ble_eq_true rfl⟩ (fun r_6 u_7 H locs hw_8 hP hD hS => ?_)
  obtain ⟨F2_1, G_1, V2_1⟩ := u_7
  obtain ⟨an2, hI2⟩ := hw_8
  dsimp only at an2 hI2 hP hD
  have hI : LI F_1 V_1 F2_1 G_1 V2_1 := ⟨_, _, _, _, _, _, _, _, _, _, _, _, _, _, _, _, _, _, _, _, hI1, hI2⟩
  refine lv_pop hx hb dL_law_672 rfl ?_
  refine lv_goto (tgt := 869) hx hb dL_law_673 (by decide) ?_
  exact nx h_1 F_1 V_1 F2_1 G_1 V2_1 H locs ls hh hI hP hD hS hl
