set_option maxHeartbeats 4000000 in
set_option maxRecDepth 100000 in
theorem lc_0 {p : Program} {l : Launch} {e : Env} {s : State} {m : MethodId} {below : List Frame} {meth : Method} {c : Code} {b : Nat} {xs : Nat → Int32} {dC : Nat → ClassId} {dI : Nat → Nat → Nat} {cI cZ cJ : ClassId} {g : Nat → Nat} {h0 : Nat} {L j : Nat} (C0 : lw_At p s m meth c b L xs) (hK : va_K (dC, dI) vwCl (tys3 cI cZ cJ) s) (hL : L ≤ 2560) (hj : 5 * j + 5 ≤ L) (nx : lwK p l e s m below meth c b dC dI cI cZ cJ g h0 869 j) : lwK p l e s m below meth c b dC dI cI cZ cJ g h0 156 j := by
  obtain ⟨hx, hb, hr, hml, hown, hts0, hX, hbl, hlocks, hgv⟩ := id C0
  have hbA : ¬ (fun q : Nat => s.heap.size ≤ q) b := Nat.not_le.mpr hbl
  have hts : ∀ w ∈ wsL_law, w.before #[Value.ref b] s = true := fun w h => hts0 w (wsL_law_in w h)
  have fx : CallFix p m c cL_law 4 s #[Value.ref b] wsL_law RL := ⟨hx, hb, hml, hown, hts⟩
  have hA : ∀ q : Nat, s.heap.size ≤ q → (fun q : Nat => s.heap.size ≤ q) q := fun _ h => h
  intro h F V F2 G V2 H locs ls hh hI hP hD hS hl
  subst hh
  obtain ⟨n, d, ks, nw, un, wm, pf, So, Hh, Wd, Lm, Pr, X, Y, SX, SY, Kc, Kp, er, rb, hVC, hVM⟩ := hI
  obtain ⟨⟨va1, ba1⟩, ⟨va2, ba2⟩, ⟨va3, ba3⟩, ⟨va4, ba4⟩, ⟨va5, ba5⟩, ⟨va6, ba6⟩, ⟨va9, ba9⟩, ⟨sha, va11, ba11⟩, ⟨hSoa, bSoa⟩, ⟨hHha, bHha⟩, ⟨hWda, bWda⟩, ⟨hLma, bLma⟩, ⟨hPra, bPra⟩, hkn, hGP, hSU, hGC, hF10, hF11, hKC, hE, hPL⟩ := hVC
  obtain ⟨⟨vb2, bb2⟩, ⟨vb3, bb3⟩, ⟨vb4, bb4⟩, ⟨vb6, bb6⟩, ⟨vb7, bb7⟩, ⟨vb10, bb10⟩, ⟨shb, vb11, bb11⟩, ⟨hSob, bSob⟩, ⟨hLmb, bLmb⟩, ⟨hHhb, bHhb⟩, ⟨hWdb, bWdb⟩, ⟨hPrb, bPrb⟩, ⟨hXb, bXb⟩, ⟨hYb, bYb⟩, ⟨amb, vb8, bb8, hk8⟩, hGPb, hSXb, hSYb, hKcb, hKpb, hEb, hRBb⟩ := hVM
  refine lv_aload_n hx hb dL_law_156 rfl (lv_at hl 1 rfl) ?_
  refine lv_aload_n hx hb dL_law_157 rfl (lv_at hl 0 rfl) ?_
  refine lv_iload_n hx hb dL_law_158 rfl (lv_at hl 3 rfl) ?_
  refine lv_iconst (v := 1) hx hb dL_law_159 (by decide) ?_
  refine lv_iadd hx hb dL_law_160 ?_
  refine lv_topi (fun x_1 ex_1 => ?_)
  obtain rfl : x_1 = nI (5 * j + 1) := ex_1.trans (nI_add (5 * j) 1)
  refine va_sld hx hb hX hbl hbA hS (vp_in_nI (n := 5 * j + 1) (N := L) (by omega) (by omega)) dL_law_161 ?_
  refine lv_aload_n hx hb dL_law_162 rfl (lv_at hl 0 rfl) ?_
  refine lv_iload_n hx hb dL_law_163 rfl (lv_at hl 3 rfl) ?_
  refine lv_iconst (v := 2) hx hb dL_law_164 (by decide) ?_
  refine lv_iadd hx hb dL_law_165 ?_
  refine lv_topi (fun x_2 ex_2 => ?_)
  obtain rfl : x_2 = nI (5 * j + 2) := ex_2.trans (nI_add (5 * j) 2)
  refine va_sld hx hb hX hbl hbA hS (vp_in_nI (n := 5 * j + 2) (N := L) (by omega) (by omega)) dL_law_166 ?_
  refine cl_Vi (As := [.int (xs (nI (5 * j + 1)).toNatClampNeg), .int (xs (nI (5 * j + 2)).toNatClampNeg)]) (rest := []) (wr := wM cI cZ cJ g F2 G V2) (c_X4_mirror l dC dI cI cZ cJ h F V n va1 ba1 d va2 ba2 ks va3 ba3 nw va4 ba4 un va5 ba5 wm va6 ba6 pf va9 ba9 sha va11 ba11 So hSoa bSoa Hh hHha bHha Wd hWda bWda Lm hLma bLma Pr hPra bPra (xs (nI (5 * j + 1)).toNatClampNeg) (xs (nI (5 * j + 2)).toNatClampNeg) X Y SX SY Kc Kp er rb hkn hGP hSU hGC hF10 hF11 hKC hE hPL) fx (cwV 2 hts gL_law_X4_mirror rfl rfl rfl (by decide +kernel) ⟨Nat.le_of_ble_eq_true rfl, Nat.le_of_ble_eq_true rfl⟩) hK hP hD hS hA [0, 1, 2, 3, 4, 5, 6, 7, 8, 9, 10, 11, 12, 13, 14, 15, 16, 17, 18, 19, 20, 21, 22, 23, 24, 25, 26, 27, 28, 29, 30] [31, 32, 33, 34, 35, 36, 37, 38, 39, 40, 41, 42, 43, 44, 45, 46, 47, 48, 49, 50, 51, 52] rfl rfl (by decide) (by decide) (by decide) 0 rfl rfl rfl rfl hl.1 rfl (Nat.le_of_ble_eq_true rfl) dL_law_167 ⟨Nat.le_of_ble_eq_true rfl, Nat.le_of_ble_eq_true rfl⟩ (fun r_3 u_4 H locs hw_5 hP hD hS => ?_)
  obtain ⟨h_1, F_1, V_1⟩ := u_4
  obtain ⟨an1, hh1, hI1⟩ := hw_5
  dsimp only at an1 hh1 hI1 hP hD
  have hh : h_1 0 = h 0 := hh1
  have hP : va_P (dC, dI) vwCl (wC cI cZ h_1 F_1 V_1 ++ wM cI cZ cJ g F2 G V2) H := hP.sub [22, 23, 24, 25, 26, 27, 28, 29, 30, 31, 32, 33, 34, 35, 36, 37, 38, 39, 40, 41, 42, 43, 44, 45, 46, 47, 48, 49, 50, 51, 52, 0, 1, 2, 3, 4, 5, 6, 7, 8, 9, 10, 11, 12, 13, 14, 15, 16, 17, 18, 19, 20, 21] rfl
  have hD : va_D (fun q : Nat => s.heap.size ≤ q) (wC cI cZ h_1 F_1 V_1 ++ wM cI cZ cJ g F2 G V2) := hD.sub [22, 23, 24, 25, 26, 27, 28, 29, 30, 31, 32, 33, 34, 35, 36, 37, 38, 39, 40, 41, 42, 43, 44, 45, 46, 47, 48, 49, 50, 51, 52, 0, 1, 2, 3, 4, 5, 6, 7, 8, 9, 10, 11, 12, 13, 14, 15, 16, 17, 18, 19, 20, 21] (by decide) rfl
  refine lv_pop hx hb dL_law_170 rfl ?_
  refine lv_aload_n hx hb dL_law_171 rfl (lv_at hl 2 rfl) ?_
  refine lv_aload_n hx hb dL_law_172 rfl (lv_at hl 0 rfl) ?_
  refine lv_iload_n hx hb dL_law_173 rfl (lv_at hl 3 rfl) ?_
  refine lv_iconst (v := 1) hx hb dL_law_174 (by decide) ?_
  refine lv_iadd hx hb dL_law_175 ?_
  refine lv_topi (fun x_6 ex_6 => ?_)
  obtain rfl : x_6 = nI (5 * j + 1) := ex_6.trans (nI_add (5 * j) 1)
  refine va_sld hx hb hX hbl hbA hS (vp_in_nI (n := 5 * j + 1) (N := L) (by omega) (by omega)) dL_law_176 ?_
  refine lv_aload_n hx hb dL_law_177 rfl (lv_at hl 0 rfl) ?_
  refine lv_iload_n hx hb dL_law_178 rfl (lv_at hl 3 rfl) ?_
  refine lv_iconst (v := 2) hx hb dL_law_179 (by decide) ?_
  refine lv_iadd hx hb dL_law_180 ?_
  refine lv_topi (fun x_7 ex_7 => ?_)
  obtain rfl : x_7 = nI (5 * j + 2) := ex_7.trans (nI_add (5 * j) 2)
  refine va_sld hx hb hX hbl hbA hS (vp_in_nI (n := 5 * j + 2) (N := L) (by omega) (by omega)) dL_law_181 ?_
  refine cl_Vi (As := [.int (xs (nI (5 * j + 1)).toNatClampNeg), .int (xs (nI (5 * j + 2)).toNatClampNeg)]) (rest := []) (wr := wC cI cZ h_1 F_1 V_1) (c_X5_mirror l dC dI cI cZ cJ g F2 G V2 n vb2 bb2 nw vb3 bb3 un vb4 bb4 d vb6 bb6 wm vb7 bb7 pf vb10 bb10 shb vb11 bb11 So hSob bSob Lm hLmb bLmb Hh hHhb bHhb Wd hWdb bWdb Pr hPrb bPrb X hXb bXb Y hYb bYb (xs (nI (5 * j + 1)).toNatClampNeg) (xs (nI (5 * j + 2)).toNatClampNeg) ks amb vb8 bb8 hk8 SX SY Kc Kp er rb hGPb hSXb hSYb hKcb hKpb hEb hRBb) fx (cwV 2 hts gL_law_X5_mirror rfl rfl rfl (by decide +kernel) ⟨Nat.le_of_ble_eq_true rfl, Nat.le_of_ble_eq_true rfl⟩) hK hP hD hS hA [31, 32, 33, 34, 35, 36, 37, 38, 39, 40, 41, 42, 43, 44, 45, 46, 47, 48, 49, 50, 51, 52] [0, 1, 2, 3, 4, 5, 6, 7, 8, 9, 10, 11, 12, 13, 14, 15, 16, 17, 18, 19, 20, 21, 22, 23, 24, 25, 26, 27, 28, 29, 30] rfl rfl (by decide) (by decide) (by decide) 0 rfl rfl rfl rfl hl.1 rfl (Nat.le_of_ble_eq_true rfl) dL_law_182 ⟨Nat.le_of_ble_eq_true rfl, Nat.le_of_ble_eq_true rfl⟩ (fun r_8 u_9 H locs hw_10 hP hD hS => ?_)
  obtain ⟨F2_1, G_1, V2_1⟩ := u_9
  obtain ⟨an2, hI2⟩ := hw_10
  dsimp only at an2 hI2 hP hD
  have hI : LI F_1 V_1 F2_1 G_1 V2_1 := ⟨_, _, _, _, _, _, _, _, _, _, _, _, _, _, _, _, _, _, _, _, hI1, hI2⟩
  refine lv_pop hx hb dL_law_185 rfl ?_
  refine lv_goto (tgt := 869) hx hb dL_law_186 (by decide) ?_
  exact nx h_1 F_1 V_1 F2_1 G_1 V2_1 H locs ls hh hI hP hD hS hl
set_option maxHeartbeats 4000000 in
set_option maxRecDepth 100000 in
theorem lc_1 {p : Program} {l : Launch} {e : Env} {s : State} {m : MethodId} {below : List Frame} {meth : Method} {c : Code} {b : Nat} {xs : Nat → Int32} {dC : Nat → ClassId} {dI : Nat → Nat → Nat} {cI cZ cJ : ClassId} {g : Nat → Nat} {h0 : Nat} {L j : Nat} (C0 : lw_At p s m meth c b L xs) (hK : va_K (dC, dI) vwCl (tys3 cI cZ cJ) s) (hL : L ≤ 2560) (hj : 5 * j + 5 ≤ L) (nx : lwK p l e s m below meth c b dC dI cI cZ cJ g h0 869 j) : lwK p l e s m below meth c b dC dI cI cZ cJ g h0 189 j := by
  obtain ⟨hx, hb, hr, hml, hown, hts0, hX, hbl, hlocks, hgv⟩ := id C0
  have hbA : ¬ (fun q : Nat => s.heap.size ≤ q) b := Nat.not_le.mpr hbl
  have hts : ∀ w ∈ wsL_law, w.before #[Value.ref b] s = true := fun w h => hts0 w (wsL_law_in w h)
  have fx : CallFix p m c cL_law 4 s #[Value.ref b] wsL_law RL := ⟨hx, hb, hml, hown, hts⟩
  have hA : ∀ q : Nat, s.heap.size ≤ q → (fun q : Nat => s.heap.size ≤ q) q := fun _ h => h
  intro h F V F2 G V2 H locs ls hh hI hP hD hS hl
  subst hh
  obtain ⟨n, d, ks, nw, un, wm, pf, So, Hh, Wd, Lm, Pr, X, Y, SX, SY, Kc, Kp, er, rb, hVC, hVM⟩ := hI
  obtain ⟨⟨va1, ba1⟩, ⟨va2, ba2⟩, ⟨va3, ba3⟩, ⟨va4, ba4⟩, ⟨va5, ba5⟩, ⟨va6, ba6⟩, ⟨va9, ba9⟩, ⟨sha, va11, ba11⟩, ⟨hSoa, bSoa⟩, ⟨hHha, bHha⟩, ⟨hWda, bWda⟩, ⟨hLma, bLma⟩, ⟨hPra, bPra⟩, hkn, hGP, hSU, hGC, hF10, hF11, hKC, hE, hPL⟩ := hVC
  obtain ⟨⟨vb2, bb2⟩, ⟨vb3, bb3⟩, ⟨vb4, bb4⟩, ⟨vb6, bb6⟩, ⟨vb7, bb7⟩, ⟨vb10, bb10⟩, ⟨shb, vb11, bb11⟩, ⟨hSob, bSob⟩, ⟨hLmb, bLmb⟩, ⟨hHhb, bHhb⟩, ⟨hWdb, bWdb⟩, ⟨hPrb, bPrb⟩, ⟨hXb, bXb⟩, ⟨hYb, bYb⟩, ⟨amb, vb8, bb8, hk8⟩, hGPb, hSXb, hSYb, hKcb, hKpb, hEb, hRBb⟩ := hVM
  refine lv_aload_n hx hb dL_law_189 rfl (lv_at hl 1 rfl) ?_
  refine lv_aload_n hx hb dL_law_190 rfl (lv_at hl 0 rfl) ?_
  refine lv_iload_n hx hb dL_law_191 rfl (lv_at hl 3 rfl) ?_
  refine lv_iconst (v := 1) hx hb dL_law_192 (by decide) ?_
  refine lv_iadd hx hb dL_law_193 ?_
  refine lv_topi (fun x_1 ex_1 => ?_)
  obtain rfl : x_1 = nI (5 * j + 1) := ex_1.trans (nI_add (5 * j) 1)
  refine va_sld hx hb hX hbl hbA hS (vp_in_nI (n := 5 * j + 1) (N := L) (by omega) (by omega)) dL_law_194 ?_
  refine lv_aload_n hx hb dL_law_195 rfl (lv_at hl 0 rfl) ?_
  refine lv_iload_n hx hb dL_law_196 rfl (lv_at hl 3 rfl) ?_
  refine lv_iconst (v := 2) hx hb dL_law_197 (by decide) ?_
  refine lv_iadd hx hb dL_law_198 ?_
  refine lv_topi (fun x_2 ex_2 => ?_)
  obtain rfl : x_2 = nI (5 * j + 2) := ex_2.trans (nI_add (5 * j) 2)
  refine va_sld hx hb hX hbl hbA hS (vp_in_nI (n := 5 * j + 2) (N := L) (by omega) (by omega)) dL_law_199 ?_
  refine lv_aload_n hx hb dL_law_200 rfl (lv_at hl 0 rfl) ?_
  refine lv_iload_n hx hb dL_law_201 rfl (lv_at hl 3 rfl) ?_
  refine lv_iconst (v := 3) hx hb dL_law_202 (by decide) ?_
  refine lv_iadd hx hb dL_law_203 ?_
  refine lv_topi (fun x_3 ex_3 => ?_)
  obtain rfl : x_3 = nI (5 * j + 3) := ex_3.trans (nI_add (5 * j) 3)
  refine va_sld hx hb hX hbl hbA hS (vp_in_nI (n := 5 * j + 3) (N := L) (by omega) (by omega)) dL_law_204 ?_
  refine lv_aload_n hx hb dL_law_205 rfl (lv_at hl 0 rfl) ?_
  refine lv_iload_n hx hb dL_law_206 rfl (lv_at hl 3 rfl) ?_
  refine lv_iconst (v := 4) hx hb dL_law_207 (by decide) ?_
  refine lv_iadd hx hb dL_law_208 ?_
  refine lv_topi (fun x_4 ex_4 => ?_)
  obtain rfl : x_4 = nI (5 * j + 4) := ex_4.trans (nI_add (5 * j) 4)
  refine va_sld hx hb hX hbl hbA hS (vp_in_nI (n := 5 * j + 4) (N := L) (by omega) (by omega)) dL_law_209 ?_
  refine cl_Vi (As := [.int (xs (nI (5 * j + 1)).toNatClampNeg), .int (xs (nI (5 * j + 2)).toNatClampNeg), .int (xs (nI (5 * j + 3)).toNatClampNeg), .int (xs (nI (5 * j + 4)).toNatClampNeg)]) (rest := []) (wr := wM cI cZ cJ g F2 G V2) (c_X4_sun l dC dI cI cZ cJ h F V n va1 ba1 d va2 ba2 ks va3 ba3 nw va4 ba4 un va5 ba5 wm va6 ba6 pf va9 ba9 sha va11 ba11 So hSoa bSoa Hh hHha bHha Wd hWda bWda Lm hLma bLma Pr hPra bPra (xs (nI (5 * j + 1)).toNatClampNeg) (xs (nI (5 * j + 2)).toNatClampNeg) (xs (nI (5 * j + 3)).toNatClampNeg) (xs (nI (5 * j + 4)).toNatClampNeg) X Y SX SY Kc Kp er rb hkn hGP hSU hGC hF10 hF11 hKC hE hPL) fx (cwV 4 hts gL_law_X4_sun rfl rfl rfl (by decide +kernel) ⟨Nat.le_of_ble_eq_true rfl, Nat.le_of_ble_eq_true rfl⟩) hK hP hD hS hA [0, 1, 2, 3, 4, 5, 6, 7, 8, 9, 10, 11, 12, 13, 14, 15, 16, 17, 18, 19, 20, 21, 22, 23, 24, 25, 26, 27, 28, 29, 30] [31, 32, 33, 34, 35, 36, 37, 38, 39, 40, 41, 42, 43, 44, 45, 46, 47, 48, 49, 50, 51, 52] rfl rfl (by decide) (by decide) (by decide) 0 rfl rfl rfl rfl hl.1 rfl (Nat.le_of_ble_eq_true rfl) dL_law_210 ⟨Nat.le_of_ble_eq_true rfl, Nat.le_of_ble_eq_true rfl⟩ (fun r_5 u_6 H locs hw_7 hP hD hS => ?_)
  obtain ⟨h_1, F_1, V_1⟩ := u_6
  obtain ⟨an1, hh1, hI1⟩ := hw_7
  dsimp only at an1 hh1 hI1 hP hD
  have hh : h_1 0 = h 0 := hh1
  have hP : va_P (dC, dI) vwCl (wC cI cZ h_1 F_1 V_1 ++ wM cI cZ cJ g F2 G V2) H := hP.sub [22, 23, 24, 25, 26, 27, 28, 29, 30, 31, 32, 33, 34, 35, 36, 37, 38, 39, 40, 41, 42, 43, 44, 45, 46, 47, 48, 49, 50, 51, 52, 0, 1, 2, 3, 4, 5, 6, 7, 8, 9, 10, 11, 12, 13, 14, 15, 16, 17, 18, 19, 20, 21] rfl
  have hD : va_D (fun q : Nat => s.heap.size ≤ q) (wC cI cZ h_1 F_1 V_1 ++ wM cI cZ cJ g F2 G V2) := hD.sub [22, 23, 24, 25, 26, 27, 28, 29, 30, 31, 32, 33, 34, 35, 36, 37, 38, 39, 40, 41, 42, 43, 44, 45, 46, 47, 48, 49, 50, 51, 52, 0, 1, 2, 3, 4, 5, 6, 7, 8, 9, 10, 11, 12, 13, 14, 15, 16, 17, 18, 19, 20, 21] (by decide) rfl
  refine lv_pop hx hb dL_law_213 rfl ?_
  refine lv_aload_n hx hb dL_law_214 rfl (lv_at hl 2 rfl) ?_
  refine lv_aload_n hx hb dL_law_215 rfl (lv_at hl 0 rfl) ?_
  refine lv_iload_n hx hb dL_law_216 rfl (lv_at hl 3 rfl) ?_
  refine lv_iconst (v := 1) hx hb dL_law_217 (by decide) ?_
  refine lv_iadd hx hb dL_law_218 ?_
  refine lv_topi (fun x_8 ex_8 => ?_)
  obtain rfl : x_8 = nI (5 * j + 1) := ex_8.trans (nI_add (5 * j) 1)
  refine va_sld hx hb hX hbl hbA hS (vp_in_nI (n := 5 * j + 1) (N := L) (by omega) (by omega)) dL_law_219 ?_
  refine lv_aload_n hx hb dL_law_220 rfl (lv_at hl 0 rfl) ?_
  refine lv_iload_n hx hb dL_law_221 rfl (lv_at hl 3 rfl) ?_
  refine lv_iconst (v := 2) hx hb dL_law_222 (by decide) ?_
  refine lv_iadd hx hb dL_law_223 ?_
  refine lv_topi (fun x_9 ex_9 => ?_)
  obtain rfl : x_9 = nI (5 * j + 2) := ex_9.trans (nI_add (5 * j) 2)
  refine va_sld hx hb hX hbl hbA hS (vp_in_nI (n := 5 * j + 2) (N := L) (by omega) (by omega)) dL_law_224 ?_
  refine lv_aload_n hx hb dL_law_225 rfl (lv_at hl 0 rfl) ?_
  refine lv_iload_n hx hb dL_law_226 rfl (lv_at hl 3 rfl) ?_
  refine lv_iconst (v := 3) hx hb dL_law_227 (by decide) ?_
  refine lv_iadd hx hb dL_law_228 ?_
  refine lv_topi (fun x_10 ex_10 => ?_)
  obtain rfl : x_10 = nI (5 * j + 3) := ex_10.trans (nI_add (5 * j) 3)
  refine va_sld hx hb hX hbl hbA hS (vp_in_nI (n := 5 * j + 3) (N := L) (by omega) (by omega)) dL_law_229 ?_
  refine lv_aload_n hx hb dL_law_230 rfl (lv_at hl 0 rfl) ?_
  refine lv_iload_n hx hb dL_law_231 rfl (lv_at hl 3 rfl) ?_
  refine lv_iconst (v := 4) hx hb dL_law_232 (by decide) ?_
  refine lv_iadd hx hb dL_law_233 ?_
  refine lv_topi (fun x_11 ex_11 => ?_)
  obtain rfl : x_11 = nI (5 * j + 4) := ex_11.trans (nI_add (5 * j) 4)
  refine va_sld hx hb hX hbl hbA hS (vp_in_nI (n := 5 * j + 4) (N := L) (by omega) (by omega)) dL_law_234 ?_
  refine cl_Vi (As := [.int (xs (nI (5 * j + 1)).toNatClampNeg), .int (xs (nI (5 * j + 2)).toNatClampNeg), .int (xs (nI (5 * j + 3)).toNatClampNeg), .int (xs (nI (5 * j + 4)).toNatClampNeg)]) (rest := []) (wr := wC cI cZ h_1 F_1 V_1) (c_X5_sun l dC dI cI cZ cJ g F2 G V2 n vb2 bb2 nw vb3 bb3 un vb4 bb4 d vb6 bb6 wm vb7 bb7 pf vb10 bb10 shb vb11 bb11 So hSob bSob Lm hLmb bLmb Hh hHhb bHhb Wd hWdb bWdb Pr hPrb bPrb X hXb bXb Y hYb bYb (xs (nI (5 * j + 1)).toNatClampNeg) (xs (nI (5 * j + 2)).toNatClampNeg) (xs (nI (5 * j + 3)).toNatClampNeg) (xs (nI (5 * j + 4)).toNatClampNeg) ks amb vb8 bb8 hk8 SX SY Kc Kp er rb hGPb hSXb hSYb hKcb hKpb hEb hRBb) fx (cwV 4 hts gL_law_X5_sun rfl rfl rfl (by decide +kernel) ⟨Nat.le_of_ble_eq_true rfl, Nat.le_of_ble_eq_true rfl⟩) hK hP hD hS hA [31, 32, 33, 34, 35, 36, 37, 38, 39, 40, 41, 42, 43, 44, 45, 46, 47, 48, 49, 50, 51, 52] [0, 1, 2, 3, 4, 5, 6, 7, 8, 9, 10, 11, 12, 13, 14, 15, 16, 17, 18, 19, 20, 21, 22, 23, 24, 25, 26, 27, 28, 29, 30] rfl rfl (by decide) (by decide) (by decide) 0 rfl rfl rfl rfl hl.1 rfl (Nat.le_of_ble_eq_true rfl) dL_law_235 ⟨Nat.le_of_ble_eq_true rfl, Nat.le_of_ble_eq_true rfl⟩ (fun r_12 u_13 H locs hw_14 hP hD hS => ?_)
  obtain ⟨F2_1, G_1, V2_1⟩ := u_13
  obtain ⟨an2, hI2⟩ := hw_14
  dsimp only at an2 hI2 hP hD
  have hI : LI F_1 V_1 F2_1 G_1 V2_1 := ⟨_, _, _, _, _, _, _, _, _, _, _, _, _, _, _, _, _, _, _, _, hI1, hI2⟩
  refine lv_pop hx hb dL_law_238 rfl ?_
  refine lv_goto (tgt := 869) hx hb dL_law_239 (by decide) ?_
  exact nx h_1 F_1 V_1 F2_1 G_1 V2_1 H locs ls hh hI hP hD hS hl
set_option maxHeartbeats 4000000 in
set_option maxRecDepth 100000 in
theorem lc_2 {p : Program} {l : Launch} {e : Env} {s : State} {m : MethodId} {below : List Frame} {meth : Method} {c : Code} {b : Nat} {xs : Nat → Int32} {dC : Nat → ClassId} {dI : Nat → Nat → Nat} {cI cZ cJ : ClassId} {g : Nat → Nat} {h0 : Nat} {L j : Nat} (C0 : lw_At p s m meth c b L xs) (hK : va_K (dC, dI) vwCl (tys3 cI cZ cJ) s) (hL : L ≤ 2560) (hj : 5 * j + 5 ≤ L) (nx : lwK p l e s m below meth c b dC dI cI cZ cJ g h0 869 j) : lwK p l e s m below meth c b dC dI cI cZ cJ g h0 242 j := by
  obtain ⟨hx, hb, hr, hml, hown, hts0, hX, hbl, hlocks, hgv⟩ := id C0
  have hbA : ¬ (fun q : Nat => s.heap.size ≤ q) b := Nat.not_le.mpr hbl
  have hts : ∀ w ∈ wsL_law, w.before #[Value.ref b] s = true := fun w h => hts0 w (wsL_law_in w h)
  have fx : CallFix p m c cL_law 4 s #[Value.ref b] wsL_law RL := ⟨hx, hb, hml, hown, hts⟩
  have hA : ∀ q : Nat, s.heap.size ≤ q → (fun q : Nat => s.heap.size ≤ q) q := fun _ h => h
  intro h F V F2 G V2 H locs ls hh hI hP hD hS hl
  subst hh
  obtain ⟨n, d, ks, nw, un, wm, pf, So, Hh, Wd, Lm, Pr, X, Y, SX, SY, Kc, Kp, er, rb, hVC, hVM⟩ := hI
  obtain ⟨⟨va1, ba1⟩, ⟨va2, ba2⟩, ⟨va3, ba3⟩, ⟨va4, ba4⟩, ⟨va5, ba5⟩, ⟨va6, ba6⟩, ⟨va9, ba9⟩, ⟨sha, va11, ba11⟩, ⟨hSoa, bSoa⟩, ⟨hHha, bHha⟩, ⟨hWda, bWda⟩, ⟨hLma, bLma⟩, ⟨hPra, bPra⟩, hkn, hGP, hSU, hGC, hF10, hF11, hKC, hE, hPL⟩ := hVC
  obtain ⟨⟨vb2, bb2⟩, ⟨vb3, bb3⟩, ⟨vb4, bb4⟩, ⟨vb6, bb6⟩, ⟨vb7, bb7⟩, ⟨vb10, bb10⟩, ⟨shb, vb11, bb11⟩, ⟨hSob, bSob⟩, ⟨hLmb, bLmb⟩, ⟨hHhb, bHhb⟩, ⟨hWdb, bWdb⟩, ⟨hPrb, bPrb⟩, ⟨hXb, bXb⟩, ⟨hYb, bYb⟩, ⟨amb, vb8, bb8, hk8⟩, hGPb, hSXb, hSYb, hKcb, hKpb, hEb, hRBb⟩ := hVM
  refine lv_aload_n hx hb dL_law_242 rfl (lv_at hl 1 rfl) ?_
  refine lv_aload_n hx hb dL_law_243 rfl (lv_at hl 0 rfl) ?_
  refine lv_iload_n hx hb dL_law_244 rfl (lv_at hl 3 rfl) ?_
  refine lv_iconst (v := 1) hx hb dL_law_245 (by decide) ?_
  refine lv_iadd hx hb dL_law_246 ?_
  refine lv_topi (fun x_1 ex_1 => ?_)
  obtain rfl : x_1 = nI (5 * j + 1) := ex_1.trans (nI_add (5 * j) 1)
  refine va_sld hx hb hX hbl hbA hS (vp_in_nI (n := 5 * j + 1) (N := L) (by omega) (by omega)) dL_law_247 ?_
  refine lv_aload_n hx hb dL_law_248 rfl (lv_at hl 0 rfl) ?_
  refine lv_iload_n hx hb dL_law_249 rfl (lv_at hl 3 rfl) ?_
  refine lv_iconst (v := 2) hx hb dL_law_250 (by decide) ?_
  refine lv_iadd hx hb dL_law_251 ?_
  refine lv_topi (fun x_2 ex_2 => ?_)
  obtain rfl : x_2 = nI (5 * j + 2) := ex_2.trans (nI_add (5 * j) 2)
  refine va_sld hx hb hX hbl hbA hS (vp_in_nI (n := 5 * j + 2) (N := L) (by omega) (by omega)) dL_law_252 ?_
  refine cl_Vi (As := [.int (xs (nI (5 * j + 1)).toNatClampNeg), .int (xs (nI (5 * j + 2)).toNatClampNeg)]) (rest := []) (wr := wM cI cZ cJ g F2 G V2) (c_X4_limit l dC dI cI cZ cJ h F V n va1 ba1 d va2 ba2 ks va3 ba3 nw va4 ba4 un va5 ba5 wm va6 ba6 pf va9 ba9 sha va11 ba11 So hSoa bSoa Hh hHha bHha Wd hWda bWda Lm hLma bLma Pr hPra bPra (xs (nI (5 * j + 1)).toNatClampNeg) (xs (nI (5 * j + 2)).toNatClampNeg) X Y SX SY Kc Kp er rb hkn hGP hSU hGC hF10 hF11 hKC hE hPL) fx (cwV 2 hts gL_law_X4_limit rfl rfl rfl (by decide +kernel) ⟨Nat.le_of_ble_eq_true rfl, Nat.le_of_ble_eq_true rfl⟩) hK hP hD hS hA [0, 1, 2, 3, 4, 5, 6, 7, 8, 9, 10, 11, 12, 13, 14, 15, 16, 17, 18, 19, 20, 21, 22, 23, 24, 25, 26, 27, 28, 29, 30] [31, 32, 33, 34, 35, 36, 37, 38, 39, 40, 41, 42, 43, 44, 45, 46, 47, 48, 49, 50, 51, 52] rfl rfl (by decide) (by decide) (by decide) 0 rfl rfl rfl rfl hl.1 rfl (Nat.le_of_ble_eq_true rfl) dL_law_253 ⟨Nat.le_of_ble_eq_true rfl, Nat.le_of_ble_eq_true rfl⟩ (fun r_3 u_4 H locs hw_5 hP hD hS => ?_)
  obtain ⟨h_1, F_1, V_1⟩ := u_4
  obtain ⟨an1, hh1, hI1⟩ := hw_5
  dsimp only at an1 hh1 hI1 hP hD
  have hh : h_1 0 = h 0 := hh1
  have hP : va_P (dC, dI) vwCl (wC cI cZ h_1 F_1 V_1 ++ wM cI cZ cJ g F2 G V2) H := hP.sub [22, 23, 24, 25, 26, 27, 28, 29, 30, 31, 32, 33, 34, 35, 36, 37, 38, 39, 40, 41, 42, 43, 44, 45, 46, 47, 48, 49, 50, 51, 52, 0, 1, 2, 3, 4, 5, 6, 7, 8, 9, 10, 11, 12, 13, 14, 15, 16, 17, 18, 19, 20, 21] rfl
  have hD : va_D (fun q : Nat => s.heap.size ≤ q) (wC cI cZ h_1 F_1 V_1 ++ wM cI cZ cJ g F2 G V2) := hD.sub [22, 23, 24, 25, 26, 27, 28, 29, 30, 31, 32, 33, 34, 35, 36, 37, 38, 39, 40, 41, 42, 43, 44, 45, 46, 47, 48, 49, 50, 51, 52, 0, 1, 2, 3, 4, 5, 6, 7, 8, 9, 10, 11, 12, 13, 14, 15, 16, 17, 18, 19, 20, 21] (by decide) rfl
  refine lv_pop hx hb dL_law_256 rfl ?_
  refine lv_aload_n hx hb dL_law_257 rfl (lv_at hl 2 rfl) ?_
  refine lv_aload_n hx hb dL_law_258 rfl (lv_at hl 0 rfl) ?_
  refine lv_iload_n hx hb dL_law_259 rfl (lv_at hl 3 rfl) ?_
  refine lv_iconst (v := 1) hx hb dL_law_260 (by decide) ?_
  refine lv_iadd hx hb dL_law_261 ?_
  refine lv_topi (fun x_6 ex_6 => ?_)
  obtain rfl : x_6 = nI (5 * j + 1) := ex_6.trans (nI_add (5 * j) 1)
  refine va_sld hx hb hX hbl hbA hS (vp_in_nI (n := 5 * j + 1) (N := L) (by omega) (by omega)) dL_law_262 ?_
  refine lv_aload_n hx hb dL_law_263 rfl (lv_at hl 0 rfl) ?_
  refine lv_iload_n hx hb dL_law_264 rfl (lv_at hl 3 rfl) ?_
  refine lv_iconst (v := 2) hx hb dL_law_265 (by decide) ?_
  refine lv_iadd hx hb dL_law_266 ?_
  refine lv_topi (fun x_7 ex_7 => ?_)
  obtain rfl : x_7 = nI (5 * j + 2) := ex_7.trans (nI_add (5 * j) 2)
  refine va_sld hx hb hX hbl hbA hS (vp_in_nI (n := 5 * j + 2) (N := L) (by omega) (by omega)) dL_law_267 ?_
  refine cl_Vi (As := [.int (xs (nI (5 * j + 1)).toNatClampNeg), .int (xs (nI (5 * j + 2)).toNatClampNeg)]) (rest := []) (wr := wC cI cZ h_1 F_1 V_1) (c_X5_limit l dC dI cI cZ cJ g F2 G V2 n vb2 bb2 nw vb3 bb3 un vb4 bb4 d vb6 bb6 wm vb7 bb7 pf vb10 bb10 shb vb11 bb11 So hSob bSob Lm hLmb bLmb Hh hHhb bHhb Wd hWdb bWdb Pr hPrb bPrb X hXb bXb Y hYb bYb (xs (nI (5 * j + 1)).toNatClampNeg) (xs (nI (5 * j + 2)).toNatClampNeg) ks amb vb8 bb8 hk8 SX SY Kc Kp er rb hGPb hSXb hSYb hKcb hKpb hEb hRBb) fx (cwV 2 hts gL_law_X5_limit rfl rfl rfl (by decide +kernel) ⟨Nat.le_of_ble_eq_true rfl, Nat.le_of_ble_eq_true rfl⟩) hK hP hD hS hA [31, 32, 33, 34, 35, 36, 37, 38, 39, 40, 41, 42, 43, 44, 45, 46, 47, 48, 49, 50, 51, 52] [0, 1, 2, 3, 4, 5, 6, 7, 8, 9, 10, 11, 12, 13, 14, 15, 16, 17, 18, 19, 20, 21, 22, 23, 24, 25, 26, 27, 28, 29, 30] rfl rfl (by decide) (by decide) (by decide) 0 rfl rfl rfl rfl hl.1 rfl (Nat.le_of_ble_eq_true rfl) dL_law_268 ⟨Nat.le_of_ble_eq_true rfl, Nat.le_of_ble_eq_true rfl⟩ (fun r_8 u_9 H locs hw_10 hP hD hS => ?_)
  obtain ⟨F2_1, G_1, V2_1⟩ := u_9
  obtain ⟨an2, hI2⟩ := hw_10
  dsimp only at an2 hI2 hP hD
  have hI : LI F_1 V_1 F2_1 G_1 V2_1 := ⟨_, _, _, _, _, _, _, _, _, _, _, _, _, _, _, _, _, _, _, _, hI1, hI2⟩
  refine lv_pop hx hb dL_law_271 rfl ?_
  refine lv_goto (tgt := 869) hx hb dL_law_272 (by decide) ?_
  exact nx h_1 F_1 V_1 F2_1 G_1 V2_1 H locs ls hh hI hP hD hS hl
set_option maxHeartbeats 4000000 in
set_option maxRecDepth 100000 in
theorem lc_3 {p : Program} {l : Launch} {e : Env} {s : State} {m : MethodId} {below : List Frame} {meth : Method} {c : Code} {b : Nat} {xs : Nat → Int32} {dC : Nat → ClassId} {dI : Nat → Nat → Nat} {cI cZ cJ : ClassId} {g : Nat → Nat} {h0 : Nat} {L j : Nat} (C0 : lw_At p s m meth c b L xs) (hK : va_K (dC, dI) vwCl (tys3 cI cZ cJ) s) (hL : L ≤ 2560) (hj : 5 * j + 5 ≤ L) (nx : lwK p l e s m below meth c b dC dI cI cZ cJ g h0 869 j) : lwK p l e s m below meth c b dC dI cI cZ cJ g h0 275 j := by
  obtain ⟨hx, hb, hr, hml, hown, hts0, hX, hbl, hlocks, hgv⟩ := id C0
  have hbA : ¬ (fun q : Nat => s.heap.size ≤ q) b := Nat.not_le.mpr hbl
  have hts : ∀ w ∈ wsL_law, w.before #[Value.ref b] s = true := fun w h => hts0 w (wsL_law_in w h)
  have fx : CallFix p m c cL_law 4 s #[Value.ref b] wsL_law RL := ⟨hx, hb, hml, hown, hts⟩
  have hA : ∀ q : Nat, s.heap.size ≤ q → (fun q : Nat => s.heap.size ≤ q) q := fun _ h => h
  intro h F V F2 G V2 H locs ls hh hI hP hD hS hl
  subst hh
  obtain ⟨n, d, ks, nw, un, wm, pf, So, Hh, Wd, Lm, Pr, X, Y, SX, SY, Kc, Kp, er, rb, hVC, hVM⟩ := hI
  obtain ⟨⟨va1, ba1⟩, ⟨va2, ba2⟩, ⟨va3, ba3⟩, ⟨va4, ba4⟩, ⟨va5, ba5⟩, ⟨va6, ba6⟩, ⟨va9, ba9⟩, ⟨sha, va11, ba11⟩, ⟨hSoa, bSoa⟩, ⟨hHha, bHha⟩, ⟨hWda, bWda⟩, ⟨hLma, bLma⟩, ⟨hPra, bPra⟩, hkn, hGP, hSU, hGC, hF10, hF11, hKC, hE, hPL⟩ := hVC
  obtain ⟨⟨vb2, bb2⟩, ⟨vb3, bb3⟩, ⟨vb4, bb4⟩, ⟨vb6, bb6⟩, ⟨vb7, bb7⟩, ⟨vb10, bb10⟩, ⟨shb, vb11, bb11⟩, ⟨hSob, bSob⟩, ⟨hLmb, bLmb⟩, ⟨hHhb, bHhb⟩, ⟨hWdb, bWdb⟩, ⟨hPrb, bPrb⟩, ⟨hXb, bXb⟩, ⟨hYb, bYb⟩, ⟨amb, vb8, bb8, hk8⟩, hGPb, hSXb, hSYb, hKcb, hKpb, hEb, hRBb⟩ := hVM
  refine lv_aload_n hx hb dL_law_275 rfl (lv_at hl 1 rfl) ?_
  refine lv_aload_n hx hb dL_law_276 rfl (lv_at hl 0 rfl) ?_
  refine lv_iload_n hx hb dL_law_277 rfl (lv_at hl 3 rfl) ?_
  refine lv_iconst (v := 1) hx hb dL_law_278 (by decide) ?_
  refine lv_iadd hx hb dL_law_279 ?_
  refine lv_topi (fun x_1 ex_1 => ?_)
  obtain rfl : x_1 = nI (5 * j + 1) := ex_1.trans (nI_add (5 * j) 1)
  refine va_sld hx hb hX hbl hbA hS (vp_in_nI (n := 5 * j + 1) (N := L) (by omega) (by omega)) dL_law_280 ?_
  refine lv_aload_n hx hb dL_law_281 rfl (lv_at hl 0 rfl) ?_
  refine lv_iload_n hx hb dL_law_282 rfl (lv_at hl 3 rfl) ?_
  refine lv_iconst (v := 2) hx hb dL_law_283 (by decide) ?_
  refine lv_iadd hx hb dL_law_284 ?_
  refine lv_topi (fun x_2 ex_2 => ?_)
  obtain rfl : x_2 = nI (5 * j + 2) := ex_2.trans (nI_add (5 * j) 2)
  refine va_sld hx hb hX hbl hbA hS (vp_in_nI (n := 5 * j + 2) (N := L) (by omega) (by omega)) dL_law_285 ?_
  refine cl_Vi (As := [.int (xs (nI (5 * j + 1)).toNatClampNeg), .int (xs (nI (5 * j + 2)).toNatClampNeg)]) (rest := []) (wr := wM cI cZ cJ g F2 G V2) (c_X4_wind l dC dI cI cZ cJ h F V n va1 ba1 d va2 ba2 ks va3 ba3 nw va4 ba4 un va5 ba5 wm va6 ba6 pf va9 ba9 sha va11 ba11 So hSoa bSoa Hh hHha bHha Wd hWda bWda Lm hLma bLma Pr hPra bPra (xs (nI (5 * j + 1)).toNatClampNeg) (xs (nI (5 * j + 2)).toNatClampNeg) X Y SX SY Kc Kp er rb hkn hGP hSU hGC hF10 hF11 hKC hE hPL) fx (cwV 2 hts gL_law_X4_wind rfl rfl rfl (by decide +kernel) ⟨Nat.le_of_ble_eq_true rfl, Nat.le_of_ble_eq_true rfl⟩) hK hP hD hS hA [0, 1, 2, 3, 4, 5, 6, 7, 8, 9, 10, 11, 12, 13, 14, 15, 16, 17, 18, 19, 20, 21, 22, 23, 24, 25, 26, 27, 28, 29, 30] [31, 32, 33, 34, 35, 36, 37, 38, 39, 40, 41, 42, 43, 44, 45, 46, 47, 48, 49, 50, 51, 52] rfl rfl (by decide) (by decide) (by decide) 0 rfl rfl rfl rfl hl.1 rfl (Nat.le_of_ble_eq_true rfl) dL_law_286 ⟨Nat.le_of_ble_eq_true rfl, Nat.le_of_ble_eq_true rfl⟩ (fun r_3 u_4 H locs hw_5 hP hD hS => ?_)
  obtain ⟨h_1, F_1, V_1⟩ := u_4
  obtain ⟨an1, hh1, hI1⟩ := hw_5
  dsimp only at an1 hh1 hI1 hP hD
  have hh : h_1 0 = h 0 := hh1
  have hP : va_P (dC, dI) vwCl (wC cI cZ h_1 F_1 V_1 ++ wM cI cZ cJ g F2 G V2) H := hP.sub [22, 23, 24, 25, 26, 27, 28, 29, 30, 31, 32, 33, 34, 35, 36, 37, 38, 39, 40, 41, 42, 43, 44, 45, 46, 47, 48, 49, 50, 51, 52, 0, 1, 2, 3, 4, 5, 6, 7, 8, 9, 10, 11, 12, 13, 14, 15, 16, 17, 18, 19, 20, 21] rfl
  have hD : va_D (fun q : Nat => s.heap.size ≤ q) (wC cI cZ h_1 F_1 V_1 ++ wM cI cZ cJ g F2 G V2) := hD.sub [22, 23, 24, 25, 26, 27, 28, 29, 30, 31, 32, 33, 34, 35, 36, 37, 38, 39, 40, 41, 42, 43, 44, 45, 46, 47, 48, 49, 50, 51, 52, 0, 1, 2, 3, 4, 5, 6, 7, 8, 9, 10, 11, 12, 13, 14, 15, 16, 17, 18, 19, 20, 21] (by decide) rfl
  refine lv_pop hx hb dL_law_289 rfl ?_
  refine lv_aload_n hx hb dL_law_290 rfl (lv_at hl 2 rfl) ?_
  refine lv_aload_n hx hb dL_law_291 rfl (lv_at hl 0 rfl) ?_
  refine lv_iload_n hx hb dL_law_292 rfl (lv_at hl 3 rfl) ?_
  refine lv_iconst (v := 1) hx hb dL_law_293 (by decide) ?_
  refine lv_iadd hx hb dL_law_294 ?_
  refine lv_topi (fun x_6 ex_6 => ?_)
  obtain rfl : x_6 = nI (5 * j + 1) := ex_6.trans (nI_add (5 * j) 1)
  refine va_sld hx hb hX hbl hbA hS (vp_in_nI (n := 5 * j + 1) (N := L) (by omega) (by omega)) dL_law_295 ?_
  refine lv_aload_n hx hb dL_law_296 rfl (lv_at hl 0 rfl) ?_
  refine lv_iload_n hx hb dL_law_297 rfl (lv_at hl 3 rfl) ?_
  refine lv_iconst (v := 2) hx hb dL_law_298 (by decide) ?_
  refine lv_iadd hx hb dL_law_299 ?_
  refine lv_topi (fun x_7 ex_7 => ?_)
  obtain rfl : x_7 = nI (5 * j + 2) := ex_7.trans (nI_add (5 * j) 2)
  refine va_sld hx hb hX hbl hbA hS (vp_in_nI (n := 5 * j + 2) (N := L) (by omega) (by omega)) dL_law_300 ?_
  refine cl_Vi (As := [.int (xs (nI (5 * j + 1)).toNatClampNeg), .int (xs (nI (5 * j + 2)).toNatClampNeg)]) (rest := []) (wr := wC cI cZ h_1 F_1 V_1) (c_X5_wind l dC dI cI cZ cJ g F2 G V2 n vb2 bb2 nw vb3 bb3 un vb4 bb4 d vb6 bb6 wm vb7 bb7 pf vb10 bb10 shb vb11 bb11 So hSob bSob Lm hLmb bLmb Hh hHhb bHhb Wd hWdb bWdb Pr hPrb bPrb X hXb bXb Y hYb bYb (xs (nI (5 * j + 1)).toNatClampNeg) (xs (nI (5 * j + 2)).toNatClampNeg) ks amb vb8 bb8 hk8 SX SY Kc Kp er rb hGPb hSXb hSYb hKcb hKpb hEb hRBb) fx (cwV 2 hts gL_law_X5_wind rfl rfl rfl (by decide +kernel) ⟨Nat.le_of_ble_eq_true rfl, Nat.le_of_ble_eq_true rfl⟩) hK hP hD hS hA [31, 32, 33, 34, 35, 36, 37, 38, 39, 40, 41, 42, 43, 44, 45, 46, 47, 48, 49, 50, 51, 52] [0, 1, 2, 3, 4, 5, 6, 7, 8, 9, 10, 11, 12, 13, 14, 15, 16, 17, 18, 19, 20, 21, 22, 23, 24, 25, 26, 27, 28, 29, 30] rfl rfl (by decide) (by decide) (by decide) 0 rfl rfl rfl rfl hl.1 rfl (Nat.le_of_ble_eq_true rfl) dL_law_301 ⟨Nat.le_of_ble_eq_true rfl, Nat.le_of_ble_eq_true rfl⟩ (fun r_8 u_9 H locs hw_10 hP hD hS => ?_)
  obtain ⟨F2_1, G_1, V2_1⟩ := u_9
  obtain ⟨an2, hI2⟩ := hw_10
  dsimp only at an2 hI2 hP hD
  have hI : LI F_1 V_1 F2_1 G_1 V2_1 := ⟨_, _, _, _, _, _, _, _, _, _, _, _, _, _, _, _, _, _, _, _, hI1, hI2⟩
  refine lv_pop hx hb dL_law_304 rfl ?_
  refine lv_goto (tgt := 869) hx hb dL_law_305 (by decide) ?_
  exact nx h_1 F_1 V_1 F2_1 G_1 V2_1 H locs ls hh hI hP hD hS hl
set_option maxHeartbeats 4000000 in
set_option maxRecDepth 100000 in
theorem lc_4 {p : Program} {l : Launch} {e : Env} {s : State} {m : MethodId} {below : List Frame} {meth : Method} {c : Code} {b : Nat} {xs : Nat → Int32} {dC : Nat → ClassId} {dI : Nat → Nat → Nat} {cI cZ cJ : ClassId} {g : Nat → Nat} {h0 : Nat} {L j : Nat} (C0 : lw_At p s m meth c b L xs) (hK : va_K (dC, dI) vwCl (tys3 cI cZ cJ) s) (hL : L ≤ 2560) (hj : 5 * j + 5 ≤ L) (nx : lwK p l e s m below meth c b dC dI cI cZ cJ g h0 869 j) : lwK p l e s m below meth c b dC dI cI cZ cJ g h0 308 j := by
  obtain ⟨hx, hb, hr, hml, hown, hts0, hX, hbl, hlocks, hgv⟩ := id C0
  have hbA : ¬ (fun q : Nat => s.heap.size ≤ q) b := Nat.not_le.mpr hbl
  have hts : ∀ w ∈ wsL_law, w.before #[Value.ref b] s = true := fun w h => hts0 w (wsL_law_in w h)
  have fx : CallFix p m c cL_law 4 s #[Value.ref b] wsL_law RL := ⟨hx, hb, hml, hown, hts⟩
  have hA : ∀ q : Nat, s.heap.size ≤ q → (fun q : Nat => s.heap.size ≤ q) q := fun _ h => h
  intro h F V F2 G V2 H locs ls hh hI hP hD hS hl
  subst hh
  obtain ⟨n, d, ks, nw, un, wm, pf, So, Hh, Wd, Lm, Pr, X, Y, SX, SY, Kc, Kp, er, rb, hVC, hVM⟩ := hI
  obtain ⟨⟨va1, ba1⟩, ⟨va2, ba2⟩, ⟨va3, ba3⟩, ⟨va4, ba4⟩, ⟨va5, ba5⟩, ⟨va6, ba6⟩, ⟨va9, ba9⟩, ⟨sha, va11, ba11⟩, ⟨hSoa, bSoa⟩, ⟨hHha, bHha⟩, ⟨hWda, bWda⟩, ⟨hLma, bLma⟩, ⟨hPra, bPra⟩, hkn, hGP, hSU, hGC, hF10, hF11, hKC, hE, hPL⟩ := hVC
  obtain ⟨⟨vb2, bb2⟩, ⟨vb3, bb3⟩, ⟨vb4, bb4⟩, ⟨vb6, bb6⟩, ⟨vb7, bb7⟩, ⟨vb10, bb10⟩, ⟨shb, vb11, bb11⟩, ⟨hSob, bSob⟩, ⟨hLmb, bLmb⟩, ⟨hHhb, bHhb⟩, ⟨hWdb, bWdb⟩, ⟨hPrb, bPrb⟩, ⟨hXb, bXb⟩, ⟨hYb, bYb⟩, ⟨amb, vb8, bb8, hk8⟩, hGPb, hSXb, hSYb, hKcb, hKpb, hEb, hRBb⟩ := hVM
  refine lv_aload_n hx hb dL_law_308 rfl (lv_at hl 1 rfl) ?_
  refine lv_aload_n hx hb dL_law_309 rfl (lv_at hl 0 rfl) ?_
  refine lv_iload_n hx hb dL_law_310 rfl (lv_at hl 3 rfl) ?_
  refine lv_iconst (v := 1) hx hb dL_law_311 (by decide) ?_
  refine lv_iadd hx hb dL_law_312 ?_
  refine lv_topi (fun x_1 ex_1 => ?_)
  obtain rfl : x_1 = nI (5 * j + 1) := ex_1.trans (nI_add (5 * j) 1)
  refine va_sld hx hb hX hbl hbA hS (vp_in_nI (n := 5 * j + 1) (N := L) (by omega) (by omega)) dL_law_313 ?_
  refine lv_aload_n hx hb dL_law_314 rfl (lv_at hl 0 rfl) ?_
  refine lv_iload_n hx hb dL_law_315 rfl (lv_at hl 3 rfl) ?_
  refine lv_iconst (v := 2) hx hb dL_law_316 (by decide) ?_
  refine lv_iadd hx hb dL_law_317 ?_
  refine lv_topi (fun x_2 ex_2 => ?_)
  obtain rfl : x_2 = nI (5 * j + 2) := ex_2.trans (nI_add (5 * j) 2)
  refine va_sld hx hb hX hbl hbA hS (vp_in_nI (n := 5 * j + 2) (N := L) (by omega) (by omega)) dL_law_318 ?_
  refine cl_Vi (As := [.int (xs (nI (5 * j + 1)).toNatClampNeg), .int (xs (nI (5 * j + 2)).toNatClampNeg)]) (rest := []) (wr := wM cI cZ cJ g F2 G V2) (c_X4_price l dC dI cI cZ cJ h F V n va1 ba1 d va2 ba2 ks va3 ba3 nw va4 ba4 un va5 ba5 wm va6 ba6 pf va9 ba9 sha va11 ba11 So hSoa bSoa Hh hHha bHha Wd hWda bWda Lm hLma bLma Pr hPra bPra (xs (nI (5 * j + 1)).toNatClampNeg) (xs (nI (5 * j + 2)).toNatClampNeg) X Y SX SY Kc Kp er rb hkn hGP hSU hGC hF10 hF11 hKC hE hPL) fx (cwV 2 hts gL_law_X4_price rfl rfl rfl (by decide +kernel) ⟨Nat.le_of_ble_eq_true rfl, Nat.le_of_ble_eq_true rfl⟩) hK hP hD hS hA [0, 1, 2, 3, 4, 5, 6, 7, 8, 9, 10, 11, 12, 13, 14, 15, 16, 17, 18, 19, 20, 21, 22, 23, 24, 25, 26, 27, 28, 29, 30] [31, 32, 33, 34, 35, 36, 37, 38, 39, 40, 41, 42, 43, 44, 45, 46, 47, 48, 49, 50, 51, 52] rfl rfl (by decide) (by decide) (by decide) 0 rfl rfl rfl rfl hl.1 rfl (Nat.le_of_ble_eq_true rfl) dL_law_319 ⟨Nat.le_of_ble_eq_true rfl, Nat.le_of_ble_eq_true rfl⟩ (fun r_3 u_4 H locs hw_5 hP hD hS => ?_)
  obtain ⟨h_1, F_1, V_1⟩ := u_4
  obtain ⟨an1, hh1, hI1⟩ := hw_5
  dsimp only at an1 hh1 hI1 hP hD
  have hh : h_1 0 = h 0 := hh1
  have hP : va_P (dC, dI) vwCl (wC cI cZ h_1 F_1 V_1 ++ wM cI cZ cJ g F2 G V2) H := hP.sub [22, 23, 24, 25, 26, 27, 28, 29, 30, 31, 32, 33, 34, 35, 36, 37, 38, 39, 40, 41, 42, 43, 44, 45, 46, 47, 48, 49, 50, 51, 52, 0, 1, 2, 3, 4, 5, 6, 7, 8, 9, 10, 11, 12, 13, 14, 15, 16, 17, 18, 19, 20, 21] rfl
  have hD : va_D (fun q : Nat => s.heap.size ≤ q) (wC cI cZ h_1 F_1 V_1 ++ wM cI cZ cJ g F2 G V2) := hD.sub [22, 23, 24, 25, 26, 27, 28, 29, 30, 31, 32, 33, 34, 35, 36, 37, 38, 39, 40, 41, 42, 43, 44, 45, 46, 47, 48, 49, 50, 51, 52, 0, 1, 2, 3, 4, 5, 6, 7, 8, 9, 10, 11, 12, 13, 14, 15, 16, 17, 18, 19, 20, 21] (by decide) rfl
  refine lv_pop hx hb dL_law_322 rfl ?_
  refine lv_aload_n hx hb dL_law_323 rfl (lv_at hl 2 rfl) ?_
  refine lv_aload_n hx hb dL_law_324 rfl (lv_at hl 0 rfl) ?_
  refine lv_iload_n hx hb dL_law_325 rfl (lv_at hl 3 rfl) ?_
  refine lv_iconst (v := 1) hx hb dL_law_326 (by decide) ?_
  refine lv_iadd hx hb dL_law_327 ?_
  refine lv_topi (fun x_6 ex_6 => ?_)
  obtain rfl : x_6 = nI (5 * j + 1) := ex_6.trans (nI_add (5 * j) 1)
  refine va_sld hx hb hX hbl hbA hS (vp_in_nI (n := 5 * j + 1) (N := L) (by omega) (by omega)) dL_law_328 ?_
  refine lv_aload_n hx hb dL_law_329 rfl (lv_at hl 0 rfl) ?_
  refine lv_iload_n hx hb dL_law_330 rfl (lv_at hl 3 rfl) ?_
  refine lv_iconst (v := 2) hx hb dL_law_331 (by decide) ?_
  refine lv_iadd hx hb dL_law_332 ?_
  refine lv_topi (fun x_7 ex_7 => ?_)
  obtain rfl : x_7 = nI (5 * j + 2) := ex_7.trans (nI_add (5 * j) 2)
  refine va_sld hx hb hX hbl hbA hS (vp_in_nI (n := 5 * j + 2) (N := L) (by omega) (by omega)) dL_law_333 ?_
  refine cl_Vi (As := [.int (xs (nI (5 * j + 1)).toNatClampNeg), .int (xs (nI (5 * j + 2)).toNatClampNeg)]) (rest := []) (wr := wC cI cZ h_1 F_1 V_1) (c_X5_price l dC dI cI cZ cJ g F2 G V2 n vb2 bb2 nw vb3 bb3 un vb4 bb4 d vb6 bb6 wm vb7 bb7 pf vb10 bb10 shb vb11 bb11 So hSob bSob Lm hLmb bLmb Hh hHhb bHhb Wd hWdb bWdb Pr hPrb bPrb X hXb bXb Y hYb bYb (xs (nI (5 * j + 1)).toNatClampNeg) (xs (nI (5 * j + 2)).toNatClampNeg) ks amb vb8 bb8 hk8 SX SY Kc Kp er rb hGPb hSXb hSYb hKcb hKpb hEb hRBb) fx (cwV 2 hts gL_law_X5_price rfl rfl rfl (by decide +kernel) ⟨Nat.le_of_ble_eq_true rfl, Nat.le_of_ble_eq_true rfl⟩) hK hP hD hS hA [31, 32, 33, 34, 35, 36, 37, 38, 39, 40, 41, 42, 43, 44, 45, 46, 47, 48, 49, 50, 51, 52] [0, 1, 2, 3, 4, 5, 6, 7, 8, 9, 10, 11, 12, 13, 14, 15, 16, 17, 18, 19, 20, 21, 22, 23, 24, 25, 26, 27, 28, 29, 30] rfl rfl (by decide) (by decide) (by decide) 0 rfl rfl rfl rfl hl.1 rfl (Nat.le_of_ble_eq_true rfl) dL_law_334 ⟨Nat.le_of_ble_eq_true rfl, Nat.le_of_ble_eq_true rfl⟩ (fun r_8 u_9 H locs hw_10 hP hD hS => ?_)
  obtain ⟨F2_1, G_1, V2_1⟩ := u_9
  obtain ⟨an2, hI2⟩ := hw_10
  dsimp only at an2 hI2 hP hD
  have hI : LI F_1 V_1 F2_1 G_1 V2_1 := ⟨_, _, _, _, _, _, _, _, _, _, _, _, _, _, _, _, _, _, _, _, hI1, hI2⟩
  refine lv_pop hx hb dL_law_337 rfl ?_
  refine lv_goto (tgt := 869) hx hb dL_law_338 (by decide) ?_
  exact nx h_1 F_1 V_1 F2_1 G_1 V2_1 H locs ls hh hI hP hD hS hl
set_option maxHeartbeats 4000000 in
set_option maxRecDepth 100000 in
theorem lc_5 {p : Program} {l : Launch} {e : Env} {s : State} {m : MethodId} {below : List Frame} {meth : Method} {c : Code} {b : Nat} {xs : Nat → Int32} {dC : Nat → ClassId} {dI : Nat → Nat → Nat} {cI cZ cJ : ClassId} {g : Nat → Nat} {h0 : Nat} {L j : Nat} (C0 : lw_At p s m meth c b L xs) (hK : va_K (dC, dI) vwCl (tys3 cI cZ cJ) s) (hL : L ≤ 2560) (hj : 5 * j + 5 ≤ L) (nx : lwK p l e s m below meth c b dC dI cI cZ cJ g h0 869 j) : lwK p l e s m below meth c b dC dI cI cZ cJ g h0 341 j := by
  obtain ⟨hx, hb, hr, hml, hown, hts0, hX, hbl, hlocks, hgv⟩ := id C0
  have hbA : ¬ (fun q : Nat => s.heap.size ≤ q) b := Nat.not_le.mpr hbl
  have hts : ∀ w ∈ wsL_law, w.before #[Value.ref b] s = true := fun w h => hts0 w (wsL_law_in w h)
  have fx : CallFix p m c cL_law 4 s #[Value.ref b] wsL_law RL := ⟨hx, hb, hml, hown, hts⟩
  have hA : ∀ q : Nat, s.heap.size ≤ q → (fun q : Nat => s.heap.size ≤ q) q := fun _ h => h
  intro h F V F2 G V2 H locs ls hh hI hP hD hS hl
  subst hh
  obtain ⟨n, d, ks, nw, un, wm, pf, So, Hh, Wd, Lm, Pr, X, Y, SX, SY, Kc, Kp, er, rb, hVC, hVM⟩ := hI
  obtain ⟨⟨va1, ba1⟩, ⟨va2, ba2⟩, ⟨va3, ba3⟩, ⟨va4, ba4⟩, ⟨va5, ba5⟩, ⟨va6, ba6⟩, ⟨va9, ba9⟩, ⟨sha, va11, ba11⟩, ⟨hSoa, bSoa⟩, ⟨hHha, bHha⟩, ⟨hWda, bWda⟩, ⟨hLma, bLma⟩, ⟨hPra, bPra⟩, hkn, hGP, hSU, hGC, hF10, hF11, hKC, hE, hPL⟩ := hVC
  obtain ⟨⟨vb2, bb2⟩, ⟨vb3, bb3⟩, ⟨vb4, bb4⟩, ⟨vb6, bb6⟩, ⟨vb7, bb7⟩, ⟨vb10, bb10⟩, ⟨shb, vb11, bb11⟩, ⟨hSob, bSob⟩, ⟨hLmb, bLmb⟩, ⟨hHhb, bHhb⟩, ⟨hWdb, bWdb⟩, ⟨hPrb, bPrb⟩, ⟨hXb, bXb⟩, ⟨hYb, bYb⟩, ⟨amb, vb8, bb8, hk8⟩, hGPb, hSXb, hSYb, hKcb, hKpb, hEb, hRBb⟩ := hVM
  refine lv_aload_n hx hb dL_law_341 rfl (lv_at hl 1 rfl) ?_
  refine lv_aload_n hx hb dL_law_342 rfl (lv_at hl 0 rfl) ?_
  refine lv_iload_n hx hb dL_law_343 rfl (lv_at hl 3 rfl) ?_
  refine lv_iconst (v := 1) hx hb dL_law_344 (by decide) ?_
  refine lv_iadd hx hb dL_law_345 ?_
  refine lv_topi (fun x_1 ex_1 => ?_)
  obtain rfl : x_1 = nI (5 * j + 1) := ex_1.trans (nI_add (5 * j) 1)
  refine va_sld hx hb hX hbl hbA hS (vp_in_nI (n := 5 * j + 1) (N := L) (by omega) (by omega)) dL_law_346 ?_
  refine cl_Vi (As := [.int (xs (nI (5 * j + 1)).toNatClampNeg)]) (rest := []) (wr := wM cI cZ cJ g F2 G V2) (c_X4_dust l dC dI cI cZ cJ h F V n va1 ba1 d va2 ba2 ks va3 ba3 nw va4 ba4 un va5 ba5 wm va6 ba6 pf va9 ba9 sha va11 ba11 So hSoa bSoa Hh hHha bHha Wd hWda bWda Lm hLma bLma Pr hPra bPra (xs (nI (5 * j + 1)).toNatClampNeg) X Y SX SY Kc Kp er rb hkn hGP hSU hGC hF10 hF11 hKC hE hPL) fx (cwV 1 hts gL_law_X4_dust rfl rfl rfl (by decide +kernel) ⟨Nat.le_of_ble_eq_true rfl, Nat.le_of_ble_eq_true rfl⟩) hK hP hD hS hA [0, 1, 2, 3, 4, 5, 6, 7, 8, 9, 10, 11, 12, 13, 14, 15, 16, 17, 18, 19, 20, 21, 22, 23, 24, 25, 26, 27, 28, 29, 30] [31, 32, 33, 34, 35, 36, 37, 38, 39, 40, 41, 42, 43, 44, 45, 46, 47, 48, 49, 50, 51, 52] rfl rfl (by decide) (by decide) (by decide) 0 rfl rfl rfl rfl hl.1 rfl (Nat.le_of_ble_eq_true rfl) dL_law_347 ⟨Nat.le_of_ble_eq_true rfl, Nat.le_of_ble_eq_true rfl⟩ (fun r_2 u_3 H locs hw_4 hP hD hS => ?_)
  obtain ⟨h_1, F_1, V_1⟩ := u_3
  obtain ⟨an1, hh1, hI1⟩ := hw_4
  dsimp only at an1 hh1 hI1 hP hD
  have hh : h_1 0 = h 0 := hh1
  have hP : va_P (dC, dI) vwCl (wC cI cZ h_1 F_1 V_1 ++ wM cI cZ cJ g F2 G V2) H := hP.sub [22, 23, 24, 25, 26, 27, 28, 29, 30, 31, 32, 33, 34, 35, 36, 37, 38, 39, 40, 41, 42, 43, 44, 45, 46, 47, 48, 49, 50, 51, 52, 0, 1, 2, 3, 4, 5, 6, 7, 8, 9, 10, 11, 12, 13, 14, 15, 16, 17, 18, 19, 20, 21] rfl
  have hD : va_D (fun q : Nat => s.heap.size ≤ q) (wC cI cZ h_1 F_1 V_1 ++ wM cI cZ cJ g F2 G V2) := hD.sub [22, 23, 24, 25, 26, 27, 28, 29, 30, 31, 32, 33, 34, 35, 36, 37, 38, 39, 40, 41, 42, 43, 44, 45, 46, 47, 48, 49, 50, 51, 52, 0, 1, 2, 3, 4, 5, 6, 7, 8, 9, 10, 11, 12, 13, 14, 15, 16, 17, 18, 19, 20, 21] (by decide) rfl
  refine lv_aload_n hx hb dL_law_350 rfl (lv_at hl 2 rfl) ?_
  refine lv_aload_n hx hb dL_law_351 rfl (lv_at hl 0 rfl) ?_
  refine lv_iload_n hx hb dL_law_352 rfl (lv_at hl 3 rfl) ?_
  refine lv_iconst (v := 1) hx hb dL_law_353 (by decide) ?_
  refine lv_iadd hx hb dL_law_354 ?_
  refine lv_topi (fun x_5 ex_5 => ?_)
  obtain rfl : x_5 = nI (5 * j + 1) := ex_5.trans (nI_add (5 * j) 1)
  refine va_sld hx hb hX hbl hbA hS (vp_in_nI (n := 5 * j + 1) (N := L) (by omega) (by omega)) dL_law_355 ?_
  refine cl_Vi (As := [.int (xs (nI (5 * j + 1)).toNatClampNeg)]) (rest := [.int r_2]) (wr := wC cI cZ h_1 F_1 V_1) (c_X5_dust l dC dI cI cZ cJ g F2 G V2 n vb2 bb2 nw vb3 bb3 un vb4 bb4 d vb6 bb6 wm vb7 bb7 pf vb10 bb10 shb vb11 bb11 So hSob bSob Lm hLmb bLmb Hh hHhb bHhb Wd hWdb bWdb Pr hPrb bPrb X hXb bXb Y hYb bYb (xs (nI (5 * j + 1)).toNatClampNeg) ks amb vb8 bb8 hk8 SX SY Kc Kp er rb hGPb hSXb hSYb hKcb hKpb hEb hRBb) fx (cwV 1 hts gL_law_X5_dust rfl rfl rfl (by decide +kernel) ⟨Nat.le_of_ble_eq_true rfl, Nat.le_of_ble_eq_true rfl⟩) hK hP hD hS hA [31, 32, 33, 34, 35, 36, 37, 38, 39, 40, 41, 42, 43, 44, 45, 46, 47, 48, 49, 50, 51, 52] [0, 1, 2, 3, 4, 5, 6, 7, 8, 9, 10, 11, 12, 13, 14, 15, 16, 17, 18, 19, 20, 21, 22, 23, 24, 25, 26, 27, 28, 29, 30] rfl rfl (by decide) (by decide) (by decide) 0 rfl rfl rfl rfl hl.1 rfl (Nat.le_of_ble_eq_true rfl) dL_law_356 ⟨Nat.le_of_ble_eq_true rfl, Nat.le_of_ble_eq_true rfl⟩ (fun r_6 u_7 H locs hw_8 hP hD hS => ?_)
  obtain ⟨F2_1, G_1, V2_1⟩ := u_7
  obtain ⟨an2, hI2⟩ := hw_8
  dsimp only at an2 hI2 hP hD
  have hI : LI F_1 V_1 F2_1 G_1 V2_1 := ⟨_, _, _, _, _, _, _, _, _, _, _, _, _, _, _, _, _, _, _, _, hI1, hI2⟩
  refine lv_icmp_eq (tgt := 869) hx hb dL_law_359 (by decide) (fun c_9 => ?_) (fun c_9 => ?_)
  · exact nx h_1 F_1 V_1 F2_1 G_1 V2_1 H locs ls hh hI hP hD hS hl
  · exact absurd (Eq.trans an1 (Eq.symm an2)) c_9
set_option maxHeartbeats 4000000 in
set_option maxRecDepth 100000 in
theorem lc_6 {p : Program} {l : Launch} {e : Env} {s : State} {m : MethodId} {below : List Frame} {meth : Method} {c : Code} {b : Nat} {xs : Nat → Int32} {dC : Nat → ClassId} {dI : Nat → Nat → Nat} {cI cZ cJ : ClassId} {g : Nat → Nat} {h0 : Nat} {L j : Nat} (C0 : lw_At p s m meth c b L xs) (hK : va_K (dC, dI) vwCl (tys3 cI cZ cJ) s) (hL : L ≤ 2560) (hj : 5 * j + 5 ≤ L) (nx : lwK p l e s m below meth c b dC dI cI cZ cJ g h0 869 j) : lwK p l e s m below meth c b dC dI cI cZ cJ g h0 364 j := by
  obtain ⟨hx, hb, hr, hml, hown, hts0, hX, hbl, hlocks, hgv⟩ := id C0
  have hbA : ¬ (fun q : Nat => s.heap.size ≤ q) b := Nat.not_le.mpr hbl
  have hts : ∀ w ∈ wsL_law, w.before #[Value.ref b] s = true := fun w h => hts0 w (wsL_law_in w h)
  have fx : CallFix p m c cL_law 4 s #[Value.ref b] wsL_law RL := ⟨hx, hb, hml, hown, hts⟩
  have hA : ∀ q : Nat, s.heap.size ≤ q → (fun q : Nat => s.heap.size ≤ q) q := fun _ h => h
  intro h F V F2 G V2 H locs ls hh hI hP hD hS hl
  subst hh
  obtain ⟨n, d, ks, nw, un, wm, pf, So, Hh, Wd, Lm, Pr, X, Y, SX, SY, Kc, Kp, er, rb, hVC, hVM⟩ := hI
  obtain ⟨⟨va1, ba1⟩, ⟨va2, ba2⟩, ⟨va3, ba3⟩, ⟨va4, ba4⟩, ⟨va5, ba5⟩, ⟨va6, ba6⟩, ⟨va9, ba9⟩, ⟨sha, va11, ba11⟩, ⟨hSoa, bSoa⟩, ⟨hHha, bHha⟩, ⟨hWda, bWda⟩, ⟨hLma, bLma⟩, ⟨hPra, bPra⟩, hkn, hGP, hSU, hGC, hF10, hF11, hKC, hE, hPL⟩ := hVC
  obtain ⟨⟨vb2, bb2⟩, ⟨vb3, bb3⟩, ⟨vb4, bb4⟩, ⟨vb6, bb6⟩, ⟨vb7, bb7⟩, ⟨vb10, bb10⟩, ⟨shb, vb11, bb11⟩, ⟨hSob, bSob⟩, ⟨hLmb, bLmb⟩, ⟨hHhb, bHhb⟩, ⟨hWdb, bWdb⟩, ⟨hPrb, bPrb⟩, ⟨hXb, bXb⟩, ⟨hYb, bYb⟩, ⟨amb, vb8, bb8, hk8⟩, hGPb, hSXb, hSYb, hKcb, hKpb, hEb, hRBb⟩ := hVM
  refine lv_aload_n hx hb dL_law_364 rfl (lv_at hl 1 rfl) ?_
  refine lv_aload_n hx hb dL_law_365 rfl (lv_at hl 0 rfl) ?_
  refine lv_iload_n hx hb dL_law_366 rfl (lv_at hl 3 rfl) ?_
  refine lv_iconst (v := 1) hx hb dL_law_367 (by decide) ?_
  refine lv_iadd hx hb dL_law_368 ?_
  refine lv_topi (fun x_1 ex_1 => ?_)
  obtain rfl : x_1 = nI (5 * j + 1) := ex_1.trans (nI_add (5 * j) 1)
  refine va_sld hx hb hX hbl hbA hS (vp_in_nI (n := 5 * j + 1) (N := L) (by omega) (by omega)) dL_law_369 ?_
  refine lv_aload_n hx hb dL_law_370 rfl (lv_at hl 0 rfl) ?_
  refine lv_iload_n hx hb dL_law_371 rfl (lv_at hl 3 rfl) ?_
  refine lv_iconst (v := 2) hx hb dL_law_372 (by decide) ?_
  refine lv_iadd hx hb dL_law_373 ?_
  refine lv_topi (fun x_2 ex_2 => ?_)
  obtain rfl : x_2 = nI (5 * j + 2) := ex_2.trans (nI_add (5 * j) 2)
  refine va_sld hx hb hX hbl hbA hS (vp_in_nI (n := 5 * j + 2) (N := L) (by omega) (by omega)) dL_law_374 ?_
  refine lv_aload_n hx hb dL_law_375 rfl (lv_at hl 0 rfl) ?_
  refine lv_iload_n hx hb dL_law_376 rfl (lv_at hl 3 rfl) ?_
  refine lv_iconst (v := 3) hx hb dL_law_377 (by decide) ?_
  refine lv_iadd hx hb dL_law_378 ?_
  refine lv_topi (fun x_3 ex_3 => ?_)
  obtain rfl : x_3 = nI (5 * j + 3) := ex_3.trans (nI_add (5 * j) 3)
  refine va_sld hx hb hX hbl hbA hS (vp_in_nI (n := 5 * j + 3) (N := L) (by omega) (by omega)) dL_law_379 ?_
  refine lv_if_eq (tgt := 387) hx hb dL_law_380 (by decide) (fun c_4 => ?_) (fun c_4 => ?_)
  · refine lv_iconst (v := 0) hx hb dL_law_387 (by decide) ?_
    refine cl_Vi (As := [.int (xs (nI (5 * j + 1)).toNatClampNeg), .int (xs (nI (5 * j + 2)).toNatClampNeg), .int 0]) (rest := []) (wr := wM cI cZ cJ g F2 G V2) (c_X4_shaded l dC dI cI cZ cJ h F V n va1 ba1 d va2 ba2 ks va3 ba3 nw va4 ba4 un va5 ba5 wm va6 ba6 pf va9 ba9 sha va11 ba11 So hSoa bSoa Hh hHha bHha Wd hWda bWda Lm hLma bLma Pr hPra bPra (xs (nI (5 * j + 1)).toNatClampNeg) (xs (nI (5 * j + 2)).toNatClampNeg) 0 X Y SX SY Kc Kp er rb hkn hGP hSU hGC hF10 hF11 hKC hE hPL) fx (cwV 3 hts gL_law_X4_shaded rfl rfl rfl (by decide +kernel) ⟨Nat.le_of_ble_eq_true rfl, Nat.le_of_ble_eq_true rfl⟩) hK hP hD hS hA [0, 1, 2, 3, 4, 5, 6, 7, 8, 9, 10, 11, 12, 13, 14, 15, 16, 17, 18, 19, 20, 21, 22, 23, 24, 25, 26, 27, 28, 29, 30] [31, 32, 33, 34, 35, 36, 37, 38, 39, 40, 41, 42, 43, 44, 45, 46, 47, 48, 49, 50, 51, 52] rfl rfl (by decide) (by decide) (by decide) 0 rfl rfl rfl rfl hl.1 rfl (Nat.le_of_ble_eq_true rfl) dL_law_388 ⟨Nat.le_of_ble_eq_true rfl, Nat.le_of_ble_eq_true rfl⟩ (fun r_5 u_6 H locs hw_7 hP hD hS => ?_)
    obtain ⟨h_1, F_1, V_1⟩ := u_6
    obtain ⟨an1, hh1, hI1⟩ := hw_7
    dsimp only at an1 hh1 hI1 hP hD
    have hh : h_1 0 = h 0 := hh1
    have hP : va_P (dC, dI) vwCl (wC cI cZ h_1 F_1 V_1 ++ wM cI cZ cJ g F2 G V2) H := hP.sub [22, 23, 24, 25, 26, 27, 28, 29, 30, 31, 32, 33, 34, 35, 36, 37, 38, 39, 40, 41, 42, 43, 44, 45, 46, 47, 48, 49, 50, 51, 52, 0, 1, 2, 3, 4, 5, 6, 7, 8, 9, 10, 11, 12, 13, 14, 15, 16, 17, 18, 19, 20, 21] rfl
    have hD : va_D (fun q : Nat => s.heap.size ≤ q) (wC cI cZ h_1 F_1 V_1 ++ wM cI cZ cJ g F2 G V2) := hD.sub [22, 23, 24, 25, 26, 27, 28, 29, 30, 31, 32, 33, 34, 35, 36, 37, 38, 39, 40, 41, 42, 43, 44, 45, 46, 47, 48, 49, 50, 51, 52, 0, 1, 2, 3, 4, 5, 6, 7, 8, 9, 10, 11, 12, 13, 14, 15, 16, 17, 18, 19, 20, 21] (by decide) rfl
    refine lv_pop hx hb dL_law_391 rfl ?_
    refine lv_aload_n hx hb dL_law_392 rfl (lv_at hl 2 rfl) ?_
    refine lv_aload_n hx hb dL_law_393 rfl (lv_at hl 0 rfl) ?_
    refine lv_iload_n hx hb dL_law_394 rfl (lv_at hl 3 rfl) ?_
    refine lv_iconst (v := 1) hx hb dL_law_395 (by decide) ?_
    refine lv_iadd hx hb dL_law_396 ?_
    refine lv_topi (fun x_8 ex_8 => ?_)
    obtain rfl : x_8 = nI (5 * j + 1) := ex_8.trans (nI_add (5 * j) 1)
    refine va_sld hx hb hX hbl hbA hS (vp_in_nI (n := 5 * j + 1) (N := L) (by omega) (by omega)) dL_law_397 ?_
    refine lv_aload_n hx hb dL_law_398 rfl (lv_at hl 0 rfl) ?_
    refine lv_iload_n hx hb dL_law_399 rfl (lv_at hl 3 rfl) ?_
    refine lv_iconst (v := 2) hx hb dL_law_400 (by decide) ?_
    refine lv_iadd hx hb dL_law_401 ?_
    refine lv_topi (fun x_9 ex_9 => ?_)
    obtain rfl : x_9 = nI (5 * j + 2) := ex_9.trans (nI_add (5 * j) 2)
    refine va_sld hx hb hX hbl hbA hS (vp_in_nI (n := 5 * j + 2) (N := L) (by omega) (by omega)) dL_law_402 ?_
    refine lv_aload_n hx hb dL_law_403 rfl (lv_at hl 0 rfl) ?_
    refine lv_iload_n hx hb dL_law_404 rfl (lv_at hl 3 rfl) ?_
    refine lv_iconst (v := 3) hx hb dL_law_405 (by decide) ?_
    refine lv_iadd hx hb dL_law_406 ?_
    refine lv_topi (fun x_10 ex_10 => ?_)
    obtain rfl : x_10 = nI (5 * j + 3) := ex_10.trans (nI_add (5 * j) 3)
    refine va_sld hx hb hX hbl hbA hS (vp_in_nI (n := 5 * j + 3) (N := L) (by omega) (by omega)) dL_law_407 ?_
    refine lv_if_eq (tgt := 415) hx hb dL_law_408 (by decide) (fun c_11 => ?_) (fun c_11 => ?_)
    · refine lv_iconst (v := 0) hx hb dL_law_415 (by decide) ?_
      refine cl_Vi (As := [.int (xs (nI (5 * j + 1)).toNatClampNeg), .int (xs (nI (5 * j + 2)).toNatClampNeg), .int 0]) (rest := []) (wr := wC cI cZ h_1 F_1 V_1) (c_X5_shaded l dC dI cI cZ cJ g F2 G V2 n vb2 bb2 nw vb3 bb3 un vb4 bb4 d vb6 bb6 wm vb7 bb7 pf vb10 bb10 shb vb11 bb11 So hSob bSob Lm hLmb bLmb Hh hHhb bHhb Wd hWdb bWdb Pr hPrb bPrb X hXb bXb Y hYb bYb (xs (nI (5 * j + 1)).toNatClampNeg) (xs (nI (5 * j + 2)).toNatClampNeg) 0 ks amb vb8 bb8 hk8 SX SY Kc Kp er rb hGPb hSXb hSYb hKcb hKpb hEb hRBb) fx (cwV 3 hts gL_law_X5_shaded rfl rfl rfl (by decide +kernel) ⟨Nat.le_of_ble_eq_true rfl, Nat.le_of_ble_eq_true rfl⟩) hK hP hD hS hA [31, 32, 33, 34, 35, 36, 37, 38, 39, 40, 41, 42, 43, 44, 45, 46, 47, 48, 49, 50, 51, 52] [0, 1, 2, 3, 4, 5, 6, 7, 8, 9, 10, 11, 12, 13, 14, 15, 16, 17, 18, 19, 20, 21, 22, 23, 24, 25, 26, 27, 28, 29, 30] rfl rfl (by decide) (by decide) (by decide) 0 rfl rfl rfl rfl hl.1 rfl (Nat.le_of_ble_eq_true rfl) dL_law_416 ⟨Nat.le_of_ble_eq_true rfl, Nat.le_of_ble_eq_true rfl⟩ (fun r_12 u_13 H locs hw_14 hP hD hS => ?_)
      obtain ⟨F2_1, G_1, V2_1⟩ := u_13
      obtain ⟨an2, hI2⟩ := hw_14
      dsimp only at an2 hI2 hP hD
      have hI : LI F_1 V_1 F2_1 G_1 V2_1 := ⟨_, _, _, _, _, _, _, _, _, _, _, _, _, _, _, _, _, _, _, _, hI1, hI2⟩
      refine lv_pop hx hb dL_law_419 rfl ?_
      refine lv_goto (tgt := 869) hx hb dL_law_420 (by decide) ?_
      exact nx h_1 F_1 V_1 F2_1 G_1 V2_1 H locs ls hh hI hP hD hS hl
    · exact absurd c_4 c_11
  · refine lv_iconst (v := 1) hx hb dL_law_383 (by decide) ?_
    refine lv_goto (tgt := 388) hx hb dL_law_384 (by decide) ?_
    refine cl_Vi (As := [.int (xs (nI (5 * j + 1)).toNatClampNeg), .int (xs (nI (5 * j + 2)).toNatClampNeg), .int 1]) (rest := []) (wr := wM cI cZ cJ g F2 G V2) (c_X4_shaded l dC dI cI cZ cJ h F V n va1 ba1 d va2 ba2 ks va3 ba3 nw va4 ba4 un va5 ba5 wm va6 ba6 pf va9 ba9 sha va11 ba11 So hSoa bSoa Hh hHha bHha Wd hWda bWda Lm hLma bLma Pr hPra bPra (xs (nI (5 * j + 1)).toNatClampNeg) (xs (nI (5 * j + 2)).toNatClampNeg) 1 X Y SX SY Kc Kp er rb hkn hGP hSU hGC hF10 hF11 hKC hE hPL) fx (cwV 3 hts gL_law_X4_shaded rfl rfl rfl (by decide +kernel) ⟨Nat.le_of_ble_eq_true rfl, Nat.le_of_ble_eq_true rfl⟩) hK hP hD hS hA [0, 1, 2, 3, 4, 5, 6, 7, 8, 9, 10, 11, 12, 13, 14, 15, 16, 17, 18, 19, 20, 21, 22, 23, 24, 25, 26, 27, 28, 29, 30] [31, 32, 33, 34, 35, 36, 37, 38, 39, 40, 41, 42, 43, 44, 45, 46, 47, 48, 49, 50, 51, 52] rfl rfl (by decide) (by decide) (by decide) 0 rfl rfl rfl rfl hl.1 rfl (Nat.le_of_ble_eq_true rfl) dL_law_388 ⟨Nat.le_of_ble_eq_true rfl, Nat.le_of_ble_eq_true rfl⟩ (fun r_15 u_16 H locs hw_17 hP hD hS => ?_)
    obtain ⟨h_1, F_1, V_1⟩ := u_16
    obtain ⟨an1, hh1, hI1⟩ := hw_17
    dsimp only at an1 hh1 hI1 hP hD
    have hh : h_1 0 = h 0 := hh1
    have hP : va_P (dC, dI) vwCl (wC cI cZ h_1 F_1 V_1 ++ wM cI cZ cJ g F2 G V2) H := hP.sub [22, 23, 24, 25, 26, 27, 28, 29, 30, 31, 32, 33, 34, 35, 36, 37, 38, 39, 40, 41, 42, 43, 44, 45, 46, 47, 48, 49, 50, 51, 52, 0, 1, 2, 3, 4, 5, 6, 7, 8, 9, 10, 11, 12, 13, 14, 15, 16, 17, 18, 19, 20, 21] rfl
    have hD : va_D (fun q : Nat => s.heap.size ≤ q) (wC cI cZ h_1 F_1 V_1 ++ wM cI cZ cJ g F2 G V2) := hD.sub [22, 23, 24, 25, 26, 27, 28, 29, 30, 31, 32, 33, 34, 35, 36, 37, 38, 39, 40, 41, 42, 43, 44, 45, 46, 47, 48, 49, 50, 51, 52, 0, 1, 2, 3, 4, 5, 6, 7, 8, 9, 10, 11, 12, 13, 14, 15, 16, 17, 18, 19, 20, 21] (by decide) rfl
    refine lv_pop hx hb dL_law_391 rfl ?_
    refine lv_aload_n hx hb dL_law_392 rfl (lv_at hl 2 rfl) ?_
    refine lv_aload_n hx hb dL_law_393 rfl (lv_at hl 0 rfl) ?_
    refine lv_iload_n hx hb dL_law_394 rfl (lv_at hl 3 rfl) ?_
    refine lv_iconst (v := 1) hx hb dL_law_395 (by decide) ?_
    refine lv_iadd hx hb dL_law_396 ?_
    refine lv_topi (fun x_18 ex_18 => ?_)
    obtain rfl : x_18 = nI (5 * j + 1) := ex_18.trans (nI_add (5 * j) 1)
    refine va_sld hx hb hX hbl hbA hS (vp_in_nI (n := 5 * j + 1) (N := L) (by omega) (by omega)) dL_law_397 ?_
    refine lv_aload_n hx hb dL_law_398 rfl (lv_at hl 0 rfl) ?_
    refine lv_iload_n hx hb dL_law_399 rfl (lv_at hl 3 rfl) ?_
    refine lv_iconst (v := 2) hx hb dL_law_400 (by decide) ?_
    refine lv_iadd hx hb dL_law_401 ?_
    refine lv_topi (fun x_19 ex_19 => ?_)
    obtain rfl : x_19 = nI (5 * j + 2) := ex_19.trans (nI_add (5 * j) 2)
    refine va_sld hx hb hX hbl hbA hS (vp_in_nI (n := 5 * j + 2) (N := L) (by omega) (by omega)) dL_law_402 ?_
    refine lv_aload_n hx hb dL_law_403 rfl (lv_at hl 0 rfl) ?_
    refine lv_iload_n hx hb dL_law_404 rfl (lv_at hl 3 rfl) ?_
    refine lv_iconst (v := 3) hx hb dL_law_405 (by decide) ?_
    refine lv_iadd hx hb dL_law_406 ?_
    refine lv_topi (fun x_20 ex_20 => ?_)
    obtain rfl : x_20 = nI (5 * j + 3) := ex_20.trans (nI_add (5 * j) 3)
    refine va_sld hx hb hX hbl hbA hS (vp_in_nI (n := 5 * j + 3) (N := L) (by omega) (by omega)) dL_law_407 ?_
    refine lv_if_eq (tgt := 415) hx hb dL_law_408 (by decide) (fun c_21 => ?_) (fun c_21 => ?_)
    · exact absurd c_21 c_4
    · refine lv_iconst (v := 1) hx hb dL_law_411 (by decide) ?_
      refine lv_goto (tgt := 416) hx hb dL_law_412 (by decide) ?_
      refine cl_Vi (As := [.int (xs (nI (5 * j + 1)).toNatClampNeg), .int (xs (nI (5 * j + 2)).toNatClampNeg), .int 1]) (rest := []) (wr := wC cI cZ h_1 F_1 V_1) (c_X5_shaded l dC dI cI cZ cJ g F2 G V2 n vb2 bb2 nw vb3 bb3 un vb4 bb4 d vb6 bb6 wm vb7 bb7 pf vb10 bb10 shb vb11 bb11 So hSob bSob Lm hLmb bLmb Hh hHhb bHhb Wd hWdb bWdb Pr hPrb bPrb X hXb bXb Y hYb bYb (xs (nI (5 * j + 1)).toNatClampNeg) (xs (nI (5 * j + 2)).toNatClampNeg) 1 ks amb vb8 bb8 hk8 SX SY Kc Kp er rb hGPb hSXb hSYb hKcb hKpb hEb hRBb) fx (cwV 3 hts gL_law_X5_shaded rfl rfl rfl (by decide +kernel) ⟨Nat.le_of_ble_eq_true rfl, Nat.le_of_ble_eq_true rfl⟩) hK hP hD hS hA [31, 32, 33, 34, 35, 36, 37, 38, 39, 40, 41, 42, 43, 44, 45, 46, 47, 48, 49, 50, 51, 52] [0, 1, 2, 3, 4, 5, 6, 7, 8, 9, 10, 11, 12, 13, 14, 15, 16, 17, 18, 19, 20, 21, 22, 23, 24, 25, 26, 27, 28, 29, 30] rfl rfl (by decide) (by decide) (by decide) 0 rfl rfl rfl rfl hl.1 rfl (Nat.le_of_ble_eq_true rfl) dL_law_416 ⟨Nat.le_of_ble_eq_true rfl, Nat.le_of_ble_eq_true rfl⟩ (fun r_22 u_23 H locs hw_24 hP hD hS => ?_)
      obtain ⟨F2_1, G_1, V2_1⟩ := u_23
      obtain ⟨an2, hI2⟩ := hw_24
      dsimp only at an2 hI2 hP hD
      have hI : LI F_1 V_1 F2_1 G_1 V2_1 := ⟨_, _, _, _, _, _, _, _, _, _, _, _, _, _, _, _, _, _, _, _, hI1, hI2⟩
      refine lv_pop hx hb dL_law_419 rfl ?_
      refine lv_goto (tgt := 869) hx hb dL_law_420 (by decide) ?_
      exact nx h_1 F_1 V_1 F2_1 G_1 V2_1 H locs ls hh hI hP hD hS hl
set_option maxHeartbeats 4000000 in
set_option maxRecDepth 100000 in
theorem lc_7 {p : Program} {l : Launch} {e : Env} {s : State} {m : MethodId} {below : List Frame} {meth : Method} {c : Code} {b : Nat} {xs : Nat → Int32} {dC : Nat → ClassId} {dI : Nat → Nat → Nat} {cI cZ cJ : ClassId} {g : Nat → Nat} {h0 : Nat} {L j : Nat} (C0 : lw_At p s m meth c b L xs) (hK : va_K (dC, dI) vwCl (tys3 cI cZ cJ) s) (hL : L ≤ 2560) (hj : 5 * j + 5 ≤ L) (nx : lwK p l e s m below meth c b dC dI cI cZ cJ g h0 869 j) : lwK p l e s m below meth c b dC dI cI cZ cJ g h0 423 j := by
  obtain ⟨hx, hb, hr, hml, hown, hts0, hX, hbl, hlocks, hgv⟩ := id C0
  have hbA : ¬ (fun q : Nat => s.heap.size ≤ q) b := Nat.not_le.mpr hbl
  have hts : ∀ w ∈ wsL_law, w.before #[Value.ref b] s = true := fun w h => hts0 w (wsL_law_in w h)
  have fx : CallFix p m c cL_law 4 s #[Value.ref b] wsL_law RL := ⟨hx, hb, hml, hown, hts⟩
  have hA : ∀ q : Nat, s.heap.size ≤ q → (fun q : Nat => s.heap.size ≤ q) q := fun _ h => h
  intro h F V F2 G V2 H locs ls hh hI hP hD hS hl
  subst hh
  obtain ⟨n, d, ks, nw, un, wm, pf, So, Hh, Wd, Lm, Pr, X, Y, SX, SY, Kc, Kp, er, rb, hVC, hVM⟩ := hI
  obtain ⟨⟨va1, ba1⟩, ⟨va2, ba2⟩, ⟨va3, ba3⟩, ⟨va4, ba4⟩, ⟨va5, ba5⟩, ⟨va6, ba6⟩, ⟨va9, ba9⟩, ⟨sha, va11, ba11⟩, ⟨hSoa, bSoa⟩, ⟨hHha, bHha⟩, ⟨hWda, bWda⟩, ⟨hLma, bLma⟩, ⟨hPra, bPra⟩, hkn, hGP, hSU, hGC, hF10, hF11, hKC, hE, hPL⟩ := hVC
  obtain ⟨⟨vb2, bb2⟩, ⟨vb3, bb3⟩, ⟨vb4, bb4⟩, ⟨vb6, bb6⟩, ⟨vb7, bb7⟩, ⟨vb10, bb10⟩, ⟨shb, vb11, bb11⟩, ⟨hSob, bSob⟩, ⟨hLmb, bLmb⟩, ⟨hHhb, bHhb⟩, ⟨hWdb, bWdb⟩, ⟨hPrb, bPrb⟩, ⟨hXb, bXb⟩, ⟨hYb, bYb⟩, ⟨amb, vb8, bb8, hk8⟩, hGPb, hSXb, hSYb, hKcb, hKpb, hEb, hRBb⟩ := hVM
  refine lv_aload_n hx hb dL_law_423 rfl (lv_at hl 1 rfl) ?_
  refine lv_aload_n hx hb dL_law_424 rfl (lv_at hl 0 rfl) ?_
  refine lv_iload_n hx hb dL_law_425 rfl (lv_at hl 3 rfl) ?_
  refine lv_iconst (v := 1) hx hb dL_law_426 (by decide) ?_
  refine lv_iadd hx hb dL_law_427 ?_
  refine lv_topi (fun x_1 ex_1 => ?_)
  obtain rfl : x_1 = nI (5 * j + 1) := ex_1.trans (nI_add (5 * j) 1)
  refine va_sld hx hb hX hbl hbA hS (vp_in_nI (n := 5 * j + 1) (N := L) (by omega) (by omega)) dL_law_428 ?_
  refine lv_aload_n hx hb dL_law_429 rfl (lv_at hl 0 rfl) ?_
  refine lv_iload_n hx hb dL_law_430 rfl (lv_at hl 3 rfl) ?_
  refine lv_iconst (v := 2) hx hb dL_law_431 (by decide) ?_
  refine lv_iadd hx hb dL_law_432 ?_
  refine lv_topi (fun x_2 ex_2 => ?_)
  obtain rfl : x_2 = nI (5 * j + 2) := ex_2.trans (nI_add (5 * j) 2)
  refine va_sld hx hb hX hbl hbA hS (vp_in_nI (n := 5 * j + 2) (N := L) (by omega) (by omega)) dL_law_433 ?_
  refine cl_Vi (As := [.int (xs (nI (5 * j + 1)).toNatClampNeg), .int (xs (nI (5 * j + 2)).toNatClampNeg)]) (rest := []) (wr := wM cI cZ cJ g F2 G V2) (c_X4_power l dC dI cI cZ cJ h F V n va1 ba1 d va2 ba2 ks va3 ba3 nw va4 ba4 un va5 ba5 wm va6 ba6 pf va9 ba9 sha va11 ba11 So hSoa bSoa Hh hHha bHha Wd hWda bWda Lm hLma bLma Pr hPra bPra (xs (nI (5 * j + 1)).toNatClampNeg) (xs (nI (5 * j + 2)).toNatClampNeg) X Y SX SY Kc Kp er rb hkn hGP hSU hGC hF10 hF11 hKC hE hPL) fx (cwV 2 hts gL_law_X4_power rfl rfl rfl (by decide +kernel) ⟨Nat.le_of_ble_eq_true rfl, Nat.le_of_ble_eq_true rfl⟩) hK hP hD hS hA [0, 1, 2, 3, 4, 5, 6, 7, 8, 9, 10, 11, 12, 13, 14, 15, 16, 17, 18, 19, 20, 21, 22, 23, 24, 25, 26, 27, 28, 29, 30] [31, 32, 33, 34, 35, 36, 37, 38, 39, 40, 41, 42, 43, 44, 45, 46, 47, 48, 49, 50, 51, 52] rfl rfl (by decide) (by decide) (by decide) 0 rfl rfl rfl rfl hl.1 rfl (Nat.le_of_ble_eq_true rfl) dL_law_434 ⟨Nat.le_of_ble_eq_true rfl, Nat.le_of_ble_eq_true rfl⟩ (fun r_3 u_4 H locs hw_5 hP hD hS => ?_)
  obtain ⟨h_1, F_1, V_1⟩ := u_4
  obtain ⟨an1, hh1, hI1⟩ := hw_5
  dsimp only at an1 hh1 hI1 hP hD
  have hh : h_1 0 = h 0 := hh1
  have hP : va_P (dC, dI) vwCl (wC cI cZ h_1 F_1 V_1 ++ wM cI cZ cJ g F2 G V2) H := hP.sub [22, 23, 24, 25, 26, 27, 28, 29, 30, 31, 32, 33, 34, 35, 36, 37, 38, 39, 40, 41, 42, 43, 44, 45, 46, 47, 48, 49, 50, 51, 52, 0, 1, 2, 3, 4, 5, 6, 7, 8, 9, 10, 11, 12, 13, 14, 15, 16, 17, 18, 19, 20, 21] rfl
  have hD : va_D (fun q : Nat => s.heap.size ≤ q) (wC cI cZ h_1 F_1 V_1 ++ wM cI cZ cJ g F2 G V2) := hD.sub [22, 23, 24, 25, 26, 27, 28, 29, 30, 31, 32, 33, 34, 35, 36, 37, 38, 39, 40, 41, 42, 43, 44, 45, 46, 47, 48, 49, 50, 51, 52, 0, 1, 2, 3, 4, 5, 6, 7, 8, 9, 10, 11, 12, 13, 14, 15, 16, 17, 18, 19, 20, 21] (by decide) rfl
  refine lv_pop hx hb dL_law_437 rfl ?_
  refine lv_aload_n hx hb dL_law_438 rfl (lv_at hl 2 rfl) ?_
  refine lv_aload_n hx hb dL_law_439 rfl (lv_at hl 0 rfl) ?_
  refine lv_iload_n hx hb dL_law_440 rfl (lv_at hl 3 rfl) ?_
  refine lv_iconst (v := 1) hx hb dL_law_441 (by decide) ?_
  refine lv_iadd hx hb dL_law_442 ?_
  refine lv_topi (fun x_6 ex_6 => ?_)
  obtain rfl : x_6 = nI (5 * j + 1) := ex_6.trans (nI_add (5 * j) 1)
  refine va_sld hx hb hX hbl hbA hS (vp_in_nI (n := 5 * j + 1) (N := L) (by omega) (by omega)) dL_law_443 ?_
  refine lv_aload_n hx hb dL_law_444 rfl (lv_at hl 0 rfl) ?_
  refine lv_iload_n hx hb dL_law_445 rfl (lv_at hl 3 rfl) ?_
  refine lv_iconst (v := 2) hx hb dL_law_446 (by decide) ?_
  refine lv_iadd hx hb dL_law_447 ?_
  refine lv_topi (fun x_7 ex_7 => ?_)
  obtain rfl : x_7 = nI (5 * j + 2) := ex_7.trans (nI_add (5 * j) 2)
  refine va_sld hx hb hX hbl hbA hS (vp_in_nI (n := 5 * j + 2) (N := L) (by omega) (by omega)) dL_law_448 ?_
  refine cl_Vi (As := [.int (xs (nI (5 * j + 1)).toNatClampNeg), .int (xs (nI (5 * j + 2)).toNatClampNeg)]) (rest := []) (wr := wC cI cZ h_1 F_1 V_1) (c_X5_power l dC dI cI cZ cJ g F2 G V2 n vb2 bb2 nw vb3 bb3 un vb4 bb4 d vb6 bb6 wm vb7 bb7 pf vb10 bb10 shb vb11 bb11 So hSob bSob Lm hLmb bLmb Hh hHhb bHhb Wd hWdb bWdb Pr hPrb bPrb X hXb bXb Y hYb bYb (xs (nI (5 * j + 1)).toNatClampNeg) (xs (nI (5 * j + 2)).toNatClampNeg) ks amb vb8 bb8 hk8 SX SY Kc Kp er rb hGPb hSXb hSYb hKcb hKpb hEb hRBb) fx (cwV 2 hts gL_law_X5_power rfl rfl rfl (by decide +kernel) ⟨Nat.le_of_ble_eq_true rfl, Nat.le_of_ble_eq_true rfl⟩) hK hP hD hS hA [31, 32, 33, 34, 35, 36, 37, 38, 39, 40, 41, 42, 43, 44, 45, 46, 47, 48, 49, 50, 51, 52] [0, 1, 2, 3, 4, 5, 6, 7, 8, 9, 10, 11, 12, 13, 14, 15, 16, 17, 18, 19, 20, 21, 22, 23, 24, 25, 26, 27, 28, 29, 30] rfl rfl (by decide) (by decide) (by decide) 0 rfl rfl rfl rfl hl.1 rfl (Nat.le_of_ble_eq_true rfl) dL_law_449 ⟨Nat.le_of_ble_eq_true rfl, Nat.le_of_ble_eq_true rfl⟩ (fun r_8 u_9 H locs hw_10 hP hD hS => ?_)
  obtain ⟨F2_1, G_1, V2_1⟩ := u_9
  obtain ⟨an2, hI2⟩ := hw_10
  dsimp only at an2 hI2 hP hD
  have hI : LI F_1 V_1 F2_1 G_1 V2_1 := ⟨_, _, _, _, _, _, _, _, _, _, _, _, _, _, _, _, _, _, _, _, hI1, hI2⟩
  refine lv_pop hx hb dL_law_452 rfl ?_
  refine lv_goto (tgt := 869) hx hb dL_law_453 (by decide) ?_
  exact nx h_1 F_1 V_1 F2_1 G_1 V2_1 H locs ls hh hI hP hD hS hl
set_option maxHeartbeats 4000000 in
set_option maxRecDepth 100000 in
theorem lc_8 {p : Program} {l : Launch} {e : Env} {s : State} {m : MethodId} {below : List Frame} {meth : Method} {c : Code} {b : Nat} {xs : Nat → Int32} {dC : Nat → ClassId} {dI : Nat → Nat → Nat} {cI cZ cJ : ClassId} {g : Nat → Nat} {h0 : Nat} {L j : Nat} (C0 : lw_At p s m meth c b L xs) (hK : va_K (dC, dI) vwCl (tys3 cI cZ cJ) s) (hL : L ≤ 2560) (hj : 5 * j + 5 ≤ L) (nx : lwK p l e s m below meth c b dC dI cI cZ cJ g h0 869 j) : lwK p l e s m below meth c b dC dI cI cZ cJ g h0 456 j := by
  obtain ⟨hx, hb, hr, hml, hown, hts0, hX, hbl, hlocks, hgv⟩ := id C0
  have hbA : ¬ (fun q : Nat => s.heap.size ≤ q) b := Nat.not_le.mpr hbl
  have hts : ∀ w ∈ wsL_law, w.before #[Value.ref b] s = true := fun w h => hts0 w (wsL_law_in w h)
  have fx : CallFix p m c cL_law 4 s #[Value.ref b] wsL_law RL := ⟨hx, hb, hml, hown, hts⟩
  have hA : ∀ q : Nat, s.heap.size ≤ q → (fun q : Nat => s.heap.size ≤ q) q := fun _ h => h
  intro h F V F2 G V2 H locs ls hh hI hP hD hS hl
  subst hh
  obtain ⟨n, d, ks, nw, un, wm, pf, So, Hh, Wd, Lm, Pr, X, Y, SX, SY, Kc, Kp, er, rb, hVC, hVM⟩ := hI
  obtain ⟨⟨va1, ba1⟩, ⟨va2, ba2⟩, ⟨va3, ba3⟩, ⟨va4, ba4⟩, ⟨va5, ba5⟩, ⟨va6, ba6⟩, ⟨va9, ba9⟩, ⟨sha, va11, ba11⟩, ⟨hSoa, bSoa⟩, ⟨hHha, bHha⟩, ⟨hWda, bWda⟩, ⟨hLma, bLma⟩, ⟨hPra, bPra⟩, hkn, hGP, hSU, hGC, hF10, hF11, hKC, hE, hPL⟩ := hVC
  obtain ⟨⟨vb2, bb2⟩, ⟨vb3, bb3⟩, ⟨vb4, bb4⟩, ⟨vb6, bb6⟩, ⟨vb7, bb7⟩, ⟨vb10, bb10⟩, ⟨shb, vb11, bb11⟩, ⟨hSob, bSob⟩, ⟨hLmb, bLmb⟩, ⟨hHhb, bHhb⟩, ⟨hWdb, bWdb⟩, ⟨hPrb, bPrb⟩, ⟨hXb, bXb⟩, ⟨hYb, bYb⟩, ⟨amb, vb8, bb8, hk8⟩, hGPb, hSXb, hSYb, hKcb, hKpb, hEb, hRBb⟩ := hVM
  refine lv_aload_n hx hb dL_law_456 rfl (lv_at hl 1 rfl) ?_
  refine lv_aload_n hx hb dL_law_457 rfl (lv_at hl 0 rfl) ?_
  refine lv_iload_n hx hb dL_law_458 rfl (lv_at hl 3 rfl) ?_
  refine lv_iconst (v := 1) hx hb dL_law_459 (by decide) ?_
  refine lv_iadd hx hb dL_law_460 ?_
  refine lv_topi (fun x_1 ex_1 => ?_)
  obtain rfl : x_1 = nI (5 * j + 1) := ex_1.trans (nI_add (5 * j) 1)
  refine va_sld hx hb hX hbl hbA hS (vp_in_nI (n := 5 * j + 1) (N := L) (by omega) (by omega)) dL_law_461 ?_
  refine cl_Vi (As := [.int (xs (nI (5 * j + 1)).toNatClampNeg)]) (rest := []) (wr := wM cI cZ cJ g F2 G V2) (c_X4_stowed l dC dI cI cZ cJ h F V n va1 ba1 d va2 ba2 ks va3 ba3 nw va4 ba4 un va5 ba5 wm va6 ba6 pf va9 ba9 sha va11 ba11 So hSoa bSoa Hh hHha bHha Wd hWda bWda Lm hLma bLma Pr hPra bPra (xs (nI (5 * j + 1)).toNatClampNeg) X Y SX SY Kc Kp er rb hkn hGP hSU hGC hF10 hF11 hKC hE hPL) fx (cwV 1 hts gL_law_X4_stowed rfl rfl rfl (by decide +kernel) ⟨Nat.le_of_ble_eq_true rfl, Nat.le_of_ble_eq_true rfl⟩) hK hP hD hS hA [0, 1, 2, 3, 4, 5, 6, 7, 8, 9, 10, 11, 12, 13, 14, 15, 16, 17, 18, 19, 20, 21, 22, 23, 24, 25, 26, 27, 28, 29, 30] [31, 32, 33, 34, 35, 36, 37, 38, 39, 40, 41, 42, 43, 44, 45, 46, 47, 48, 49, 50, 51, 52] rfl rfl (by decide) (by decide) (by decide) 0 rfl rfl rfl rfl hl.1 rfl (Nat.le_of_ble_eq_true rfl) dL_law_462 ⟨Nat.le_of_ble_eq_true rfl, Nat.le_of_ble_eq_true rfl⟩ (fun r_2 u_3 H locs hw_4 hP hD hS => ?_)
  obtain ⟨h_1, F_1, V_1⟩ := u_3
  obtain ⟨an1, hh1, hI1⟩ := hw_4
  dsimp only at an1 hh1 hI1 hP hD
  have hh : h_1 0 = h 0 := hh1
  have hP : va_P (dC, dI) vwCl (wC cI cZ h_1 F_1 V_1 ++ wM cI cZ cJ g F2 G V2) H := hP.sub [22, 23, 24, 25, 26, 27, 28, 29, 30, 31, 32, 33, 34, 35, 36, 37, 38, 39, 40, 41, 42, 43, 44, 45, 46, 47, 48, 49, 50, 51, 52, 0, 1, 2, 3, 4, 5, 6, 7, 8, 9, 10, 11, 12, 13, 14, 15, 16, 17, 18, 19, 20, 21] rfl
  have hD : va_D (fun q : Nat => s.heap.size ≤ q) (wC cI cZ h_1 F_1 V_1 ++ wM cI cZ cJ g F2 G V2) := hD.sub [22, 23, 24, 25, 26, 27, 28, 29, 30, 31, 32, 33, 34, 35, 36, 37, 38, 39, 40, 41, 42, 43, 44, 45, 46, 47, 48, 49, 50, 51, 52, 0, 1, 2, 3, 4, 5, 6, 7, 8, 9, 10, 11, 12, 13, 14, 15, 16, 17, 18, 19, 20, 21] (by decide) rfl
  refine lv_pop hx hb dL_law_465 rfl ?_
  refine lv_aload_n hx hb dL_law_466 rfl (lv_at hl 2 rfl) ?_
  refine lv_aload_n hx hb dL_law_467 rfl (lv_at hl 0 rfl) ?_
  refine lv_iload_n hx hb dL_law_468 rfl (lv_at hl 3 rfl) ?_
  refine lv_iconst (v := 1) hx hb dL_law_469 (by decide) ?_
  refine lv_iadd hx hb dL_law_470 ?_
  refine lv_topi (fun x_5 ex_5 => ?_)
  obtain rfl : x_5 = nI (5 * j + 1) := ex_5.trans (nI_add (5 * j) 1)
  refine va_sld hx hb hX hbl hbA hS (vp_in_nI (n := 5 * j + 1) (N := L) (by omega) (by omega)) dL_law_471 ?_
  refine cl_Vi (As := [.int (xs (nI (5 * j + 1)).toNatClampNeg)]) (rest := []) (wr := wC cI cZ h_1 F_1 V_1) (c_X5_stowed l dC dI cI cZ cJ g F2 G V2 n vb2 bb2 nw vb3 bb3 un vb4 bb4 d vb6 bb6 wm vb7 bb7 pf vb10 bb10 shb vb11 bb11 So hSob bSob Lm hLmb bLmb Hh hHhb bHhb Wd hWdb bWdb Pr hPrb bPrb X hXb bXb Y hYb bYb (xs (nI (5 * j + 1)).toNatClampNeg) ks amb vb8 bb8 hk8 SX SY Kc Kp er rb hGPb hSXb hSYb hKcb hKpb hEb hRBb) fx (cwV 1 hts gL_law_X5_stowed rfl rfl rfl (by decide +kernel) ⟨Nat.le_of_ble_eq_true rfl, Nat.le_of_ble_eq_true rfl⟩) hK hP hD hS hA [31, 32, 33, 34, 35, 36, 37, 38, 39, 40, 41, 42, 43, 44, 45, 46, 47, 48, 49, 50, 51, 52] [0, 1, 2, 3, 4, 5, 6, 7, 8, 9, 10, 11, 12, 13, 14, 15, 16, 17, 18, 19, 20, 21, 22, 23, 24, 25, 26, 27, 28, 29, 30] rfl rfl (by decide) (by decide) (by decide) 0 rfl rfl rfl rfl hl.1 rfl (Nat.le_of_ble_eq_true rfl) dL_law_472 ⟨Nat.le_of_ble_eq_true rfl, Nat.le_of_ble_eq_true rfl⟩ (fun r_6 u_7 H locs hw_8 hP hD hS => ?_)
  obtain ⟨F2_1, G_1, V2_1⟩ := u_7
  obtain ⟨an2, hI2⟩ := hw_8
  dsimp only at an2 hI2 hP hD
  have hI : LI F_1 V_1 F2_1 G_1 V2_1 := ⟨_, _, _, _, _, _, _, _, _, _, _, _, _, _, _, _, _, _, _, _, hI1, hI2⟩
  refine lv_pop hx hb dL_law_475 rfl ?_
  refine lv_goto (tgt := 869) hx hb dL_law_476 (by decide) ?_
  exact nx h_1 F_1 V_1 F2_1 G_1 V2_1 H locs ls hh hI hP hD hS hl
