theorem law_len {L j : Nat} (hL : L ≤ 2560) (hj : 5 * j ≤ 2565) (h : ¬ Int32.ofNat L - 5 < nI (5 * j)) : 5 * j + 5 ≤ L := by
  have h1 : (nI L - nI 5).toInt = (L : Int) - (5 : Nat) := pk_sub_toInt (a := L) (b := 5) (by omega) (by decide)
  have h2 : ¬ (nI L - nI 5) < nI (5 * j) := h
  rw [Int32.lt_iff_toInt_lt, h1, nI_toInt (n := 5 * j) (by omega)] at h2
  omega
set_option maxHeartbeats 4000000 in
set_option maxRecDepth 100000 in
theorem law_head {p : Program} {l : Launch} {e : Env} {s : State} {m : MethodId} {below : List Frame} {meth : Method} {c : Code} {b : Nat} {xs : Nat → Int32} {dC : Nat → ClassId} {dI : Nat → Nat → Nat} {cI cZ cJ : ClassId} {g : Nat → Nat} {h0 : Nat} {L j : Nat} (C0 : lw_At p s m meth c b L xs) (hK : va_K (dC, dI) vwCl (tys3 cI cZ cJ) s) (hL : L ≤ 2560) (hj0 : 5 * j ≤ 2565) (nx : 5 * j + 5 ≤ L → lwK p l e s m below meth c b dC dI cI cZ cJ g h0 869 j) : lwK p l e s m below meth c b dC dI cI cZ cJ g h0 18 j := by
  obtain ⟨hx, hb, hr, hml, hown, hts0, hX, hbl, hlocks, hgv⟩ := id C0
  have hbA : ¬ (fun q : Nat => s.heap.size ≤ q) b := Nat.not_le.mpr hbl
  intro h F V F2 G V2 H locs ls hh hI hP hD hS hl
  refine lv_iload_n hx hb dL_law_18 rfl (lv_at hl 3 rfl) ?_
  refine lv_aload_n hx hb dL_law_19 rfl (lv_at hl 0 rfl) ?_
  refine va_slen hx hb hX hbl hbA hS dL_law_20 ?_
  refine lv_iconst (v := 5) hx hb dL_law_21 (by decide) ?_
  refine lv_isub hx hb dL_law_22 ?_
  refine lv_icmp_gt (tgt := 875) hx hb dL_law_23 (by decide) (fun c1 => ?_) (fun c1 => ?_)
  · exact law_exit C0 (Nat.le_of_ble_eq_true rfl) (Nat.le_of_ble_eq_true rfl) hS
  · have hj : 5 * j + 5 ≤ L := law_len hL hj0 c1
    have nx := nx hj
    refine lv_aload_n hx hb dL_law_26 rfl (lv_at hl 0 rfl) ?_
    refine lv_iload_n hx hb dL_law_27 rfl (lv_at hl 3 rfl) ?_
    refine va_sld hx hb hX hbl hbA hS (vp_in_nI (n := 5 * j) (N := L) (by omega) (by omega)) dL_law_28 ?_
    refine lv_bipush (v := 31) hx hb dL_law_29 (by decide) ?_
    refine lv_iand hx hb dL_law_31 ?_
    refine lv_topi (fun x0 _ => ?_)
    rcases tsw x0 0 26 (by decide) with cs | cs
    · refine lv_tableOut (tgt := 869) hx hb dL_law_32 cs (by decide) ?_
      exact nx h F V F2 G V2 H locs ls hh hI hP hD hS hl
    · obtain ⟨j2, hj2, cs⟩ := cs
      match j2, hj2, cs with
      | 0, _, cs =>
        refine lv_tableIn (tgt := 156) (off := 124) hx hb dL_law_32 (by rw [cs]; decide) (by rw [cs]; decide) (by rw [cs]; rfl) (by decide) ?_
        exact lc_0 C0 hK hL hj nx h F V F2 G V2 H locs ls hh hI hP hD hS hl
      | 1, _, cs =>
        refine lv_tableIn (tgt := 189) (off := 157) hx hb dL_law_32 (by rw [cs]; decide) (by rw [cs]; decide) (by rw [cs]; rfl) (by decide) ?_
        exact lc_1 C0 hK hL hj nx h F V F2 G V2 H locs ls hh hI hP hD hS hl
      | 2, _, cs =>
        refine lv_tableIn (tgt := 242) (off := 210) hx hb dL_law_32 (by rw [cs]; decide) (by rw [cs]; decide) (by rw [cs]; rfl) (by decide) ?_
        exact lc_2 C0 hK hL hj nx h F V F2 G V2 H locs ls hh hI hP hD hS hl
      | 3, _, cs =>
        refine lv_tableIn (tgt := 275) (off := 243) hx hb dL_law_32 (by rw [cs]; decide) (by rw [cs]; decide) (by rw [cs]; rfl) (by decide) ?_
        exact lc_3 C0 hK hL hj nx h F V F2 G V2 H locs ls hh hI hP hD hS hl
      | 4, _, cs =>
        refine lv_tableIn (tgt := 308) (off := 276) hx hb dL_law_32 (by rw [cs]; decide) (by rw [cs]; decide) (by rw [cs]; rfl) (by decide) ?_
        exact lc_4 C0 hK hL hj nx h F V F2 G V2 H locs ls hh hI hP hD hS hl
      | 5, _, cs =>
        refine lv_tableIn (tgt := 341) (off := 309) hx hb dL_law_32 (by rw [cs]; decide) (by rw [cs]; decide) (by rw [cs]; rfl) (by decide) ?_
        exact lc_5 C0 hK hL hj nx h F V F2 G V2 H locs ls hh hI hP hD hS hl
      | 6, _, cs =>
        refine lv_tableIn (tgt := 364) (off := 332) hx hb dL_law_32 (by rw [cs]; decide) (by rw [cs]; decide) (by rw [cs]; rfl) (by decide) ?_
        exact lc_6 C0 hK hL hj nx h F V F2 G V2 H locs ls hh hI hP hD hS hl
      | 7, _, cs =>
        refine lv_tableIn (tgt := 423) (off := 391) hx hb dL_law_32 (by rw [cs]; decide) (by rw [cs]; decide) (by rw [cs]; rfl) (by decide) ?_
        exact lc_7 C0 hK hL hj nx h F V F2 G V2 H locs ls hh hI hP hD hS hl
      | 8, _, cs =>
        refine lv_tableIn (tgt := 456) (off := 424) hx hb dL_law_32 (by rw [cs]; decide) (by rw [cs]; decide) (by rw [cs]; rfl) (by decide) ?_
        exact lc_8 C0 hK hL hj nx h F V F2 G V2 H locs ls hh hI hP hD hS hl
      | 9, _, cs =>
        refine lv_tableIn (tgt := 479) (off := 447) hx hb dL_law_32 (by rw [cs]; decide) (by rw [cs]; decide) (by rw [cs]; rfl) (by decide) ?_
        exact lc_9 C0 hK hL hj nx h F V F2 G V2 H locs ls hh hI hP hD hS hl
      | 10, _, cs =>
        refine lv_tableIn (tgt := 502) (off := 470) hx hb dL_law_32 (by rw [cs]; decide) (by rw [cs]; decide) (by rw [cs]; rfl) (by decide) ?_
        exact lc_10 C0 hK hL hj nx h F V F2 G V2 H locs ls hh hI hP hD hS hl
      | 11, _, cs =>
        refine lv_tableIn (tgt := 525) (off := 493) hx hb dL_law_32 (by rw [cs]; decide) (by rw [cs]; decide) (by rw [cs]; rfl) (by decide) ?_
        exact lc_11 C0 hK hL hj nx h F V F2 G V2 H locs ls hh hI hP hD hS hl
      | 12, _, cs =>
        refine lv_tableIn (tgt := 548) (off := 516) hx hb dL_law_32 (by rw [cs]; decide) (by rw [cs]; decide) (by rw [cs]; rfl) (by decide) ?_
        exact lc_12 C0 hK hL hj nx h F V F2 G V2 H locs ls hh hI hP hD hS hl
      | 13, _, cs =>
        refine lv_tableIn (tgt := 571) (off := 539) hx hb dL_law_32 (by rw [cs]; decide) (by rw [cs]; decide) (by rw [cs]; rfl) (by decide) ?_
        exact lc_13 C0 hK hL hj nx h F V F2 G V2 H locs ls hh hI hP hD hS hl
      | 14, _, cs =>
        refine lv_tableIn (tgt := 594) (off := 562) hx hb dL_law_32 (by rw [cs]; decide) (by rw [cs]; decide) (by rw [cs]; rfl) (by decide) ?_
        exact lc_14 C0 hK hL hj nx h F V F2 G V2 H locs ls hh hI hP hD hS hl
      | 15, _, cs =>
        refine lv_tableIn (tgt := 617) (off := 585) hx hb dL_law_32 (by rw [cs]; decide) (by rw [cs]; decide) (by rw [cs]; rfl) (by decide) ?_
        exact lc_15 C0 hK hL hj nx h F V F2 G V2 H locs ls hh hI hP hD hS hl
      | 16, _, cs =>
        refine lv_tableIn (tgt := 640) (off := 608) hx hb dL_law_32 (by rw [cs]; decide) (by rw [cs]; decide) (by rw [cs]; rfl) (by decide) ?_
        exact lc_16 C0 hK hL hj nx h F V F2 G V2 H locs ls hh hI hP hD hS hl
      | 17, _, cs =>
        refine lv_tableIn (tgt := 653) (off := 621) hx hb dL_law_32 (by rw [cs]; decide) (by rw [cs]; decide) (by rw [cs]; rfl) (by decide) ?_
        exact lc_17 C0 hK hL hj nx h F V F2 G V2 H locs ls hh hI hP hD hS hl
      | 18, _, cs =>
        refine lv_tableIn (tgt := 676) (off := 644) hx hb dL_law_32 (by rw [cs]; decide) (by rw [cs]; decide) (by rw [cs]; rfl) (by decide) ?_
        exact lc_18 C0 hK hL hj nx h F V F2 G V2 H locs ls hh hI hP hD hS hl
      | 19, _, cs =>
        refine lv_tableIn (tgt := 715) (off := 683) hx hb dL_law_32 (by rw [cs]; decide) (by rw [cs]; decide) (by rw [cs]; rfl) (by decide) ?_
        exact lc_19 C0 hK hL hj nx h F V F2 G V2 H locs ls hh hI hP hD hS hl
      | 20, _, cs =>
        refine lv_tableIn (tgt := 728) (off := 696) hx hb dL_law_32 (by rw [cs]; decide) (by rw [cs]; decide) (by rw [cs]; rfl) (by decide) ?_
        exact lc_20 C0 hK hL hj nx h F V F2 G V2 H locs ls hh hI hP hD hS hl
      | 21, _, cs =>
        refine lv_tableIn (tgt := 771) (off := 739) hx hb dL_law_32 (by rw [cs]; decide) (by rw [cs]; decide) (by rw [cs]; rfl) (by decide) ?_
        exact lc_21 C0 hK hL hj nx h F V F2 G V2 H locs ls hh hI hP hD hS hl
      | 22, _, cs =>
        refine lv_tableIn (tgt := 784) (off := 752) hx hb dL_law_32 (by rw [cs]; decide) (by rw [cs]; decide) (by rw [cs]; rfl) (by decide) ?_
        exact lc_22 C0 hK hL hj nx h F V F2 G V2 H locs ls hh hI hP hD hS hl
      | 23, _, cs =>
        refine lv_tableIn (tgt := 797) (off := 765) hx hb dL_law_32 (by rw [cs]; decide) (by rw [cs]; decide) (by rw [cs]; rfl) (by decide) ?_
        exact lc_23 C0 hK hL hj nx h F V F2 G V2 H locs ls hh hI hP hD hS hl
      | 24, _, cs =>
        refine lv_tableIn (tgt := 820) (off := 788) hx hb dL_law_32 (by rw [cs]; decide) (by rw [cs]; decide) (by rw [cs]; rfl) (by decide) ?_
        exact lc_24 C0 hK hL hj nx h F V F2 G V2 H locs ls hh hI hP hD hS hl
      | 25, _, cs =>
        refine lv_tableIn (tgt := 833) (off := 801) hx hb dL_law_32 (by rw [cs]; decide) (by rw [cs]; decide) (by rw [cs]; rfl) (by decide) ?_
        exact lc_25 C0 hK hL hj nx h F V F2 G V2 H locs ls hh hI hP hD hS hl
      | 26, _, cs =>
        refine lv_tableIn (tgt := 856) (off := 824) hx hb dL_law_32 (by rw [cs]; decide) (by rw [cs]; decide) (by rw [cs]; rfl) (by decide) ?_
        exact lc_26 C0 hK hL hj nx h F V F2 G V2 H locs ls hh hI hP hD hS hl
      | j2 + 27, hj2, _ => exact absurd hj2 (by omega)
theorem law_loop {p : Program} {l : Launch} {e : Env} {s : State} {m : MethodId} {below : List Frame} {meth : Method} {c : Code} {b : Nat} {xs : Nat → Int32} {dC : Nat → ClassId} {dI : Nat → Nat → Nat} {cI cZ cJ : ClassId} {g : Nat → Nat} {h0 : Nat} {L : Nat} (C0 : lw_At p s m meth c b L xs) (hK : va_K (dC, dI) vwCl (tys3 cI cZ cJ) s) (hL : L ≤ 2560) : ∀ (fu j : Nat), L ≤ 5 * j + fu → 5 * j ≤ L → lwK p l e s m below meth c b dC dI cI cZ cJ g h0 18 j := by
  intro fu
  induction fu with
  | zero => exact fun j h1 h2 => law_head C0 hK hL (by omega) (fun hj => absurd hj (by omega))
  | succ fu ih => exact fun j h1 h2 => law_head C0 hK hL (by omega) (fun hj => law_tail C0 (ih (j + 1) (by omega) (by omega)))
set_option maxHeartbeats 4000000 in
set_option maxRecDepth 100000 in
theorem whole_start {p : Program} {e : Env} {s : State} {m : MethodId} {below : List Frame} {meth : Method} {c : Code} (l : Launch) {b L : Nat} {xs : Nat → Int32} (hL : L ≤ 2560) (C0 : lw_At p s m meth c b L xs) : W p l e room_1 s m #[Value.ref b] below meth c s.heap [] 0 0 (lw_Z below #[Value.ref b] s) (entryFrame m ([Value.ref b] : List Value).toArray 4) := by
  obtain ⟨hx, hb, hr, hml, hown, hts0, hX, hbl, hlocks, hgv⟩ := id C0
  have hbA : ¬ (fun q : Nat => s.heap.size ≤ q) b := Nat.not_le.mpr hbl
  have hts : ∀ w ∈ wsL_law, w.before #[Value.ref b] s = true := fun w h => hts0 w (wsL_law_in w h)
  have fx : CallFix p m c cL_law 4 s #[Value.ref b] wsL_law RL := ⟨hx, hb, hml, hown, hts⟩
  have hA : ∀ q : Nat, s.heap.size ≤ q → (fun q : Nat => s.heap.size ≤ q) q := fun _ h => h
  obtain ⟨c0, iS0, hKn0⟩ := u_known (C := RX0) (T := TX0) (N := 11) (n := 11) hts0 inX0 (hts (.instantiable RX0 11) (by decide +kernel))
  obtain ⟨c1, iS1, hKn1⟩ := u_known (C := RX1) (T := TX1) (N := 11) (n := 11) hts0 inX1 (hts (.instantiable RX1 11) (by decide +kernel))
  obtain ⟨c2, iS2, hKn2⟩ := u_known (C := RX2) (T := TX2) (N := 5) (n := 5) hts0 inX2 (hts (.instantiable RX2 5) (by decide +kernel))
  obtain ⟨c3, iS3, hKn3⟩ := u_known (C := RX3) (T := TX3) (N := 14) (n := 14) hts0 inX3 (hts (.instantiable RX3 14) (by decide +kernel))
  obtain ⟨c4, iS4, hKn4⟩ := u_known (C := RX4) (T := TX4) (N := 5) (n := 5) hts0 inX4 (hts (.instantiable RX4 5) (by decide +kernel))
  obtain ⟨c5, iS5, hKn5⟩ := u_known (C := RX5) (T := TX5) (N := 33) (n := 33) hts0 inX5 (hts (.instantiable RX5 33) (by decide +kernel))
  obtain ⟨dC, dI, hKc⟩ : ∃ (dC : Nat → ClassId) (dI : Nat → Nat → Nat), ∀ (k : Nat) (q : vw_C), vwCl[k]? = some q → u_Kn s q.1 q.2.1 q.2.2 (dC k) (dI k) := by
    refine ⟨fun k => if k = 0 then c0 else if k = 1 then c1 else if k = 2 then c2 else if k = 3 then c3 else if k = 4 then c4 else c5, fun k => if k = 0 then iS0 else if k = 1 then iS1 else if k = 2 then iS2 else if k = 3 then iS3 else if k = 4 then iS4 else iS5, ?_⟩
    intro k q hq
    match k, hq with
    | 0, hq => cases hq; exact hKn0
    | 1, hq => cases hq; exact hKn1
    | 2, hq => cases hq; exact hKn2
    | 3, hq => cases hq; exact hKn3
    | 4, hq => cases hq; exact hKn4
    | 5, hq => cases hq; exact hKn5
    | k + 6, hq => simp [vwCl] at hq
  obtain ⟨cI, aI1, aI2⟩ := cl_arr (ty := .int) (hts (.arrayClass .int) (by decide +kernel))
  obtain ⟨cZ, aZ1, aZ2⟩ := cl_arr (ty := .boolean) (hts (.arrayClass .boolean) (by decide +kernel))
  obtain ⟨cJ, aJ1, aJ2⟩ := cl_arr (ty := .long) (hts (.arrayClass .long) (by decide +kernel))
  have hK : va_K (dC, dI) vwCl (tys3 cI cZ cJ) s := ⟨hKc, fun k q hq => by
    match k, hq with
    | 0, hq => cases hq; exact ⟨aI1, aI2⟩
    | 1, hq => cases hq; exact ⟨aZ1, aZ2⟩
    | 2, hq => cases hq; exact ⟨aJ1, aJ2⟩
    | k + 3, hq => simp [tys3] at hq⟩
  have hS : va_S (fun q : Nat => s.heap.size ≤ q) s.heap s.heap [] := va_S.rf
  have hP : va_P (dC, dI) vwCl [] s.heap := fun k q h => by simp at h
  have hD : va_D (fun q : Nat => s.heap.size ≤ q) [] := ⟨fun i j p q h => by simp at h, fun k q h => by simp at h⟩
  have hl := lv_entry ([.ref b]) (n := 4) (Nat.le_of_ble_eq_true rfl)
  rw [lg_entry_eq]
  generalize (lg_sl ([.ref b]) ++ List.replicate (4 - (lg_sl ([.ref b])).length) Slot.unset).toArray = ls at hl ⊢
  have hl : lv_has ls 4 [(0, .ref b)] := hl
  refine va_new (ci := 4) (fs := [.null, .null, .null, .null, .int 0]) (C := RX4) (T := TX4) (N := 5) hx hb hts inlX4 tyX4 tyX4_ok hown (hts (.classLink RL 7 RX4) (by decide +kernel)) (hts (.instantiable RX4 5) (by decide +kernel)) (hts (.initialized RX4) (by decide +kernel)) hK hP hD hS hA rfl (fun j hj => nfs_X4 j hj) (Nat.le_of_ble_eq_true rfl) (Nat.le_of_ble_eq_true rfl) dL_law_0 (fun qa H hP hD hS => ?_)
  have hP : va_P (dC, dI) vwCl [(qa, .inr (4, [.null, .null, .null, .null, .int 0]))] H := hP
  have hD : va_D (fun q : Nat => s.heap.size ≤ q) [(qa, .inr (4, [.null, .null, .null, .null, .int 0]))] := hD
  refine lv_dup hx hb dL_law_3 rfl ?_
  refine cl_Iv (As := []) (rest := [.ref qa]) (wr := []) (c_X4_init l dC dI cI cZ cJ qa) fx (cwI 0 hts gL_law_X4_init rfl rfl rfl (hts (.initialized RX4) (by decide +kernel)) (hts (.methodLink RL 9 yX4_init) (by decide +kernel)) (hts (.instanceMethod yX4_init) (by decide +kernel)) rfl (by decide +kernel) ⟨Nat.le_of_ble_eq_true rfl, Nat.le_of_ble_eq_true rfl⟩) hK hP hD hS hA [0] [] rfl rfl (by decide) (by decide) (by decide) rfl hl.1 rfl (Nat.le_of_ble_eq_true rfl) dL_law_4 ⟨Nat.le_of_ble_eq_true rfl, Nat.le_of_ble_eq_true rfl⟩ (fun u H1 locs1 hwu hP1 hD1 hS1 => ?_)
  obtain ⟨h, F⟩ := u
  obtain ⟨hq, hI1⟩ := hwu
  dsimp only at hq hI1
  subst hq
  have hP : va_P (dC, dI) vwCl (wC cI cZ h F V0) H1 := hP1
  have hD : va_D (fun q : Nat => s.heap.size ≤ q) (wC cI cZ h F V0) := hD1
  have hS := hS1
  generalize H1 = H at hP hS ⊢
  generalize locs1 = locs at hS ⊢
  refine lv_astore_n (lv' := [(1, .ref (h 0)), (0, .ref b)]) hx hb dL_law_7 rfl hl (by decide) rfl (fun ls hl => ?_)
  refine va_new (ci := 5) (fs := [.int 0, .int 0, .int 0, .int 0, .int 0, .int 0, .int 0, .int 0, .null, .null, .null, .null, .null, .null, .null, .null, .null, .null, .null, .null, .null, .null, .null, .int 0, .int 0, .null, .null, .int 0, .null, .null, .null, .int 0, .null]) (C := RX5) (T := TX5) (N := 33) hx hb hts inlX5 tyX5 tyX5_ok hown (hts (.classLink RL 10 RX5) (by decide +kernel)) (hts (.instantiable RX5 33) (by decide +kernel)) (hts (.initialized RX5) (by decide +kernel)) hK hP hD hS hA rfl (fun j hj => nfs_X5 j hj) (Nat.le_of_ble_eq_true rfl) (Nat.le_of_ble_eq_true rfl) dL_law_8 (fun qb H hP hD hS => ?_)
  have hP : va_P (dC, dI) vwCl (wC cI cZ h F V0 ++ [(qb, .inr (5, [.int 0, .int 0, .int 0, .int 0, .int 0, .int 0, .int 0, .int 0, .null, .null, .null, .null, .null, .null, .null, .null, .null, .null, .null, .null, .null, .null, .null, .int 0, .int 0, .null, .null, .int 0, .null, .null, .null, .int 0, .null]))]) H := hP
  have hD : va_D (fun q : Nat => s.heap.size ≤ q) (wC cI cZ h F V0 ++ [(qb, .inr (5, [.int 0, .int 0, .int 0, .int 0, .int 0, .int 0, .int 0, .int 0, .null, .null, .null, .null, .null, .null, .null, .null, .null, .null, .null, .null, .null, .null, .null, .int 0, .int 0, .null, .null, .int 0, .null, .null, .null, .int 0, .null]))]) := hD
  refine lv_dup hx hb dL_law_11 rfl ?_
  refine cl_Iv (As := []) (rest := [.ref qb]) (wr := wC cI cZ h F V0) (c_X5_init l dC dI cI cZ cJ qb) fx (cwI 0 hts gL_law_X5_init rfl rfl rfl (hts (.initialized RX5) (by decide +kernel)) (hts (.methodLink RL 12 yX5_init) (by decide +kernel)) (hts (.instanceMethod yX5_init) (by decide +kernel)) rfl (by decide +kernel) ⟨Nat.le_of_ble_eq_true rfl, Nat.le_of_ble_eq_true rfl⟩) hK hP hD hS hA [31] [0, 1, 2, 3, 4, 5, 6, 7, 8, 9, 10, 11, 12, 13, 14, 15, 16, 17, 18, 19, 20, 21, 22, 23, 24, 25, 26, 27, 28, 29, 30] rfl rfl (by decide) (by decide) (by decide) rfl hl.1 rfl (Nat.le_of_ble_eq_true rfl) dL_law_12 ⟨Nat.le_of_ble_eq_true rfl, Nat.le_of_ble_eq_true rfl⟩ (fun v H1 locs1 hwv hP1 hD1 hS1 => ?_)
  obtain ⟨g, F2⟩ := v
  obtain ⟨hq, hI2⟩ := hwv
  dsimp only at hq hI2
  subst hq
  have hP : va_P (dC, dI) vwCl (wC cI cZ h F V0 ++ wM cI cZ cJ g F2 (fun _ => 0) U0) H1 := hP1
  have hD : va_D (fun q : Nat => s.heap.size ≤ q) (wC cI cZ h F V0 ++ wM cI cZ cJ g F2 (fun _ => 0) U0) := hD1
  have hS := hS1
  generalize H1 = H at hP hS ⊢
  generalize locs1 = locs at hS ⊢
  refine lv_astore_n (lv' := [(2, .ref (g 0)), (1, .ref (h 0)), (0, .ref b)]) hx hb dL_law_15 rfl hl (by decide) rfl (fun ls hl => ?_)
  refine lv_iconst (v := 0) hx hb dL_law_16 (by decide) ?_
  refine lv_istore_n (lv' := [(3, .int 0), (2, .ref (g 0)), (1, .ref (h 0)), (0, .ref b)]) hx hb dL_law_17 rfl hl (by decide) rfl (fun ls hl => ?_)
  exact law_loop C0 hK hL L 0 (by omega) (by omega) h F V0 F2 (fun _ => 0) U0 H locs ls rfl ⟨0, 1, 0, 0, 0, 0, 24, (fun _ => 0), (fun _ => 0), (fun _ => 0), (fun _ => 500), (fun _ => 10), (fun _ => 0), (fun _ => 0), (fun _ => 0), (fun _ => 0), (fun _ => 0), (fun _ => 0), 0, (fun _ => false), hI1, hI2⟩ hP hD hS (lv_sub hl [3, 2, 1, 0] rfl)
set_option maxHeartbeats 4000000 in
theorem lw_walk (l : Launch) (b : Addr) (xs : List Int32) : MetFree l x (headSpec (Jvm.Cond.code x code maxLocals ret :: tables_1) room_1) (lw_P b xs) (fun _ _ _ _ _ => True) lw_Q := by
  refine MetFree.of_bodyS (code := code) (maxLocals := maxLocals) (ret := ret) (by decide) ?_ ?_
  · intro args s m h hn
    obtain ⟨meth, c, h1, h2, h3, h4, h5, h6, -, -⟩ := Cond.code_spec hn (atoms_spec (ws := Jvm.Cond.code x code maxLocals ret :: tables_1) h _ List.mem_cons_self)
    exact ⟨meth, c, h1, h2, h3, h4, h5, h6⟩
  · intro p e s m args below meth c s₁ B hml0 hP _
    obtain ⟨rfl, hx, hbd, hgv⟩ := hP
    obtain ⟨scr, harrAt, hlist, hof, hsmall⟩ := hx
    obtain ⟨hcb, hkn, -, -⟩ := State.arrayAt?_spec harrAt
    have hown : s.vm.findClass R_law = some m.cls := findClass_of_methodNamed B.named
    have hts0 : ∀ c ∈ (Jvm.Cond.code x code maxLocals ret :: tables_1), c.before #[Value.ref b] s = true := atoms_spec (ws := Jvm.Cond.code x code maxLocals ret :: tables_1) B.pre
    have hts : ∀ w ∈ lw_tbl, w.before #[Value.ref b] s = true := k2_hts_sels lw_privs (fun w hw => hts0 w (List.mem_cons_of_mem _ hw)) lw_privs_ok
    have hml : c.maxLocals = 4 := B.maxLocals_eq (hts0 _ List.mem_cons_self)
    have X₀ : Stand p l e room_1 s m #[Value.ref b] below meth c s₁ [] 0 0 := Stand.of_body B
    have hh0 : s₁.heap = s.heap := by rw [B.state]; rfl
    have hsz : scr.slots.size = xs.length := by rw [← Array.length_toList, hlist, List.length_map]
    have hval : ∀ j : Nat, j < xs.length → scr.slots[j]? = some (.int (xs.getD j 0)) := fun j hj => by
      rw [← Array.getElem?_toList, hlist]
      simp [hj]
    have hbl : b < s.heap.size := (Array.getElem?_eq_some_iff.mp hcb).1
    have hX : va_X b xs.length (fun j => xs.getD j 0) s s.heap := ⟨scr, hcb, hof, hkn, hsz, hval⟩
    have K : W p l e room_1 s m #[Value.ref b] below meth c s₁.heap [] 0 0 (lw_Z below #[Value.ref b] s) (entryFrame m ([Value.ref b] : List Value).toArray 4) := by
      rw [hh0]
      exact whole_start l hbd ⟨B.exec, B.bytes, B.returns, hml, hown, hts, hX, hbl, B.notSynchronized, hgv⟩
    obtain ⟨t, a1, o, b1, b2, b3⟩ := K s₁ rfl X₀
    exact ⟨t, o, a1, b1, b2, b3⟩
theorem lw_pre_spec {args : Array Value} {s : State} (h : (Jvm.Cond.and given_1 narrow_1).before args s = true) (hr : rest_1_c.before args s = true) : ∃ (b : Addr) (xs : List Int32), lw_P b xs args s := by
  have hs := flat_of_before _ h
  have hq := flat_of_before _ hr
  have hc : (Cond.count 1).before args s = true := hs _ (by decide +kernel)
  have harr : (Cond.arrayOf (.arg 0) .int).before args s = true := hs _ (by decide +kernel)
  have hle : (Cond.le (.length (.arg 0)) (.int 2560)).before args s = true := hs _ (by decide +kernel)
  have hlen : (Cond.isInt (.length (.arg 0))).before args s = true := hq _ (by decide +kernel)
  have hall : (Cond.all (.arg 0) (.isInt (.elem (.arg 0) (.index 0)))).before args s = true := hq _ (by decide +kernel)
  obtain ⟨b, xs, hb, hx⟩ := State.ints_of_pre rfl harr hlen hall
  have hsm : xs.length < 2 ^ 31 := hx.choose_spec.2.2.2
  have hev : (Term.length (.arg 0)).eval args s none [] s = some (.int xs.length.toInt32) := hx.length_eval hb
  have hv := Cond.le_ints hev (show (Term.int 2560).eval args s none [] s = some (.int 2560) from rfl)
  have hd : xs.length.toInt32 ≤ 2560 := by
    simpa [Cond.before, Cond.holds, hv] using hle
  have hN : xs.length ≤ 2560 := (Int32.ofNat_le_ofNat hsm (by decide)).mp (show Int32.ofNat xs.length ≤ Int32.ofNat 2560 from hd)
  exact ⟨b, xs, Cond.one_arg hc (show args[0]? = some (.ref b) from hb), hx, hN, h⟩
theorem lw_comes (l : Launch) : Comes l x (Jvm.Cond.code x code maxLocals ret :: tables_1) room_1 (fun tb e args s => Calls_1 tb e args s ∧ rest_1 tb e args s ∧ Pre_1 tb e args s)
    (fun _ _ args s o t => lw_Q args s o t) := by
  intro p e ha hc hk s m args below hf hfit hheap happ hpre
  obtain ⟨b, xs, hP⟩ := lw_pre_spec hpre.2.2 hpre.2.1
  obtain ⟨k, o, h1, h2, h3, hQ⟩ := lw_walk l b xs p e ha hc hk s m args below hf ((Spec.applies_iff_loose hf).mp happ).1 hP trivial
  exact ⟨k, o, h1, h2, h3, hQ⟩
theorem lw_frame {s t : State} {o : Outcome} {args : Array Value} (h : Framed s o t [] 600000 7302250) :
    Framed s o t (fieldLocs frame_1_writes args s ++ arrayLocs frame_1_arrays args s ++ staticLocs frame_1_statics s) 600000 7302250 := h
theorem lw_limb (L : Cond) (hL : ∀ (args : Array Value) (s t : State), L.after args s (.returned (some (.int 1))) t = true) :
    ArmFor flags0 classFile x code maxLocals ret World_1 tables_1 room_1 Calls_1 rest_1 Pre_1
      (fun tb e a s o t => postC L tb e a s o t ∧ Framed s o t (fieldLocs frame_1_writes a s ++ arrayLocs frame_1_arrays a s ++ staticLocs frame_1_statics s) 600000 7302250) := by
  intro l _ _ _ p e ha hc hk s m args below hf hfit hheap happ hpre
  obtain ⟨k, o, h1, h2, h3, rfl, hF⟩ := lw_comes l p e ha hc hk s m args below hf hfit hheap happ hpre
  exact ⟨k, _, h1, h2, h3, hL args s _, lw_frame hF⟩
theorem i_vc : Claimed_1_1 ∧ Claimed_1_2 := ⟨lw_limb limb_1_1 (fun args s t => by simp [limb_1_1, Cond.after, Cond.holds, Cond.value]), lw_limb limb_1_2 (fun args s t => Cond.after_iff.mpr (by
  first | (rw [show limb_1_2 = Cond.eq .result (.int 1) from rfl, Cond.eq_ints (x := 1) (y := 1) rfl rfl]; simp; done) | (simp [limb_1_2, Cond.value, Term.eval]; done)))⟩

