def chE (x : Int32) (r : Bool) (k : Nat) : Int32 := if r then x ||| ((1 : Int32) <<< (nI k &&& 31)) else x
theorem wcho_at (C : Nat → Int32) (r : Bool) (k st : Nat) : wcho C r k st st = chE (C st) r k := by
  unfold wcho chE
  cases r with
  | true => exact pk_us
  | false => rfl
theorem wcho_ne (C : Nat → Int32) (r : Bool) (k : Nat) {st i : Nat} (h : i ≠ st) : wcho C r k st i = C i := by
  unfold wcho
  cases r with
  | true => exact pk_un h
  | false => rfl
def rm_X3_weighHour : Room := { frames := 3, cells := 0, slots := 0, locals := 61 }
set_option maxHeartbeats 4000000 in
set_option maxRecDepth 100000 in
theorem c_X3_weighHour (l : Launch) (dC : Nat → ClassId) (dI : Nat → Nat → Nat) (cI cZ cJ : ClassId) (h : Nat → Nat) (F : Nat → Nat → Int32) (V : Nat → Int32)  (Pr : Nat → Nat) (hPr : ∀ i, i < 24 → F 23 i = nI (Pr i)) (bPr : ∀ i, i < 24 → Pr i ≤ 999) (k0 c0 m0 : Nat) (hk0 : k0 < 24) (hc : F 27 k0 = nI c0) (hc0 : c0 ≤ 40) (hm : F 28 k0 = nI m0) (hm0 : m0 ≤ 200)   : CtV l (dC, dI) vwCl (tys3 cI cZ cJ) yX3_weighHour wsX3_weighHour rm_X3_weighHour [.ref (h 3), .int (nI k0)] (wC cI cZ h F V) (S := Nat → Nat → Int32) (fun u => (∀ j, j ∉ ([24, 26] : List Nat) → u j = F j) ∧ ((∀ a, a ≤ m0 → ∀ b, b ≤ 1 → u 24 (2 * a + b) = wval (F 25) (5 * Pr k0) (min 200 (a + c0)) (7 - 2 * b) ∧ u 26 (2 * a + b) = chE (F 26 (2 * a + b)) (wrun (F 25) (5 * Pr k0) (min 200 (a + c0)) (7 - 2 * b)) k0) ∧ ∀ i, 2 * (m0 + 1) ≤ i → u 24 i = F 24 i ∧ u 26 i = F 26 i)) (fun u => wC cI cZ h u V) 0 0 := by
  refine ct_V (cc := cX3_weighHour) (maxL := 3) (own := RX3) (by decide) rfl rfl (Nat.le_of_ble_eq_true rfl) (lv := [(0, .ref (h 3)), (1, .int (nI k0))]) rfl ?_
  intro p e s m args below meth c A Q ls hnm fx hK hP hD hA hl hret
  obtain ⟨hx, hb, hml, hown, hts⟩ := id fx
  have hS : va_S A s.heap s.heap [] := va_S.rf
  have hw0 := hts (.fieldLink RX3 41 "MirrorTower$Store" "mostHeld" "[I") (by decide +kernel)
  have hin_X3 : ∀ w ∈ u_ws RX3 TX3 14, w ∈ wsX3_weighHour := by decide +kernel
  obtain ⟨H, hH⟩ : ∃ H, H = s.heap := ⟨_, rfl⟩
  rw [← hH] at hP ⊢
  have hS : va_S A s.heap H [] := by rw [hH]; exact hS
  generalize ([] : List Loc) = locs at hS ⊢
  refine lv_iconst (v := 0) hx hb dX3_weighHour_0 (by decide) ?_
  refine lv_istore_n (lv' := [(2, .int 0), (0, .ref (h 3)), (1, .int (nI k0))]) hx hb dX3_weighHour_1 rfl hl (by decide) rfl (fun ls hl => ?_)
  have loop2 : ∀ (fu : Nat) (k : Nat) (F1 : Nat → Nat → Int32), (k ≤ m0 + 1) → (∀ a, a < k → ∀ b, b ≤ 1 → F1 24 (2 * a + b) = wval (F 25) (5 * Pr k0) (min 200 (a + c0)) (7 - 2 * b) ∧ F1 26 (2 * a + b) = chE (F 26 (2 * a + b)) (wrun (F 25) (5 * Pr k0) (min 200 (a + c0)) (7 - 2 * b)) k0) → (∀ i, 2 * k ≤ i → F1 24 i = F 24 i ∧ F1 26 i = F 26 i) → (∀ j, j ∉ ([24, 26] : List Nat) → F1 j = F j) → (m0 + 1 - k) < fu → ∀ (H : Heap) (locs : List Loc) (ls : Array Slot), va_P (dC, dI) vwCl (wC cI cZ h F1 V) H → va_D A (wC cI cZ h F1 V) → va_S A s.heap H locs → lv_has ls 3 [(0, .ref (h 3)), (1, .int (nI k0)), (2, .int (nI k))] → W p l e rm_X3_weighHour s m args below meth c H locs 0 0 Q (F0 m 2 ls []) := by
    intro fu
    induction fu with
    | zero => intro k F1 hk hlo hhi hfr hn_; exact absurd hn_ (Nat.not_lt_zero _)
    | succ fu ih2 =>
      intro k F1 hk hlo hhi hfr hn_ H locs ls hP hD hS hl
      have hN_1 : ∀ i, i < 24 → F1 23 i = nI (Pr i) := by rw [hfr 23 (by decide)]; exact hPr
      have hE_2 : F1 27 k0 = nI (c0) := by rw [hfr 27 (by decide)]; exact hc
      have hE_3 : F1 28 k0 = nI (m0) := by rw [hfr 28 (by decide)]; exact hm
      refine lv_iload_n hx hb dX3_weighHour_2 rfl (lv_at hl 2 rfl) ?_
      refine lv_aload_n hx hb dX3_weighHour_3 rfl (lv_at hl 0 rfl) ?_
      refine va_get (D := (dC, dI)) (ci := 3) (v := .ref (h 28)) (C := RX3) (T := TX3) (N := 14) hx hb hts hin_X3 hown hK hP 3 rfl rfl 11 (by decide) hw0 (fun _ h9 => h9) rfl dX3_weighHour_4 ?_
      refine lv_iload_n hx hb dX3_weighHour_7 rfl (lv_at hl 1 rfl) ?_
      refine va_iald hx hb hK hP 28 0 rfl rfl (vp_in_nI (n := k0) (N := 24) (by omega) (by decide)) dX3_weighHour_8 ?_
      refine lv_topi (fun x_4 ex_4 => ?_)
      obtain rfl : x_4 = nI m0 := ex_4.trans ((congrArg (F1 28) (nI_clamp (n := k0) (by omega))).trans hE_3)
      refine lv_icmp_gt (tgt := 32) hx hb dX3_weighHour_9 (by decide) (fun c_5 => ?_) (fun c_5 => ?_)
      · have c_5 : m0 < k := (nI_ltI (a := m0) (b := k) (by omega) (by omega)).mp c_5
        exact hret F1 H locs 32 ls dX3_weighHour_32 (by
                    obtain rfl : k = m0 + 1 := by omega
                    exact ⟨hfr, fun a ha => hlo a (by omega), hhi⟩) (hP) (hD) hS
      · have c_5 : ¬ m0 < k := fun h => c_5 ((nI_ltI (a := m0) (b := k) (by omega) (by omega)).mpr h)
        refine lv_aload_n hx hb dX3_weighHour_12 rfl (lv_at hl 0 rfl) ?_
        refine lv_iload_n hx hb dX3_weighHour_13 rfl (lv_at hl 1 rfl) ?_
        refine lv_iload_n hx hb dX3_weighHour_14 rfl (lv_at hl 2 rfl) ?_
        refine lv_iconst (v := 0) hx hb dX3_weighHour_15 (by decide) ?_
        refine cw_Vv (As := [.int (nI k0), .int (nI k), .int 0]) (rest := []) (c_X3_weigh l dC dI cI cZ cJ h F1 V Pr hN_1 bPr k0 k 0 c0 (by omega) (by omega) (by omega) hE_2 (by omega)) fx (cwV 3 hts gX3_weighHour_X3_weigh rfl rfl rfl (by decide +kernel) ⟨Nat.le_of_ble_eq_true rfl, Nat.le_of_ble_eq_true rfl⟩) hK hP hD hS hA 3 rfl rfl rfl rfl hl.1 rfl (Nat.le_of_ble_eq_true rfl) dX3_weighHour_16 ⟨Nat.le_of_ble_eq_true rfl, Nat.le_of_ble_eq_true rfl⟩ (fun u_7 H locs hw_8 hP hD hS => ?_)
        obtain ⟨F_9, rfl⟩ : ∃ z, z = u_7 := ⟨_, rfl⟩
        have hf_10 : ∀ j, j ∉ ([24, 26] : List Nat) → F_9 j = F1 j := hw_8.1
        have hP : va_P (dC, dI) vwCl (wC cI cZ h F_9 V) H := hP
        have hD : va_D A (wC cI cZ h F_9 V) := hD
        have hN_11 : ∀ i, i < 24 → F_9 23 i = nI (Pr i) := by rw [hf_10 23 (by decide)]; exact hN_1
        have hE_12 : F_9 27 k0 = nI (c0) := by rw [hf_10 27 (by decide)]; exact hE_2
        have hE_13 : F_9 28 k0 = nI (m0) := by rw [hf_10 28 (by decide)]; exact hE_3
        refine lv_aload_n hx hb dX3_weighHour_19 rfl (lv_at hl 0 rfl) ?_
        refine lv_iload_n hx hb dX3_weighHour_20 rfl (lv_at hl 1 rfl) ?_
        refine lv_iload_n hx hb dX3_weighHour_21 rfl (lv_at hl 2 rfl) ?_
        refine lv_iconst (v := 1) hx hb dX3_weighHour_22 (by decide) ?_
        refine cw_Vv (As := [.int (nI k0), .int (nI k), .int 1]) (rest := []) (c_X3_weigh l dC dI cI cZ cJ h F_9 V Pr hN_11 bPr k0 k 1 c0 (by omega) (by omega) (by omega) hE_12 (by omega)) fx (cwV 3 hts gX3_weighHour_X3_weigh rfl rfl rfl (by decide +kernel) ⟨Nat.le_of_ble_eq_true rfl, Nat.le_of_ble_eq_true rfl⟩) hK hP hD hS hA 3 rfl rfl rfl rfl hl.1 rfl (Nat.le_of_ble_eq_true rfl) dX3_weighHour_23 ⟨Nat.le_of_ble_eq_true rfl, Nat.le_of_ble_eq_true rfl⟩ (fun u_15 H locs hw_16 hP hD hS => ?_)
        obtain ⟨F_17, rfl⟩ : ∃ z, z = u_15 := ⟨_, rfl⟩
        have hf_18 : ∀ j, j ∉ ([24, 26] : List Nat) → F_17 j = F_9 j := hw_16.1
        have hP : va_P (dC, dI) vwCl (wC cI cZ h F_17 V) H := hP
        have hD : va_D A (wC cI cZ h F_17 V) := hD
        have hN_19 : ∀ i, i < 24 → F_17 23 i = nI (Pr i) := by rw [hf_18 23 (by decide)]; exact hN_11
        have hE_20 : F_17 27 k0 = nI (c0) := by rw [hf_18 27 (by decide)]; exact hE_12
        have hE_21 : F_17 28 k0 = nI (m0) := by rw [hf_18 28 (by decide)]; exact hE_13
        refine lv_iinc (v := nI (k + 1)) (lv' := [(2, .int (nI (k + 1))), (0, .ref (h 3)), (1, .int (nI k0))]) hx hb dX3_weighHour_26 hl (k := 2) rfl (nI_1 _) (by decide) rfl (fun ls hl => ?_)
        refine lv_goto (tgt := 2) hx hb dX3_weighHour_29 (by decide) ?_
        have h25 : F1 25 = F 25 := hfr 25 (by decide)
        have ha25 : F_9 25 = F 25 := (hf_10 25 (by decide)).trans h25
        have a24 := hw_8.2.1
        have a26 := hw_8.2.2
        have b24 := hw_16.2.1
        have b26 := hw_16.2.2
        rw [h25] at a24 a26
        rw [ha25] at b24 b26
        have hb_22 : ∀ a, a < k + 1 → ∀ b, b ≤ 1 → F_17 24 (2 * a + b) = wval (F 25) (5 * Pr k0) (min 200 (a + c0)) (7 - 2 * b) ∧ F_17 26 (2 * a + b) = chE (F 26 (2 * a + b)) (wrun (F 25) (5 * Pr k0) (min 200 (a + c0)) (7 - 2 * b)) k0 := fun a ha b hb => by
          by_cases h : a = k
          · rw [h]
            match b, hb with
            | 0, _ =>
              refine ⟨?_, ?_⟩
              · rw [b24, pk_un (by omega), a24]; exact pk_us
              · rw [b26, wcho_ne _ _ _ (by omega), a26, wcho_at, (hhi (2 * k + 0) (by omega)).2]
            | 1, _ =>
              refine ⟨?_, ?_⟩
              · rw [b24]; exact pk_us
              · rw [b26, wcho_at, a26, wcho_ne _ _ _ (by omega), (hhi (2 * k + 1) (by omega)).2]
            | b + 2, hb => exact absurd hb (by omega)
          · have q := hlo a (by omega) b hb
            refine ⟨?_, ?_⟩
            · rw [b24, pk_un (by omega), a24, pk_un (by omega)]; exact q.1
            · rw [b26, wcho_ne _ _ _ (by omega), a26, wcho_ne _ _ _ (by omega)]; exact q.2
        have hb_23 : ∀ i, 2 * (k + 1) ≤ i → F_17 24 i = F 24 i ∧ F_17 26 i = F 26 i := fun i hi => by
          have q := hhi i (by omega)
          refine ⟨?_, ?_⟩
          · rw [b24, pk_un (by omega), a24, pk_un (by omega)]; exact q.1
          · rw [b26, wcho_ne _ _ _ (by omega), a26, wcho_ne _ _ _ (by omega)]; exact q.2
        exact ih2 (k + 1) F_17 (by omega) hb_22 hb_23 (fun j hj => ((hf_18 j (fun h => hj ((by decide : ∀ x ∈ ([24, 26] : List Nat), x ∈ ([24, 26] : List Nat)) j h))).trans ((hf_10 j (fun h => hj ((by decide : ∀ x ∈ ([24, 26] : List Nat), x ∈ ([24, 26] : List Nat)) j h))).trans (hfr j hj)))) (by omega) H locs ls hP hD hS (lv_sub hl [1, 2, 0] rfl)
  exact loop2 _ 0 F (by omega) (fun a ha => absurd ha (Nat.not_lt_zero a)) (fun i _ => ⟨rfl, rfl⟩) (fun _ _ => rfl) (Nat.lt_succ_self _) H locs ls hP hD hS (lv_sub hl [1, 2, 0] rfl)
