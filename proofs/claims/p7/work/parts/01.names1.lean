-- ===== PART A: goes FIRST, ahead of the names: the tables' words, and 'selects' of the private methods out of them =====
/-- a private method of a class that the tables say can be made, by its rows of tables_1 -/
def lw_okq (q : MethodName × Nat) : Prop := (q.1.cls ≠ "java/lang/invoke/MethodHandle" ∧ q.1.cls ≠ "java/lang/invoke/VarHandle") ∧ Cond.instantiable q.1.cls q.2 ∈ tables_1 ∧ Cond.privateMethod q.1 ∈ tables_1 ∧ Cond.instanceMethod q.1 ∈ tables_1
theorem lw_p0 : lw_okq (⟨"MirrorTower", "refused", "(I)I"⟩, 5) := ⟨⟨by decide +kernel, by decide +kernel⟩, List.mem_of_getElem? (i := 12) (by decide +kernel), List.mem_of_getElem? (i := 200) (by decide +kernel), List.mem_of_getElem? (i := 201) (by decide +kernel)⟩
theorem lw_p1 : lw_okq (⟨"MirrorTower$Field", "isBetween", "(II)Z"⟩, 11) := ⟨⟨by decide +kernel, by decide +kernel⟩, List.mem_of_getElem? (i := 20) (by decide +kernel), List.mem_of_getElem? (i := 216) (by decide +kernel), List.mem_of_getElem? (i := 217) (by decide +kernel)⟩
theorem lw_p2 : lw_okq (⟨"MirrorTower", "granted", "(I)I"⟩, 5) := ⟨⟨by decide +kernel, by decide +kernel⟩, List.mem_of_getElem? (i := 12) (by decide +kernel), List.mem_of_getElem? (i := 220) (by decide +kernel), List.mem_of_getElem? (i := 221) (by decide +kernel)⟩
theorem lw_p3 : lw_okq (⟨"MirrorTower", "denied", "(I)Z"⟩, 5) := ⟨⟨by decide +kernel, by decide +kernel⟩, List.mem_of_getElem? (i := 12) (by decide +kernel), List.mem_of_getElem? (i := 231) (by decide +kernel), List.mem_of_getElem? (i := 232) (by decide +kernel)⟩
theorem lw_p4 : lw_okq (⟨"MirrorTower", "allowed", "()Z"⟩, 5) := ⟨⟨by decide +kernel, by decide +kernel⟩, List.mem_of_getElem? (i := 12) (by decide +kernel), List.mem_of_getElem? (i := 239) (by decide +kernel), List.mem_of_getElem? (i := 240) (by decide +kernel)⟩
theorem lw_p5 : lw_okq (⟨"MirrorTower", "isMirror", "(I)Z"⟩, 5) := ⟨⟨by decide +kernel, by decide +kernel⟩, List.mem_of_getElem? (i := 12) (by decide +kernel), List.mem_of_getElem? (i := 282) (by decide +kernel), List.mem_of_getElem? (i := 283) (by decide +kernel)⟩
theorem lw_p6 : lw_okq (⟨"MirrorTower$Field", "mostSoiled", "()I"⟩, 11) := ⟨⟨by decide +kernel, by decide +kernel⟩, List.mem_of_getElem? (i := 20) (by decide +kernel), List.mem_of_getElem? (i := 335) (by decide +kernel), List.mem_of_getElem? (i := 336) (by decide +kernel)⟩
theorem lw_p7 : lw_okq (⟨"MirrorTower$Face", "readPowers", "(II)V"⟩, 11) := ⟨⟨by decide +kernel, by decide +kernel⟩, List.mem_of_getElem? (i := 61) (by decide +kernel), List.mem_of_getElem? (i := 351) (by decide +kernel), List.mem_of_getElem? (i := 352) (by decide +kernel)⟩
theorem lw_p8 : lw_okq (⟨"MirrorTower$Face", "rank", "()V"⟩, 11) := ⟨⟨by decide +kernel, by decide +kernel⟩, List.mem_of_getElem? (i := 61) (by decide +kernel), List.mem_of_getElem? (i := 357) (by decide +kernel), List.mem_of_getElem? (i := 358) (by decide +kernel)⟩
theorem lw_p9 : lw_okq (⟨"MirrorTower$Face", "roomiestCell", "()I"⟩, 11) := ⟨⟨by decide +kernel, by decide +kernel⟩, List.mem_of_getElem? (i := 61) (by decide +kernel), List.mem_of_getElem? (i := 364) (by decide +kernel), List.mem_of_getElem? (i := 365) (by decide +kernel)⟩
theorem lw_p10 : lw_okq (⟨"MirrorTower$Face", "addUpSets", "(I)V"⟩, 11) := ⟨⟨by decide +kernel, by decide +kernel⟩, List.mem_of_getElem? (i := 61) (by decide +kernel), List.mem_of_getElem? (i := 393) (by decide +kernel), List.mem_of_getElem? (i := 394) (by decide +kernel)⟩
theorem lw_p11 : lw_okq (⟨"MirrorTower$Face", "widen", "(II)V"⟩, 11) := ⟨⟨by decide +kernel, by decide +kernel⟩, List.mem_of_getElem? (i := 61) (by decide +kernel), List.mem_of_getElem? (i := 397) (by decide +kernel), List.mem_of_getElem? (i := 398) (by decide +kernel)⟩
theorem lw_p12 : lw_okq (⟨"MirrorTower$Store", "lookAhead", "()V"⟩, 14) := ⟨⟨by decide +kernel, by decide +kernel⟩, List.mem_of_getElem? (i := 105) (by decide +kernel), List.mem_of_getElem? (i := 419) (by decide +kernel), List.mem_of_getElem? (i := 420) (by decide +kernel)⟩
theorem lw_p13 : lw_okq (⟨"MirrorTower$Store", "weighHour", "(I)V"⟩, 14) := ⟨⟨by decide +kernel, by decide +kernel⟩, List.mem_of_getElem? (i := 105) (by decide +kernel), List.mem_of_getElem? (i := 428) (by decide +kernel), List.mem_of_getElem? (i := 429) (by decide +kernel)⟩
theorem lw_p14 : lw_okq (⟨"MirrorTower$Store", "weigh", "(IIZ)V"⟩, 14) := ⟨⟨by decide +kernel, by decide +kernel⟩, List.mem_of_getElem? (i := 105) (by decide +kernel), List.mem_of_getElem? (i := 432) (by decide +kernel), List.mem_of_getElem? (i := 433) (by decide +kernel)⟩
theorem lw_p15 : lw_okq (⟨"MirrorTower$Store", "gainOf", "(I)I"⟩, 14) := ⟨⟨by decide +kernel, by decide +kernel⟩, List.mem_of_getElem? (i := 105) (by decide +kernel), List.mem_of_getElem? (i := 442) (by decide +kernel), List.mem_of_getElem? (i := 443) (by decide +kernel)⟩
def lw_privs_1 : List (MethodName × Nat) := [(⟨"MirrorTower", "refused", "(I)I"⟩, 5), (⟨"MirrorTower$Field", "isBetween", "(II)Z"⟩, 11), (⟨"MirrorTower", "granted", "(I)I"⟩, 5), (⟨"MirrorTower", "denied", "(I)Z"⟩, 5), (⟨"MirrorTower", "allowed", "()Z"⟩, 5), (⟨"MirrorTower", "isMirror", "(I)Z"⟩, 5), (⟨"MirrorTower$Field", "mostSoiled", "()I"⟩, 11), (⟨"MirrorTower$Face", "readPowers", "(II)V"⟩, 11), (⟨"MirrorTower$Face", "rank", "()V"⟩, 11), (⟨"MirrorTower$Face", "roomiestCell", "()I"⟩, 11), (⟨"MirrorTower$Face", "addUpSets", "(I)V"⟩, 11), (⟨"MirrorTower$Face", "widen", "(II)V"⟩, 11), (⟨"MirrorTower$Store", "lookAhead", "()V"⟩, 14), (⟨"MirrorTower$Store", "weighHour", "(I)V"⟩, 14), (⟨"MirrorTower$Store", "weigh", "(IIZ)V"⟩, 14), (⟨"MirrorTower$Store", "gainOf", "(I)I"⟩, 14)]
theorem lw_r1 : ∀ q ∈ lw_privs_1, lw_okq q := List.forall_mem_cons.mpr ⟨lw_p0, List.forall_mem_cons.mpr ⟨lw_p1, List.forall_mem_cons.mpr ⟨lw_p2, List.forall_mem_cons.mpr ⟨lw_p3, List.forall_mem_cons.mpr ⟨lw_p4, List.forall_mem_cons.mpr ⟨lw_p5, List.forall_mem_cons.mpr ⟨lw_p6, List.forall_mem_cons.mpr ⟨lw_p7, List.forall_mem_cons.mpr ⟨lw_p8, List.forall_mem_cons.mpr ⟨lw_p9, List.forall_mem_cons.mpr ⟨lw_p10, List.forall_mem_cons.mpr ⟨lw_p11, List.forall_mem_cons.mpr ⟨lw_p12, List.forall_mem_cons.mpr ⟨lw_p13, List.forall_mem_cons.mpr ⟨lw_p14, List.forall_mem_cons.mpr ⟨lw_p15, fun _ h => absurd h List.not_mem_nil⟩⟩⟩⟩⟩⟩⟩⟩⟩⟩⟩⟩⟩⟩⟩⟩
theorem lw_p16 : lw_okq (⟨"MirrorTower$Store", "followChoices", "()V"⟩, 14) := ⟨⟨by decide +kernel, by decide +kernel⟩, List.mem_of_getElem? (i := 105) (by decide +kernel), List.mem_of_getElem? (i := 446) (by decide +kernel), List.mem_of_getElem? (i := 447) (by decide +kernel)⟩
theorem lw_p17 : lw_okq (⟨"MirrorTower$Shots", "tally", "(I)V"⟩, 5) := ⟨⟨by decide +kernel, by decide +kernel⟩, List.mem_of_getElem? (i := 155) (by decide +kernel), List.mem_of_getElem? (i := 517) (by decide +kernel), List.mem_of_getElem? (i := 518) (by decide +kernel)⟩
theorem lw_p18 : lw_okq (⟨"MirrorTower$Shots", "isSure", "(I)Z"⟩, 5) := ⟨⟨by decide +kernel, by decide +kernel⟩, List.mem_of_getElem? (i := 155) (by decide +kernel), List.mem_of_getElem? (i := 529) (by decide +kernel), List.mem_of_getElem? (i := 530) (by decide +kernel)⟩
theorem lw_p19 : lw_okq (⟨"MirrorTowerModel", "refused", "(I)I"⟩, 33) := ⟨⟨by decide +kernel, by decide +kernel⟩, List.mem_of_getElem? (i := 561) (by decide +kernel), List.mem_of_getElem? (i := 675) (by decide +kernel), List.mem_of_getElem? (i := 676) (by decide +kernel)⟩
theorem lw_p20 : lw_okq (⟨"MirrorTowerModel", "done", "(I)I"⟩, 33) := ⟨⟨by decide +kernel, by decide +kernel⟩, List.mem_of_getElem? (i := 561) (by decide +kernel), List.mem_of_getElem? (i := 679) (by decide +kernel), List.mem_of_getElem? (i := 680) (by decide +kernel)⟩
theorem lw_p21 : lw_okq (⟨"MirrorTowerModel", "denied", "(I)Z"⟩, 33) := ⟨⟨by decide +kernel, by decide +kernel⟩, List.mem_of_getElem? (i := 561) (by decide +kernel), List.mem_of_getElem? (i := 690) (by decide +kernel), List.mem_of_getElem? (i := 691) (by decide +kernel)⟩
theorem lw_p22 : lw_okq (⟨"MirrorTowerModel", "granted", "()Z"⟩, 33) := ⟨⟨by decide +kernel, by decide +kernel⟩, List.mem_of_getElem? (i := 561) (by decide +kernel), List.mem_of_getElem? (i := 694) (by decide +kernel), List.mem_of_getElem? (i := 695) (by decide +kernel)⟩
theorem lw_p23 : lw_okq (⟨"MirrorTowerModel", "isMirror", "(I)Z"⟩, 33) := ⟨⟨by decide +kernel, by decide +kernel⟩, List.mem_of_getElem? (i := 561) (by decide +kernel), List.mem_of_getElem? (i := 718) (by decide +kernel), List.mem_of_getElem? (i := 719) (by decide +kernel)⟩
theorem lw_p24 : lw_okq (⟨"MirrorTowerModel", "blocks", "(I)I"⟩, 33) := ⟨⟨by decide +kernel, by decide +kernel⟩, List.mem_of_getElem? (i := 561) (by decide +kernel), List.mem_of_getElem? (i := 722) (by decide +kernel), List.mem_of_getElem? (i := 723) (by decide +kernel)⟩
theorem lw_p25 : lw_okq (⟨"MirrorTowerModel", "shades", "(II)I"⟩, 33) := ⟨⟨by decide +kernel, by decide +kernel⟩, List.mem_of_getElem? (i := 561) (by decide +kernel), List.mem_of_getElem? (i := 726) (by decide +kernel), List.mem_of_getElem? (i := 727) (by decide +kernel)⟩
theorem lw_p26 : lw_okq (⟨"MirrorTowerModel", "powerOf", "(III)I"⟩, 33) := ⟨⟨by decide +kernel, by decide +kernel⟩, List.mem_of_getElem? (i := 561) (by decide +kernel), List.mem_of_getElem? (i := 734) (by decide +kernel), List.mem_of_getElem? (i := 735) (by decide +kernel)⟩
theorem lw_p27 : lw_okq (⟨"MirrorTowerModel", "isStowed", "(I)Z"⟩, 33) := ⟨⟨by decide +kernel, by decide +kernel⟩, List.mem_of_getElem? (i := 561) (by decide +kernel), List.mem_of_getElem? (i := 738) (by decide +kernel), List.mem_of_getElem? (i := 739) (by decide +kernel)⟩
theorem lw_p28 : lw_okq (⟨"MirrorTowerModel", "aims", "(II)I"⟩, 33) := ⟨⟨by decide +kernel, by decide +kernel⟩, List.mem_of_getElem? (i := 561) (by decide +kernel), List.mem_of_getElem? (i := 760) (by decide +kernel), List.mem_of_getElem? (i := 761) (by decide +kernel)⟩
theorem lw_p29 : lw_okq (⟨"MirrorTowerModel", "orders", "(II)V"⟩, 33) := ⟨⟨by decide +kernel, by decide +kernel⟩, List.mem_of_getElem? (i := 561) (by decide +kernel), List.mem_of_getElem? (i := 764) (by decide +kernel), List.mem_of_getElem? (i := 765) (by decide +kernel)⟩
theorem lw_p30 : lw_okq (⟨"MirrorTowerModel", "tries", "(II)V"⟩, 33) := ⟨⟨by decide +kernel, by decide +kernel⟩, List.mem_of_getElem? (i := 561) (by decide +kernel), List.mem_of_getElem? (i := 780) (by decide +kernel), List.mem_of_getElem? (i := 781) (by decide +kernel)⟩
theorem lw_p31 : lw_okq (⟨"MirrorTowerModel", "agreeing", "()I"⟩, 33) := ⟨⟨by decide +kernel, by decide +kernel⟩, List.mem_of_getElem? (i := 561) (by decide +kernel), List.mem_of_getElem? (i := 830) (by decide +kernel), List.mem_of_getElem? (i := 831) (by decide +kernel)⟩
def lw_privs_2 : List (MethodName × Nat) := [(⟨"MirrorTower$Store", "followChoices", "()V"⟩, 14), (⟨"MirrorTower$Shots", "tally", "(I)V"⟩, 5), (⟨"MirrorTower$Shots", "isSure", "(I)Z"⟩, 5), (⟨"MirrorTowerModel", "refused", "(I)I"⟩, 33), (⟨"MirrorTowerModel", "done", "(I)I"⟩, 33), (⟨"MirrorTowerModel", "denied", "(I)Z"⟩, 33), (⟨"MirrorTowerModel", "granted", "()Z"⟩, 33), (⟨"MirrorTowerModel", "isMirror", "(I)Z"⟩, 33), (⟨"MirrorTowerModel", "blocks", "(I)I"⟩, 33), (⟨"MirrorTowerModel", "shades", "(II)I"⟩, 33), (⟨"MirrorTowerModel", "powerOf", "(III)I"⟩, 33), (⟨"MirrorTowerModel", "isStowed", "(I)Z"⟩, 33), (⟨"MirrorTowerModel", "aims", "(II)I"⟩, 33), (⟨"MirrorTowerModel", "orders", "(II)V"⟩, 33), (⟨"MirrorTowerModel", "tries", "(II)V"⟩, 33), (⟨"MirrorTowerModel", "agreeing", "()I"⟩, 33)]
theorem lw_r2 : ∀ q ∈ lw_privs_2, lw_okq q := List.forall_mem_cons.mpr ⟨lw_p16, List.forall_mem_cons.mpr ⟨lw_p17, List.forall_mem_cons.mpr ⟨lw_p18, List.forall_mem_cons.mpr ⟨lw_p19, List.forall_mem_cons.mpr ⟨lw_p20, List.forall_mem_cons.mpr ⟨lw_p21, List.forall_mem_cons.mpr ⟨lw_p22, List.forall_mem_cons.mpr ⟨lw_p23, List.forall_mem_cons.mpr ⟨lw_p24, List.forall_mem_cons.mpr ⟨lw_p25, List.forall_mem_cons.mpr ⟨lw_p26, List.forall_mem_cons.mpr ⟨lw_p27, List.forall_mem_cons.mpr ⟨lw_p28, List.forall_mem_cons.mpr ⟨lw_p29, List.forall_mem_cons.mpr ⟨lw_p30, List.forall_mem_cons.mpr ⟨lw_p31, fun _ h => absurd h List.not_mem_nil⟩⟩⟩⟩⟩⟩⟩⟩⟩⟩⟩⟩⟩⟩⟩⟩
theorem lw_p32 : lw_okq (⟨"MirrorTowerModel", "agrees", "(J)Z"⟩, 33) := ⟨⟨by decide +kernel, by decide +kernel⟩, List.mem_of_getElem? (i := 561) (by decide +kernel), List.mem_of_getElem? (i := 834) (by decide +kernel), List.mem_of_getElem? (i := 835) (by decide +kernel)⟩
def lw_privs_3 : List (MethodName × Nat) := [(⟨"MirrorTowerModel", "agrees", "(J)Z"⟩, 33)]
theorem lw_r3 : ∀ q ∈ lw_privs_3, lw_okq q := List.forall_mem_cons.mpr ⟨lw_p32, fun _ h => absurd h List.not_mem_nil⟩
def lw_privs : List (MethodName × Nat) := lw_privs_1 ++ (lw_privs_2 ++ (lw_privs_3))
def lw_tbl : List Cond := k2_sels lw_privs ++ tables_1
theorem lw_privs_ok : ∀ q ∈ lw_privs, lw_okq q := by
  show ∀ q ∈ lw_privs_1 ++ (lw_privs_2 ++ (lw_privs_3)), lw_okq q
  exact List.forall_mem_append.mpr ⟨lw_r1, List.forall_mem_append.mpr ⟨lw_r2, lw_r3⟩⟩

/-! ===== BEGIN words of one list among another's, by their places ===== -/
theorem goodIn_r {big : List Cond} (ws : List Cond) (ps : List Nat) (hp : ws = ps.filterMap (fun i => big[i]?)) (h : ws.all goodWord = true) : GoodIn big ws := by
  intro w hw
  have h1 := List.all_eq_true.mp h w hw
  rw [hp] at hw
  obtain ⟨i, -, hi⟩ := List.mem_filterMap.mp hw
  have hm : w ∈ big := by first | exact List.mem_of_getElem? hi | exact List.getElem?_mem hi
  exact ⟨hm, good_of_word h1⟩
theorem goodIn_app {big a b : List Cond} (ha : GoodIn big a) (hb : GoodIn big b) : GoodIn big (a ++ b) := fun w h => (List.mem_append.mp h).elim (ha w) (hb w)
theorem goodIn_ca {big a b : List Cond} {c : Cond} (ha : GoodIn big (c :: a)) (hb : GoodIn big b) : GoodIn big (c :: (a ++ b)) := fun w h => (List.mem_cons.mp h).elim (fun e => ha w (List.mem_cons.mpr (Or.inl e))) (fun h => (List.mem_append.mp h).elim (fun h => ha w (List.mem_cons.mpr (Or.inr h))) (hb w))
theorem goodIn_sub {big ws : List Cond} (hm : ∀ w ∈ ws, w ∈ big) (h : ws.all goodWord = true) : GoodIn big ws := fun w hw => ⟨hm w hw, good_of_word (List.all_eq_true.mp h w hw)⟩
/-! ===== END ===== -/

/-! ===== BEGIN printed: names, fields, word lists, decode rows ===== -/
def RX0 : String := "MirrorTower$Face"
def TX0 : u_T := fun k => match k with
  | 0 => ("MirrorTower$Face", "field", "LMirrorTower$Field;", true)
  | 1 => ("MirrorTower$Face", "limits", "[I", true)
  | 2 => ("MirrorTower$Face", "order", "[I", true)
  | 3 => ("MirrorTower$Face", "powers", "[I", true)
  | 4 => ("MirrorTower$Face", "cellOf", "[I", true)
  | 5 => ("MirrorTower$Face", "left", "[I", true)
  | 6 => ("MirrorTower$Face", "keptCells", "[I", true)
  | 7 => ("MirrorTower$Face", "keptPowers", "[I", true)
  | 8 => ("MirrorTower$Face", "keptSize", "I", false)
  | 9 => ("MirrorTower$Face", "setPowers", "[I", true)
  | _ => ("MirrorTower$Face", "fits", "[Z", true)
def tyX0 : Nat → FieldType := fun k => match k with
  | 0 => .object "MirrorTower$Field"
  | 1 => .array .int
  | 2 => .array .int
  | 3 => .array .int
  | 4 => .array .int
  | 5 => .array .int
  | 6 => .array .int
  | 7 => .array .int
  | 8 => .int
  | 9 => .array .int
  | _ => .array .boolean
abbrev wsX00 : List Cond := u_ws RX0 TX0 11
theorem nmX0 : ∀ a, a < 11 → ∀ b, b < 11 → a ≠ b → (TX0 a).2.1 ≠ (TX0 b).2.1 := by decide +kernel
theorem tyX0_ok : ∀ k, k < 11 → parseFieldDescriptor (TX0 k).2.2.1 = some (tyX0 k) := by decide +kernel
abbrev cX0_init : ByteArray := prog_2_method_1_code
def yX0_init : MethodName := ⟨RX0, "<init>", "(LMirrorTower$Field;)V"⟩
abbrev cX0_setLimit : ByteArray := prog_2_method_2_code
def yX0_setLimit : MethodName := ⟨RX0, "setLimit", "(II)V"⟩
abbrev cX0_keepAims : ByteArray := prog_2_method_3_code
def yX0_keepAims : MethodName := ⟨RX0, "keepAims", "(I)I"⟩
abbrev cX0_keptCellOf : ByteArray := prog_2_method_4_code
def yX0_keptCellOf : MethodName := ⟨RX0, "keptCellOf", "(I)I"⟩
abbrev cX0_keptPowerAt : ByteArray := prog_2_method_5_code
def yX0_keptPowerAt : MethodName := ⟨RX0, "keptPowerAt", "(I)I"⟩
abbrev cX0_aimAll : ByteArray := prog_2_method_6_code
def yX0_aimAll : MethodName := ⟨RX0, "aimAll", "(II)I"⟩
abbrev cX0_roomiestCell : ByteArray := prog_2_method_7_code
def yX0_roomiestCell : MethodName := ⟨RX0, "roomiestCell", "()I"⟩
abbrev cX0_readPowers : ByteArray := prog_2_method_8_code
def yX0_readPowers : MethodName := ⟨RX0, "readPowers", "(II)V"⟩
abbrev cX0_rank : ByteArray := prog_2_method_9_code
def yX0_rank : MethodName := ⟨RX0, "rank", "()V"⟩
abbrev cX0_bestHeat : ByteArray := prog_2_method_10_code
def yX0_bestHeat : MethodName := ⟨RX0, "bestHeat", "(I)I"⟩
abbrev cX0_addUpSets : ByteArray := prog_2_method_11_code
def yX0_addUpSets : MethodName := ⟨RX0, "addUpSets", "(I)V"⟩
abbrev cX0_widen : ByteArray := prog_2_method_12_code
def yX0_widen : MethodName := ⟨RX0, "widen", "(II)V"⟩
def RX1 : String := "MirrorTower$Field"
def TX1 : u_T := fun k => match k with
  | 0 => ("MirrorTower$Field", "taken", "[I", true)
  | 1 => ("MirrorTower$Field", "xs", "[I", true)
  | 2 => ("MirrorTower$Field", "ys", "[I", true)
  | 3 => ("MirrorTower$Field", "blockers", "[I", true)
  | 4 => ("MirrorTower$Field", "soils", "[I", true)
  | 5 => ("MirrorTower$Field", "size", "I", false)
  | 6 => ("MirrorTower$Field", "stepsX", "[I", true)
  | 7 => ("MirrorTower$Field", "stepsY", "[I", true)
  | 8 => ("MirrorTower$Field", "heights", "[I", true)
  | 9 => ("MirrorTower$Field", "winds", "[I", true)
  | _ => ("MirrorTower$Field", "dustAnHour", "I", false)
def tyX1 : Nat → FieldType := fun k => match k with
  | 0 => .array .int
  | 1 => .array .int
  | 2 => .array .int
  | 3 => .array .int
  | 4 => .array .int
  | 5 => .int
  | 6 => .array .int
  | 7 => .array .int
  | 8 => .array .int
  | 9 => .array .int
  | _ => .int
abbrev wsX10 : List Cond := u_ws RX1 TX1 11
theorem nmX1 : ∀ a, a < 11 → ∀ b, b < 11 → a ≠ b → (TX1 a).2.1 ≠ (TX1 b).2.1 := by decide +kernel
theorem tyX1_ok : ∀ k, k < 11 → parseFieldDescriptor (TX1 k).2.2.1 = some (tyX1 k) := by decide +kernel
abbrev cX1_init : ByteArray := prog_3_method_1_code
def yX1_init : MethodName := ⟨RX1, "<init>", "()V"⟩
abbrev cX1_size : ByteArray := prog_3_method_2_code
def yX1_size : MethodName := ⟨RX1, "size", "()I"⟩
abbrev cX1_isTaken : ByteArray := prog_3_method_3_code
def yX1_isTaken : MethodName := ⟨RX1, "isTaken", "(II)Z"⟩
abbrev cX1_place : ByteArray := prog_3_method_4_code
def yX1_place : MethodName := ⟨RX1, "place", "(II)I"⟩
abbrev cX1_isBetween : ByteArray := prog_3_method_5_code
def yX1_isBetween : MethodName := ⟨RX1, "isBetween", "(II)Z"⟩
abbrev cX1_setSun : ByteArray := prog_3_method_6_code
def yX1_setSun : MethodName := ⟨RX1, "setSun", "(IIII)V"⟩
abbrev cX1_setWind : ByteArray := prog_3_method_7_code
def yX1_setWind : MethodName := ⟨RX1, "setWind", "(II)V"⟩
abbrev cX1_setDust : ByteArray := prog_3_method_8_code
def yX1_setDust : MethodName := ⟨RX1, "setDust", "(I)V"⟩
abbrev cX1_blockersOf : ByteArray := prog_3_method_9_code
def yX1_blockersOf : MethodName := ⟨RX1, "blockersOf", "(I)I"⟩
abbrev cX1_shadersOf : ByteArray := prog_3_method_10_code
def yX1_shadersOf : MethodName := ⟨RX1, "shadersOf", "(II)I"⟩
abbrev cX1_isStowed : ByteArray := prog_3_method_11_code
def yX1_isStowed : MethodName := ⟨RX1, "isStowed", "(I)Z"⟩
abbrev cX1_powerOf : ByteArray := prog_3_method_12_code
def yX1_powerOf : MethodName := ⟨RX1, "powerOf", "(III)I"⟩
abbrev cX1_soilOf : ByteArray := prog_3_method_13_code
def yX1_soilOf : MethodName := ⟨RX1, "soilOf", "(II)I"⟩
abbrev cX1_soilInAll : ByteArray := prog_3_method_14_code
def yX1_soilInAll : MethodName := ⟨RX1, "soilInAll", "()I"⟩
abbrev cX1_growSoil : ByteArray := prog_3_method_15_code
def yX1_growSoil : MethodName := ⟨RX1, "growSoil", "()V"⟩
abbrev cX1_washMost : ByteArray := prog_3_method_16_code
def yX1_washMost : MethodName := ⟨RX1, "washMost", "(I)I"⟩
abbrev cX1_mostSoiled : ByteArray := prog_3_method_17_code
def yX1_mostSoiled : MethodName := ⟨RX1, "mostSoiled", "()I"⟩
def RX2 : String := "MirrorTower$Shots"
def TX2 : u_T := fun k => match k with
  | 0 => ("MirrorTower$Shots", "marks", "[I", true)
  | 1 => ("MirrorTower$Shots", "missing", "I", false)
  | 2 => ("MirrorTower$Shots", "size", "I", false)
  | 3 => ("MirrorTower$Shots", "sets", "I", false)
  | _ => ("MirrorTower$Shots", "setsWith", "[I", true)
def tyX2 : Nat → FieldType := fun k => match k with
  | 0 => .array .int
  | 1 => .int
  | 2 => .int
  | 3 => .int
  | _ => .array .int
abbrev wsX20 : List Cond := u_ws RX2 TX2 5
theorem nmX2 : ∀ a, a < 5 → ∀ b, b < 5 → a ≠ b → (TX2 a).2.1 ≠ (TX2 b).2.1 := by decide +kernel
theorem tyX2_ok : ∀ k, k < 5 → parseFieldDescriptor (TX2 k).2.2.1 = some (tyX2 k) := by decide +kernel
abbrev cX2_init : ByteArray := prog_4_method_1_code
def yX2_init : MethodName := ⟨RX2, "<init>", "()V"⟩
abbrev cX2_size : ByteArray := prog_4_method_2_code
def yX2_size : MethodName := ⟨RX2, "size", "()I"⟩
abbrev cX2_note : ByteArray := prog_4_method_3_code
def yX2_note : MethodName := ⟨RX2, "note", "(JI)I"⟩
abbrev cX2_drop : ByteArray := prog_4_method_4_code
def yX2_drop : MethodName := ⟨RX2, "drop", "()I"⟩
abbrev cX2_setsOf : ByteArray := prog_4_method_5_code
def yX2_setsOf : MethodName := ⟨RX2, "setsOf", "(I)I"⟩
abbrev cX2_verdictOn : ByteArray := prog_4_method_6_code
def yX2_verdictOn : MethodName := ⟨RX2, "verdictOn", "(II)I"⟩
abbrev cX2_unsureOf : ByteArray := prog_4_method_7_code
def yX2_unsureOf : MethodName := ⟨RX2, "unsureOf", "(I)I"⟩
abbrev cX2_isSure : ByteArray := prog_4_method_8_code
def yX2_isSure : MethodName := ⟨RX2, "isSure", "(I)Z"⟩
abbrev cX2_tally : ByteArray := prog_4_method_9_code
def yX2_tally : MethodName := ⟨RX2, "tally", "(I)V"⟩
def RX3 : String := "MirrorTower$Store"
def TX3 : u_T := fun k => match k with
  | 0 => ("MirrorTower$Store", "field", "LMirrorTower$Field;", true)
  | 1 => ("MirrorTower$Store", "cells", "LMirrorTower$Face;", true)
  | 2 => ("MirrorTower$Store", "prices", "[I", true)
  | 3 => ("MirrorTower$Store", "now", "I", false)
  | 4 => ("MirrorTower$Store", "units", "I", false)
  | 5 => ("MirrorTower$Store", "warm", "Z", false)
  | 6 => ("MirrorTower$Store", "earnings", "I", false)
  | 7 => ("MirrorTower$Store", "gains", "[I", false)
  | 8 => ("MirrorTower$Store", "laterGains", "[I", false)
  | 9 => ("MirrorTower$Store", "choices", "[I", true)
  | 10 => ("MirrorTower$Store", "unitsIn", "[I", true)
  | 11 => ("MirrorTower$Store", "mostHeld", "[I", true)
  | 12 => ("MirrorTower$Store", "planned", "I", false)
  | _ => ("MirrorTower$Store", "plannedFrom", "I", false)
def tyX3 : Nat → FieldType := fun k => match k with
  | 0 => .object "MirrorTower$Field"
  | 1 => .object "MirrorTower$Face"
  | 2 => .array .int
  | 3 => .int
  | 4 => .int
  | 5 => .boolean
  | 6 => .int
  | 7 => .array .int
  | 8 => .array .int
  | 9 => .array .int
  | 10 => .array .int
  | 11 => .array .int
  | 12 => .int
  | _ => .int
abbrev wsX30 : List Cond := u_ws RX3 TX3 14
theorem nmX3 : ∀ a, a < 14 → ∀ b, b < 14 → a ≠ b → (TX3 a).2.1 ≠ (TX3 b).2.1 := by decide +kernel
theorem tyX3_ok : ∀ k, k < 14 → parseFieldDescriptor (TX3 k).2.2.1 = some (tyX3 k) := by decide +kernel
abbrev cX3_init : ByteArray := prog_5_method_1_code
def yX3_init : MethodName := ⟨RX3, "<init>", "(LMirrorTower$Field;LMirrorTower$Face;)V"⟩
abbrev cX3_setPrice : ByteArray := prog_5_method_2_code
def yX3_setPrice : MethodName := ⟨RX3, "setPrice", "(II)V"⟩
abbrev cX3_hourNow : ByteArray := prog_5_method_3_code
def yX3_hourNow : MethodName := ⟨RX3, "hourNow", "()I"⟩
abbrev cX3_unitsHeld : ByteArray := prog_5_method_4_code
def yX3_unitsHeld : MethodName := ⟨RX3, "unitsHeld", "()I"⟩
abbrev cX3_isWarm : ByteArray := prog_5_method_5_code
def yX3_isWarm : MethodName := ⟨RX3, "isWarm", "()Z"⟩
abbrev cX3_earnedInAll : ByteArray := prog_5_method_6_code
def yX3_earnedInAll : MethodName := ⟨RX3, "earnedInAll", "()I"⟩
abbrev cX3_passHour : ByteArray := prog_5_method_7_code
def yX3_passHour : MethodName := ⟨RX3, "passHour", "(Z)I"⟩
abbrev cX3_filled : ByteArray := prog_5_method_8_code
def yX3_filled : MethodName := ⟨RX3, "filled", "(II)I"⟩
abbrev cX3_needed : ByteArray := prog_5_method_9_code
def yX3_needed : MethodName := ⟨RX3, "needed", "(Z)I"⟩
abbrev cX3_gainOf : ByteArray := prog_5_method_10_code
def yX3_gainOf : MethodName := ⟨RX3, "gainOf", "(I)I"⟩
abbrev cX3_plannedRun : ByteArray := prog_5_method_11_code
def yX3_plannedRun : MethodName := ⟨RX3, "plannedRun", "(I)I"⟩
abbrev cX3_layPlan : ByteArray := prog_5_method_12_code
def yX3_layPlan : MethodName := ⟨RX3, "layPlan", "()I"⟩
abbrev cX3_lookAhead : ByteArray := prog_5_method_13_code
def yX3_lookAhead : MethodName := ⟨RX3, "lookAhead", "()V"⟩
abbrev cX3_weighHour : ByteArray := prog_5_method_14_code
def yX3_weighHour : MethodName := ⟨RX3, "weighHour", "(I)V"⟩
abbrev cX3_weigh : ByteArray := prog_5_method_15_code
def yX3_weigh : MethodName := ⟨RX3, "weigh", "(IIZ)V"⟩
abbrev cX3_followChoices : ByteArray := prog_5_method_16_code
def yX3_followChoices : MethodName := ⟨RX3, "followChoices", "()V"⟩
abbrev cX3_stateOf : ByteArray := prog_5_method_17_code
def yX3_stateOf : MethodName := ⟨RX3, "stateOf", "(IZ)I"⟩
def RX4 : String := "MirrorTower"
def TX4 : u_T := fun k => match k with
  | 0 => ("MirrorTower", "field", "LMirrorTower$Field;", true)
  | 1 => ("MirrorTower", "cells", "LMirrorTower$Face;", true)
  | 2 => ("MirrorTower", "store", "LMirrorTower$Store;", true)
  | 3 => ("MirrorTower", "shots", "LMirrorTower$Shots;", true)
  | _ => ("MirrorTower", "trouble", "I", false)
def tyX4 : Nat → FieldType := fun k => match k with
  | 0 => .object "MirrorTower$Field"
  | 1 => .object "MirrorTower$Face"
  | 2 => .object "MirrorTower$Store"
  | 3 => .object "MirrorTower$Shots"
  | _ => .int
abbrev wsX40 : List Cond := u_ws RX4 TX4 5
theorem nmX4 : ∀ a, a < 5 → ∀ b, b < 5 → a ≠ b → (TX4 a).2.1 ≠ (TX4 b).2.1 := by decide +kernel
theorem tyX4_ok : ∀ k, k < 5 → parseFieldDescriptor (TX4 k).2.2.1 = some (tyX4 k) := by decide +kernel
abbrev cX4_init : ByteArray := prog_1_method_1_code
def yX4_init : MethodName := ⟨RX4, "<init>", "()V"⟩
abbrev cX4_mirror : ByteArray := prog_1_method_2_code
def yX4_mirror : MethodName := ⟨RX4, "mirror", "(II)I"⟩
abbrev cX4_sun : ByteArray := prog_1_method_3_code
def yX4_sun : MethodName := ⟨RX4, "sun", "(IIII)Z"⟩
abbrev cX4_limit : ByteArray := prog_1_method_4_code
def yX4_limit : MethodName := ⟨RX4, "limit", "(II)Z"⟩
abbrev cX4_wind : ByteArray := prog_1_method_5_code
def yX4_wind : MethodName := ⟨RX4, "wind", "(II)Z"⟩
abbrev cX4_price : ByteArray := prog_1_method_6_code
def yX4_price : MethodName := ⟨RX4, "price", "(II)Z"⟩
abbrev cX4_dust : ByteArray := prog_1_method_7_code
def yX4_dust : MethodName := ⟨RX4, "dust", "(I)Z"⟩
abbrev cX4_shaded : ByteArray := prog_1_method_8_code
def yX4_shaded : MethodName := ⟨RX4, "shaded", "(IIZ)I"⟩
abbrev cX4_power : ByteArray := prog_1_method_9_code
def yX4_power : MethodName := ⟨RX4, "power", "(II)I"⟩
abbrev cX4_stowed : ByteArray := prog_1_method_10_code
def yX4_stowed : MethodName := ⟨RX4, "stowed", "(I)I"⟩
abbrev cX4_soil : ByteArray := prog_1_method_11_code
def yX4_soil : MethodName := ⟨RX4, "soil", "(I)I"⟩
abbrev cX4_wash : ByteArray := prog_1_method_12_code
def yX4_wash : MethodName := ⟨RX4, "wash", "(I)I"⟩
abbrev cX4_aim : ByteArray := prog_1_method_13_code
def yX4_aim : MethodName := ⟨RX4, "aim", "(I)I"⟩
abbrev cX4_aimed : ByteArray := prog_1_method_14_code
def yX4_aimed : MethodName := ⟨RX4, "aimed", "(I)I"⟩
abbrev cX4_face : ByteArray := prog_1_method_15_code
def yX4_face : MethodName := ⟨RX4, "face", "(I)I"⟩
abbrev cX4_best : ByteArray := prog_1_method_16_code
def yX4_best : MethodName := ⟨RX4, "best", "(I)I"⟩
abbrev cX4_comes : ByteArray := prog_1_method_17_code
def yX4_comes : MethodName := ⟨RX4, "comes", "(I)I"⟩
abbrev cX4_plan : ByteArray := prog_1_method_18_code
def yX4_plan : MethodName := ⟨RX4, "plan", "()I"⟩
abbrev cX4_runs : ByteArray := prog_1_method_19_code
def yX4_runs : MethodName := ⟨RX4, "runs", "(I)I"⟩
abbrev cX4_step : ByteArray := prog_1_method_20_code
def yX4_step : MethodName := ⟨RX4, "step", "(Z)I"⟩
abbrev cX4_earned : ByteArray := prog_1_method_21_code
def yX4_earned : MethodName := ⟨RX4, "earned", "()I"⟩
abbrev cX4_shot : ByteArray := prog_1_method_22_code
def yX4_shot : MethodName := ⟨RX4, "shot", "(III)I"⟩
abbrev cX4_forget : ByteArray := prog_1_method_23_code
def yX4_forget : MethodName := ⟨RX4, "forget", "()I"⟩
abbrev cX4_agree : ByteArray := prog_1_method_24_code
def yX4_agree : MethodName := ⟨RX4, "agree", "()I"⟩
abbrev cX4_stuck : ByteArray := prog_1_method_25_code
def yX4_stuck : MethodName := ⟨RX4, "stuck", "(I)I"⟩
abbrev cX4_unsure : ByteArray := prog_1_method_26_code
def yX4_unsure : MethodName := ⟨RX4, "unsure", "()I"⟩
abbrev cX4_count : ByteArray := prog_1_method_27_code
def yX4_count : MethodName := ⟨RX4, "count", "(I)I"⟩
abbrev cX4_trouble : ByteArray := prog_1_method_28_code
def yX4_trouble : MethodName := ⟨RX4, "trouble", "()I"⟩
abbrev cX4_isMirror : ByteArray := prog_1_method_29_code
def yX4_isMirror : MethodName := ⟨RX4, "isMirror", "(I)Z"⟩
abbrev cX4_isHour : ByteArray := prog_1_method_30_code
def yX4_isHour : MethodName := ⟨RX4, "isHour", "(I)Z"⟩
abbrev cX4_isCell : ByteArray := prog_1_method_31_code
def yX4_isCell : MethodName := ⟨RX4, "isCell", "(I)Z"⟩
abbrev cX4_isWithin : ByteArray := prog_1_method_32_code
def yX4_isWithin : MethodName := ⟨RX4, "isWithin", "(III)Z"⟩
abbrev cX4_granted : ByteArray := prog_1_method_33_code
def yX4_granted : MethodName := ⟨RX4, "granted", "(I)I"⟩
abbrev cX4_refused : ByteArray := prog_1_method_34_code
def yX4_refused : MethodName := ⟨RX4, "refused", "(I)I"⟩
abbrev cX4_allowed : ByteArray := prog_1_method_35_code
def yX4_allowed : MethodName := ⟨RX4, "allowed", "()Z"⟩
abbrev cX4_denied : ByteArray := prog_1_method_36_code
def yX4_denied : MethodName := ⟨RX4, "denied", "(I)Z"⟩
def RX5 : String := "MirrorTowerModel"
def TX5 : u_T := fun k => match k with
  | 0 => ("MirrorTowerModel", "thrown", "I", false)
  | 1 => ("MirrorTowerModel", "trouble", "I", false)
  | 2 => ("MirrorTowerModel", "mirrors", "I", false)
  | 3 => ("MirrorTowerModel", "now", "I", false)
  | 4 => ("MirrorTowerModel", "store", "I", false)
  | 5 => ("MirrorTowerModel", "earned", "I", false)
  | 6 => ("MirrorTowerModel", "dust", "I", false)
  | 7 => ("MirrorTowerModel", "isWarm", "Z", false)
  | 8 => ("MirrorTowerModel", "x", "[I", true)
  | 9 => ("MirrorTowerModel", "y", "[I", true)
  | 10 => ("MirrorTowerModel", "soil", "[I", true)
  | 11 => ("MirrorTowerModel", "limit", "[I", true)
  | 12 => ("MirrorTowerModel", "sunX", "[I", true)
  | 13 => ("MirrorTowerModel", "sunY", "[I", true)
  | 14 => ("MirrorTowerModel", "height", "[I", true)
  | 15 => ("MirrorTowerModel", "wind", "[I", true)
  | 16 => ("MirrorTowerModel", "price", "[I", true)
  | 17 => ("MirrorTowerModel", "order", "[I", true)
  | 18 => ("MirrorTowerModel", "power", "[I", true)
  | 19 => ("MirrorTowerModel", "left", "[I", true)
  | 20 => ("MirrorTowerModel", "aimed", "[I", true)
  | 21 => ("MirrorTowerModel", "at", "[I", true)
  | 22 => ("MirrorTowerModel", "atFace", "[I", true)
  | 23 => ("MirrorTowerModel", "aimedMirrors", "I", false)
  | 24 => ("MirrorTowerModel", "most", "I", false)
  | 25 => ("MirrorTowerModel", "worth", "[I", true)
  | 26 => ("MirrorTowerModel", "isRun", "[Z", true)
  | 27 => ("MirrorTowerModel", "planFrom", "I", false)
  | 28 => ("MirrorTowerModel", "comeUnits", "[I", true)
  | 29 => ("MirrorTowerModel", "shot", "[J", true)
  | 30 => ("MirrorTowerModel", "hits", "[I", true)
  | 31 => ("MirrorTowerModel", "shots", "I", false)
  | _ => ("MirrorTowerModel", "inSets", "[I", true)
def tyX5 : Nat → FieldType := fun k => match k with
  | 0 => .int
  | 1 => .int
  | 2 => .int
  | 3 => .int
  | 4 => .int
  | 5 => .int
  | 6 => .int
  | 7 => .boolean
  | 8 => .array .int
  | 9 => .array .int
  | 10 => .array .int
  | 11 => .array .int
  | 12 => .array .int
  | 13 => .array .int
  | 14 => .array .int
  | 15 => .array .int
  | 16 => .array .int
  | 17 => .array .int
  | 18 => .array .int
  | 19 => .array .int
  | 20 => .array .int
  | 21 => .array .int
  | 22 => .array .int
  | 23 => .int
  | 24 => .int
  | 25 => .array .int
  | 26 => .array .boolean
  | 27 => .int
  | 28 => .array .int
  | 29 => .array .long
  | 30 => .array .int
  | 31 => .int
  | _ => .array .int
abbrev wsX50 : List Cond := u_ws RX5 TX5 33
theorem nmX5 : ∀ a, a < 33 → ∀ b, b < 33 → a ≠ b → (TX5 a).2.1 ≠ (TX5 b).2.1 := by decide +kernel
theorem tyX5_ok : ∀ k, k < 33 → parseFieldDescriptor (TX5 k).2.2.1 = some (tyX5 k) := by decide +kernel
abbrev cX5_refused : ByteArray := prog_7_method_2_code
def yX5_refused : MethodName := ⟨RX5, "refused", "(I)I"⟩
abbrev cX5_denied : ByteArray := prog_7_method_3_code
def yX5_denied : MethodName := ⟨RX5, "denied", "(I)Z"⟩
abbrev cX5_done : ByteArray := prog_7_method_4_code
def yX5_done : MethodName := ⟨RX5, "done", "(I)I"⟩
abbrev cX5_granted : ByteArray := prog_7_method_5_code
def yX5_granted : MethodName := ⟨RX5, "granted", "()Z"⟩
abbrev cX5_in : ByteArray := prog_7_method_6_code
def yX5_in : MethodName := ⟨RX5, "in", "(III)Z"⟩
abbrev cX5_init : ByteArray := prog_7_method_7_code
def yX5_init : MethodName := ⟨RX5, "<init>", "()V"⟩
abbrev cX5_isMirror : ByteArray := prog_7_method_8_code
def yX5_isMirror : MethodName := ⟨RX5, "isMirror", "(I)Z"⟩
abbrev cX5_isHour : ByteArray := prog_7_method_9_code
def yX5_isHour : MethodName := ⟨RX5, "isHour", "(I)Z"⟩
abbrev cX5_mirror : ByteArray := prog_7_method_10_code
def yX5_mirror : MethodName := ⟨RX5, "mirror", "(II)I"⟩
abbrev cX5_sun : ByteArray := prog_7_method_11_code
def yX5_sun : MethodName := ⟨RX5, "sun", "(IIII)Z"⟩
abbrev cX5_limit : ByteArray := prog_7_method_12_code
def yX5_limit : MethodName := ⟨RX5, "limit", "(II)Z"⟩
abbrev cX5_wind : ByteArray := prog_7_method_13_code
def yX5_wind : MethodName := ⟨RX5, "wind", "(II)Z"⟩
abbrev cX5_price : ByteArray := prog_7_method_14_code
def yX5_price : MethodName := ⟨RX5, "price", "(II)Z"⟩
abbrev cX5_dust : ByteArray := prog_7_method_15_code
def yX5_dust : MethodName := ⟨RX5, "dust", "(I)Z"⟩
abbrev cX5_shades : ByteArray := prog_7_method_16_code
def yX5_shades : MethodName := ⟨RX5, "shades", "(II)I"⟩
abbrev cX5_blocks : ByteArray := prog_7_method_17_code
def yX5_blocks : MethodName := ⟨RX5, "blocks", "(I)I"⟩
abbrev cX5_shaded : ByteArray := prog_7_method_18_code
def yX5_shaded : MethodName := ⟨RX5, "shaded", "(IIZ)I"⟩
abbrev cX5_isStowed : ByteArray := prog_7_method_19_code
def yX5_isStowed : MethodName := ⟨RX5, "isStowed", "(I)Z"⟩
abbrev cX5_powerOf : ByteArray := prog_7_method_20_code
def yX5_powerOf : MethodName := ⟨RX5, "powerOf", "(III)I"⟩
abbrev cX5_power : ByteArray := prog_7_method_21_code
def yX5_power : MethodName := ⟨RX5, "power", "(II)I"⟩
abbrev cX5_stowed : ByteArray := prog_7_method_22_code
def yX5_stowed : MethodName := ⟨RX5, "stowed", "(I)I"⟩
abbrev cX5_soil : ByteArray := prog_7_method_23_code
def yX5_soil : MethodName := ⟨RX5, "soil", "(I)I"⟩
abbrev cX5_wash : ByteArray := prog_7_method_24_code
def yX5_wash : MethodName := ⟨RX5, "wash", "(I)I"⟩
abbrev cX5_orders : ByteArray := prog_7_method_25_code
def yX5_orders : MethodName := ⟨RX5, "orders", "(II)V"⟩
abbrev cX5_aims : ByteArray := prog_7_method_26_code
def yX5_aims : MethodName := ⟨RX5, "aims", "(II)I"⟩
abbrev cX5_aim : ByteArray := prog_7_method_27_code
def yX5_aim : MethodName := ⟨RX5, "aim", "(I)I"⟩
abbrev cX5_aimed : ByteArray := prog_7_method_28_code
def yX5_aimed : MethodName := ⟨RX5, "aimed", "(I)I"⟩
abbrev cX5_face : ByteArray := prog_7_method_29_code
def yX5_face : MethodName := ⟨RX5, "face", "(I)I"⟩
abbrev cX5_tries : ByteArray := prog_7_method_30_code
def yX5_tries : MethodName := ⟨RX5, "tries", "(II)V"⟩
abbrev cX5_best : ByteArray := prog_7_method_31_code
def yX5_best : MethodName := ⟨RX5, "best", "(I)I"⟩
abbrev cX5_comes : ByteArray := prog_7_method_32_code
def yX5_comes : MethodName := ⟨RX5, "comes", "(I)I"⟩
abbrev cX5_state : ByteArray := prog_7_method_33_code
def yX5_state : MethodName := ⟨RX5, "state", "(IIZ)I"⟩
abbrev cX5_takes : ByteArray := prog_7_method_34_code
def yX5_takes : MethodName := ⟨RX5, "takes", "(Z)I"⟩
abbrev cX5_filled : ByteArray := prog_7_method_35_code
def yX5_filled : MethodName := ⟨RX5, "filled", "(II)I"⟩
abbrev cX5_plan : ByteArray := prog_7_method_36_code
def yX5_plan : MethodName := ⟨RX5, "plan", "()I"⟩
abbrev cX5_runs : ByteArray := prog_7_method_37_code
def yX5_runs : MethodName := ⟨RX5, "runs", "(I)I"⟩
abbrev cX5_step : ByteArray := prog_7_method_38_code
def yX5_step : MethodName := ⟨RX5, "step", "(Z)I"⟩
abbrev cX5_earned : ByteArray := prog_7_method_39_code
def yX5_earned : MethodName := ⟨RX5, "earned", "()I"⟩
abbrev cX5_bits : ByteArray := prog_7_method_40_code
def yX5_bits : MethodName := ⟨RX5, "bits", "(J)I"⟩
abbrev cX5_shot : ByteArray := prog_7_method_41_code
def yX5_shot : MethodName := ⟨RX5, "shot", "(III)I"⟩
abbrev cX5_forget : ByteArray := prog_7_method_42_code
def yX5_forget : MethodName := ⟨RX5, "forget", "()I"⟩
abbrev cX5_agrees : ByteArray := prog_7_method_43_code
def yX5_agrees : MethodName := ⟨RX5, "agrees", "(J)Z"⟩
abbrev cX5_agreeing : ByteArray := prog_7_method_44_code
def yX5_agreeing : MethodName := ⟨RX5, "agreeing", "()I"⟩
abbrev cX5_agree : ByteArray := prog_7_method_45_code
def yX5_agree : MethodName := ⟨RX5, "agree", "()I"⟩
abbrev cX5_stuck : ByteArray := prog_7_method_46_code
def yX5_stuck : MethodName := ⟨RX5, "stuck", "(I)I"⟩
abbrev cX5_unsure : ByteArray := prog_7_method_47_code
def yX5_unsure : MethodName := ⟨RX5, "unsure", "()I"⟩
abbrev cX5_count : ByteArray := prog_7_method_48_code
def yX5_count : MethodName := ⟨RX5, "count", "(I)I"⟩
abbrev cX5_trouble : ByteArray := prog_7_method_49_code
def yX5_trouble : MethodName := ⟨RX5, "trouble", "()I"⟩
def RJ13 : String := "java/lang/Long"
def TJ13 : u_T := fun k => match k with
  | _ => ("", "", "", false)
def tyJ13 : Nat → FieldType := fun k => match k with
  | _ => .int
abbrev wsJ130 : List Cond := u_ws RJ13 TJ13 0
theorem nmJ13 : ∀ a, a < 0 → ∀ b, b < 0 → a ≠ b → (TJ13 a).2.1 ≠ (TJ13 b).2.1 := by decide +kernel
theorem tyJ13_ok : ∀ k, k < 0 → parseFieldDescriptor (TJ13 k).2.2.1 = some (tyJ13 k) := by decide +kernel
abbrev cJ13_bitCount_95d88 : ByteArray := prog_8_method_50_code
def yJ13_bitCount_95d88 : MethodName := ⟨RJ13, "bitCount", "(J)I"⟩
def RJ9 : String := "java/lang/Math"
def TJ9 : u_T := fun k => match k with
  | _ => ("", "", "", false)
def tyJ9 : Nat → FieldType := fun k => match k with
  | _ => .int
abbrev wsJ90 : List Cond := u_ws RJ9 TJ9 0
theorem nmJ9 : ∀ a, a < 0 → ∀ b, b < 0 → a ≠ b → (TJ9 a).2.1 ≠ (TJ9 b).2.1 := by decide +kernel
theorem tyJ9_ok : ∀ k, k < 0 → parseFieldDescriptor (TJ9 k).2.2.1 = some (tyJ9 k) := by decide +kernel
abbrev cJ9_max_7cf53 : ByteArray := prog_9_method_65_code
def yJ9_max_7cf53 : MethodName := ⟨RJ9, "max", "(II)I"⟩
abbrev cJ9_min_7cf53 : ByteArray := prog_9_method_69_code
def yJ9_min_7cf53 : MethodName := ⟨RJ9, "min", "(II)I"⟩
def RJ10 : String := "java/lang/System"
def TJ10 : u_T := fun k => match k with
  | _ => ("", "", "", false)
def tyJ10 : Nat → FieldType := fun k => match k with
  | _ => .int
abbrev wsJ100 : List Cond := u_ws RJ10 TJ10 0
theorem nmJ10 : ∀ a, a < 0 → ∀ b, b < 0 → a ≠ b → (TJ10 a).2.1 ≠ (TJ10 b).2.1 := by decide +kernel
theorem tyJ10_ok : ∀ k, k < 0 → parseFieldDescriptor (TJ10 k).2.2.1 = some (tyJ10 k) := by decide +kernel
def RJ7 : String := "java/util/Arrays"
def TJ7 : u_T := fun k => match k with
  | _ => ("", "", "", false)
def tyJ7 : Nat → FieldType := fun k => match k with
  | _ => .int
abbrev wsJ70 : List Cond := u_ws RJ7 TJ7 0
theorem nmJ7 : ∀ a, a < 0 → ∀ b, b < 0 → a ≠ b → (TJ7 a).2.1 ≠ (TJ7 b).2.1 := by decide +kernel
theorem tyJ7_ok : ∀ k, k < 0 → parseFieldDescriptor (TJ7 k).2.2.1 = some (tyJ7 k) := by decide +kernel
abbrev cJ7_fill_53178 : ByteArray := prog_11_method_103_code
def yJ7_fill_53178 : MethodName := ⟨RJ7, "fill", "([II)V"⟩
def RL : String := "MirrorTowerLaw"
abbrev cL_law : ByteArray := code
def yL_law : MethodName := ⟨RL, "law", "([I)Z"⟩
def wsJ7_fill_53178 : List Cond := .code yJ7_fill_53178 cJ7_fill_53178 4 none :: ([])
def wsX0_init : List Cond := .code yX0_init cX0_init 2 none :: ([.methodLink RX0 5 objectInit, .instanceMethod objectInit, .code objectInit ⟨#[0xb1]⟩ 1 none, .fieldLink RX0 11 "MirrorTower$Face" "field" "LMirrorTower$Field;", .arrayClass .int, .fieldLink RX0 15 "MirrorTower$Face" "limits" "[I", .fieldLink RX0 25 "MirrorTower$Face" "order" "[I", .fieldLink RX0 28 "MirrorTower$Face" "powers" "[I", .fieldLink RX0 31 "MirrorTower$Face" "cellOf" "[I", .fieldLink RX0 34 "MirrorTower$Face" "left" "[I", .fieldLink RX0 37 "MirrorTower$Face" "keptCells" "[I", .fieldLink RX0 40 "MirrorTower$Face" "keptPowers" "[I", .fieldLink RX0 43 "MirrorTower$Face" "setPowers" "[I", .arrayClass .boolean, .fieldLink RX0 46 "MirrorTower$Face" "fits" "[Z", .methodLink RX0 19 yJ7_fill_53178, .static yJ7_fill_53178, .initialized RJ7, .code yJ7_fill_53178 cJ7_fill_53178 4 none] ++ wsX00)
def wsX0_setLimit : List Cond := .code yX0_setLimit cX0_setLimit 3 none :: ([.fieldLink RX0 15 "MirrorTower$Face" "limits" "[I"] ++ wsX00)
def wsX1_size : List Cond := .code yX1_size cX1_size 1 (some .int) :: ([.fieldLink RX1 43 "MirrorTower$Field" "size" "I"] ++ wsX10)
def wsX1_isStowed : List Cond := .code yX1_isStowed cX1_isStowed 2 (some .boolean) :: ([.fieldLink RX1 36 "MirrorTower$Field" "winds" "[I"] ++ wsX10)
def wsX1_soilOf : List Cond := .code yX1_soilOf cX1_soilOf 3 (some .int) :: ([.fieldLink RX1 24 "MirrorTower$Field" "soils" "[I", .fieldLink RX1 39 "MirrorTower$Field" "dustAnHour" "I", .methodLink RX1 66 Lib.Math.min.name, .static Lib.Math.min.name, .initialized "java/lang/Math", .code Lib.Math.min.name Lib.Math.min.code 2 (some .int)] ++ wsX10)
def wsX1_shadersOf : List Cond := .code yX1_shadersOf cX1_shadersOf 7 (some .int) :: ([.fieldLink RX1 33 "MirrorTower$Field" "heights" "[I", .fieldLink RX1 15 "MirrorTower$Field" "xs" "[I", .fieldLink RX1 18 "MirrorTower$Field" "ys" "[I", .fieldLink RX1 27 "MirrorTower$Field" "stepsX" "[I", .fieldLink RX1 30 "MirrorTower$Field" "stepsY" "[I", .fieldLink RX1 9 "MirrorTower$Field" "taken" "[I"] ++ wsX10)
def wsX1_powerOf_r1 : List Cond := [Cond.fieldLink RX1 33 "MirrorTower$Field" "heights" "[I", Cond.methodLink RX1 58 Lib.Math.max.name, Cond.static Lib.Math.max.name, Cond.initialized "java/lang/Math", Cond.code Lib.Math.max.name Lib.Math.max.code 2 (some .int), Cond.fieldLink RX1 21 "MirrorTower$Field" "blockers" "[I", Cond.methodLink RX1 50 yX1_isStowed, Cond.instanceMethod yX1_isStowed, Cond.selects RX1 yX1_isStowed yX1_isStowed, Cond.initialized RX1, Cond.code yX1_isStowed cX1_isStowed 2 (some .boolean), Cond.fieldLink RX1 36 "MirrorTower$Field" "winds" "[I", Cond.methodLink RX1 54 yX1_soilOf, Cond.instanceMethod yX1_soilOf, Cond.selects RX1 yX1_soilOf yX1_soilOf, Cond.code yX1_soilOf cX1_soilOf 3 (some .int), Cond.fieldLink RX1 24 "MirrorTower$Field" "soils" "[I", Cond.fieldLink RX1 39 "MirrorTower$Field" "dustAnHour" "I", Cond.methodLink RX1 66 Lib.Math.min.name, Cond.static Lib.Math.min.name, Cond.code Lib.Math.min.name Lib.Math.min.code 2 (some .int), Cond.methodLink RX1 63 yX1_shadersOf, Cond.instanceMethod yX1_shadersOf, Cond.selects RX1 yX1_shadersOf yX1_shadersOf]
def wsX1_powerOf_r2 : List Cond := [Cond.code yX1_shadersOf cX1_shadersOf 7 (some .int), Cond.fieldLink RX1 15 "MirrorTower$Field" "xs" "[I", Cond.fieldLink RX1 18 "MirrorTower$Field" "ys" "[I", Cond.fieldLink RX1 27 "MirrorTower$Field" "stepsX" "[I", Cond.fieldLink RX1 30 "MirrorTower$Field" "stepsY" "[I", Cond.fieldLink RX1 9 "MirrorTower$Field" "taken" "[I"]
def wsX1_powerOf : List Cond := .code yX1_powerOf cX1_powerOf 6 (some .int) :: ((wsX1_powerOf_r1 ++ wsX1_powerOf_r2) ++ wsX10)
def wsX0_readPowers_r1 : List Cond := [Cond.fieldLink RX0 11 "MirrorTower$Face" "field" "LMirrorTower$Field;", Cond.fieldLink RX0 28 "MirrorTower$Face" "powers" "[I", Cond.methodLink RX0 54 yX1_size, Cond.instanceMethod yX1_size, Cond.selects RX1 yX1_size yX1_size, Cond.initialized RX1, Cond.code yX1_size cX1_size 1 (some .int), Cond.fieldLink RX1 43 "MirrorTower$Field" "size" "I", Cond.methodLink RX0 80 yX1_powerOf, Cond.instanceMethod yX1_powerOf, Cond.selects RX1 yX1_powerOf yX1_powerOf, Cond.code yX1_powerOf cX1_powerOf 6 (some .int), Cond.fieldLink RX1 33 "MirrorTower$Field" "heights" "[I", Cond.methodLink RX1 58 Lib.Math.max.name, Cond.static Lib.Math.max.name, Cond.initialized "java/lang/Math", Cond.code Lib.Math.max.name Lib.Math.max.code 2 (some .int), Cond.fieldLink RX1 21 "MirrorTower$Field" "blockers" "[I", Cond.methodLink RX1 50 yX1_isStowed, Cond.instanceMethod yX1_isStowed, Cond.selects RX1 yX1_isStowed yX1_isStowed, Cond.code yX1_isStowed cX1_isStowed 2 (some .boolean), Cond.fieldLink RX1 36 "MirrorTower$Field" "winds" "[I", Cond.methodLink RX1 54 yX1_soilOf]
def wsX0_readPowers_r2 : List Cond := [Cond.instanceMethod yX1_soilOf, Cond.selects RX1 yX1_soilOf yX1_soilOf, Cond.code yX1_soilOf cX1_soilOf 3 (some .int), Cond.fieldLink RX1 24 "MirrorTower$Field" "soils" "[I", Cond.fieldLink RX1 39 "MirrorTower$Field" "dustAnHour" "I", Cond.methodLink RX1 66 Lib.Math.min.name, Cond.static Lib.Math.min.name, Cond.code Lib.Math.min.name Lib.Math.min.code 2 (some .int), Cond.methodLink RX1 63 yX1_shadersOf, Cond.instanceMethod yX1_shadersOf, Cond.selects RX1 yX1_shadersOf yX1_shadersOf, Cond.code yX1_shadersOf cX1_shadersOf 7 (some .int), Cond.fieldLink RX1 15 "MirrorTower$Field" "xs" "[I", Cond.fieldLink RX1 18 "MirrorTower$Field" "ys" "[I", Cond.fieldLink RX1 27 "MirrorTower$Field" "stepsX" "[I", Cond.fieldLink RX1 30 "MirrorTower$Field" "stepsY" "[I", Cond.fieldLink RX1 9 "MirrorTower$Field" "taken" "[I"]
def wsX0_readPowers : List Cond := .code yX0_readPowers cX0_readPowers 4 none :: ((wsX0_readPowers_r1 ++ wsX0_readPowers_r2) ++ wsX00 ++ wsX10)
def wsX0_rank : List Cond := .code yX0_rank cX0_rank 3 none :: ([.fieldLink RX0 11 "MirrorTower$Face" "field" "LMirrorTower$Field;", .fieldLink RX0 28 "MirrorTower$Face" "powers" "[I", .fieldLink RX0 25 "MirrorTower$Face" "order" "[I", .methodLink RX0 54 yX1_size, .instanceMethod yX1_size, .selects RX1 yX1_size yX1_size, .initialized RX1, .code yX1_size cX1_size 1 (some .int), .fieldLink RX1 43 "MirrorTower$Field" "size" "I"] ++ wsX00 ++ wsX10)
def wsX0_roomiestCell : List Cond := .code yX0_roomiestCell cX0_roomiestCell 3 (some .int) :: ([.fieldLink RX0 34 "MirrorTower$Face" "left" "[I"] ++ wsX00)
def wsX0_aimAll_r1 : List Cond := [Cond.fieldLink RX0 15 "MirrorTower$Face" "limits" "[I", Cond.fieldLink RX0 34 "MirrorTower$Face" "left" "[I", Cond.methodLink RX0 64 arraycopyName, Cond.native arraycopyName, Cond.static arraycopyName, Cond.initialized "java/lang/System", Cond.fieldLink RX0 11 "MirrorTower$Face" "field" "LMirrorTower$Field;", Cond.fieldLink RX0 25 "MirrorTower$Face" "order" "[I", Cond.fieldLink RX0 28 "MirrorTower$Face" "powers" "[I", Cond.fieldLink RX0 31 "MirrorTower$Face" "cellOf" "[I", Cond.methodLink RX0 70 yX0_readPowers, Cond.instanceMethod yX0_readPowers, Cond.selects RX0 yX0_readPowers yX0_readPowers, Cond.initialized RX0, Cond.code yX0_readPowers cX0_readPowers 4 none, Cond.methodLink RX0 54 yX1_size, Cond.instanceMethod yX1_size, Cond.selects RX1 yX1_size yX1_size, Cond.initialized RX1, Cond.code yX1_size cX1_size 1 (some .int), Cond.fieldLink RX1 43 "MirrorTower$Field" "size" "I", Cond.methodLink RX0 80 yX1_powerOf, Cond.instanceMethod yX1_powerOf, Cond.selects RX1 yX1_powerOf yX1_powerOf]
def wsX0_aimAll_r2 : List Cond := [Cond.code yX1_powerOf cX1_powerOf 6 (some .int), Cond.fieldLink RX1 33 "MirrorTower$Field" "heights" "[I", Cond.methodLink RX1 58 Lib.Math.max.name, Cond.static Lib.Math.max.name, Cond.initialized "java/lang/Math", Cond.code Lib.Math.max.name Lib.Math.max.code 2 (some .int), Cond.fieldLink RX1 21 "MirrorTower$Field" "blockers" "[I", Cond.methodLink RX1 50 yX1_isStowed, Cond.instanceMethod yX1_isStowed, Cond.selects RX1 yX1_isStowed yX1_isStowed, Cond.code yX1_isStowed cX1_isStowed 2 (some .boolean), Cond.fieldLink RX1 36 "MirrorTower$Field" "winds" "[I", Cond.methodLink RX1 54 yX1_soilOf, Cond.instanceMethod yX1_soilOf, Cond.selects RX1 yX1_soilOf yX1_soilOf, Cond.code yX1_soilOf cX1_soilOf 3 (some .int), Cond.fieldLink RX1 24 "MirrorTower$Field" "soils" "[I", Cond.fieldLink RX1 39 "MirrorTower$Field" "dustAnHour" "I", Cond.methodLink RX1 66 Lib.Math.min.name, Cond.static Lib.Math.min.name, Cond.code Lib.Math.min.name Lib.Math.min.code 2 (some .int), Cond.methodLink RX1 63 yX1_shadersOf, Cond.instanceMethod yX1_shadersOf, Cond.selects RX1 yX1_shadersOf yX1_shadersOf]
def wsX0_aimAll_r3 : List Cond := [Cond.code yX1_shadersOf cX1_shadersOf 7 (some .int), Cond.fieldLink RX1 15 "MirrorTower$Field" "xs" "[I", Cond.fieldLink RX1 18 "MirrorTower$Field" "ys" "[I", Cond.fieldLink RX1 27 "MirrorTower$Field" "stepsX" "[I", Cond.fieldLink RX1 30 "MirrorTower$Field" "stepsY" "[I", Cond.fieldLink RX1 9 "MirrorTower$Field" "taken" "[I", Cond.methodLink RX0 74 yX0_rank, Cond.instanceMethod yX0_rank, Cond.selects RX0 yX0_rank yX0_rank, Cond.code yX0_rank cX0_rank 3 none, Cond.methodLink RX0 77 yX0_roomiestCell, Cond.instanceMethod yX0_roomiestCell, Cond.selects RX0 yX0_roomiestCell yX0_roomiestCell, Cond.code yX0_roomiestCell cX0_roomiestCell 3 (some .int)]
def wsX0_aimAll : List Cond := .code yX0_aimAll cX0_aimAll 7 (some .int) :: ((wsX0_aimAll_r1 ++ (wsX0_aimAll_r2 ++ wsX0_aimAll_r3)) ++ wsX00 ++ wsX10)
def wsX0_keepAims_r1 : List Cond := [Cond.fieldLink RX0 11 "MirrorTower$Face" "field" "LMirrorTower$Field;", Cond.fieldLink RX0 60 "MirrorTower$Face" "keptSize" "I", Cond.fieldLink RX0 31 "MirrorTower$Face" "cellOf" "[I", Cond.fieldLink RX0 37 "MirrorTower$Face" "keptCells" "[I", Cond.methodLink RX0 64 arraycopyName, Cond.native arraycopyName, Cond.static arraycopyName, Cond.initialized "java/lang/System", Cond.fieldLink RX0 40 "MirrorTower$Face" "keptPowers" "[I", Cond.fieldLink RX0 15 "MirrorTower$Face" "limits" "[I", Cond.fieldLink RX0 34 "MirrorTower$Face" "left" "[I", Cond.methodLink RX0 50 yX0_aimAll, Cond.instanceMethod yX0_aimAll, Cond.selects RX0 yX0_aimAll yX0_aimAll, Cond.initialized RX0, Cond.code yX0_aimAll cX0_aimAll 7 (some .int), Cond.fieldLink RX0 25 "MirrorTower$Face" "order" "[I", Cond.fieldLink RX0 28 "MirrorTower$Face" "powers" "[I", Cond.methodLink RX0 70 yX0_readPowers, Cond.instanceMethod yX0_readPowers, Cond.selects RX0 yX0_readPowers yX0_readPowers, Cond.code yX0_readPowers cX0_readPowers 4 none, Cond.methodLink RX0 54 yX1_size, Cond.instanceMethod yX1_size]
def wsX0_keepAims_r2 : List Cond := [Cond.selects RX1 yX1_size yX1_size, Cond.initialized RX1, Cond.code yX1_size cX1_size 1 (some .int), Cond.fieldLink RX1 43 "MirrorTower$Field" "size" "I", Cond.methodLink RX0 80 yX1_powerOf, Cond.instanceMethod yX1_powerOf, Cond.selects RX1 yX1_powerOf yX1_powerOf, Cond.code yX1_powerOf cX1_powerOf 6 (some .int), Cond.fieldLink RX1 33 "MirrorTower$Field" "heights" "[I", Cond.methodLink RX1 58 Lib.Math.max.name, Cond.static Lib.Math.max.name, Cond.initialized "java/lang/Math", Cond.code Lib.Math.max.name Lib.Math.max.code 2 (some .int), Cond.fieldLink RX1 21 "MirrorTower$Field" "blockers" "[I", Cond.methodLink RX1 50 yX1_isStowed, Cond.instanceMethod yX1_isStowed, Cond.selects RX1 yX1_isStowed yX1_isStowed, Cond.code yX1_isStowed cX1_isStowed 2 (some .boolean), Cond.fieldLink RX1 36 "MirrorTower$Field" "winds" "[I", Cond.methodLink RX1 54 yX1_soilOf, Cond.instanceMethod yX1_soilOf, Cond.selects RX1 yX1_soilOf yX1_soilOf, Cond.code yX1_soilOf cX1_soilOf 3 (some .int), Cond.fieldLink RX1 24 "MirrorTower$Field" "soils" "[I"]
def wsX0_keepAims_r3 : List Cond := [Cond.fieldLink RX1 39 "MirrorTower$Field" "dustAnHour" "I", Cond.methodLink RX1 66 Lib.Math.min.name, Cond.static Lib.Math.min.name, Cond.code Lib.Math.min.name Lib.Math.min.code 2 (some .int), Cond.methodLink RX1 63 yX1_shadersOf, Cond.instanceMethod yX1_shadersOf, Cond.selects RX1 yX1_shadersOf yX1_shadersOf, Cond.code yX1_shadersOf cX1_shadersOf 7 (some .int), Cond.fieldLink RX1 15 "MirrorTower$Field" "xs" "[I", Cond.fieldLink RX1 18 "MirrorTower$Field" "ys" "[I", Cond.fieldLink RX1 27 "MirrorTower$Field" "stepsX" "[I", Cond.fieldLink RX1 30 "MirrorTower$Field" "stepsY" "[I", Cond.fieldLink RX1 9 "MirrorTower$Field" "taken" "[I", Cond.methodLink RX0 74 yX0_rank, Cond.instanceMethod yX0_rank, Cond.selects RX0 yX0_rank yX0_rank, Cond.code yX0_rank cX0_rank 3 none, Cond.methodLink RX0 77 yX0_roomiestCell, Cond.instanceMethod yX0_roomiestCell, Cond.selects RX0 yX0_roomiestCell yX0_roomiestCell, Cond.code yX0_roomiestCell cX0_roomiestCell 3 (some .int)]
def wsX0_keepAims : List Cond := .code yX0_keepAims cX0_keepAims 4 (some .int) :: ((wsX0_keepAims_r1 ++ (wsX0_keepAims_r2 ++ wsX0_keepAims_r3)) ++ wsX00 ++ wsX10)
def wsX0_keptCellOf : List Cond := .code yX0_keptCellOf cX0_keptCellOf 2 (some .int) :: ([.fieldLink RX0 60 "MirrorTower$Face" "keptSize" "I", .fieldLink RX0 37 "MirrorTower$Face" "keptCells" "[I"] ++ wsX00)
def wsX0_keptPowerAt : List Cond := .code yX0_keptPowerAt cX0_keptPowerAt 2 (some .int) :: ([.fieldLink RX0 40 "MirrorTower$Face" "keptPowers" "[I"] ++ wsX00)
def wsX0_addUpSets : List Cond := .code yX0_addUpSets cX0_addUpSets 5 none :: ([.fieldLink RX0 43 "MirrorTower$Face" "setPowers" "[I", .fieldLink RX0 28 "MirrorTower$Face" "powers" "[I", .fieldLink RX0 25 "MirrorTower$Face" "order" "[I"] ++ wsX00)
def wsX0_widen : List Cond := .code yX0_widen cX0_widen 5 none :: ([.fieldLink RX0 46 "MirrorTower$Face" "fits" "[Z", .fieldLink RX0 43 "MirrorTower$Face" "setPowers" "[I"] ++ wsX00)
def wsX0_bestHeat_r1 : List Cond := [Cond.fieldLink RX0 11 "MirrorTower$Face" "field" "LMirrorTower$Field;", Cond.methodLink RX0 84 Lib.Math.min.name, Cond.static Lib.Math.min.name, Cond.initialized "java/lang/Math", Cond.code Lib.Math.min.name Lib.Math.min.code 2 (some .int), Cond.fieldLink RX0 46 "MirrorTower$Face" "fits" "[Z", Cond.fieldLink RX0 15 "MirrorTower$Face" "limits" "[I", Cond.fieldLink RX0 43 "MirrorTower$Face" "setPowers" "[I", Cond.methodLink RX0 96 Lib.Math.max.name, Cond.static Lib.Math.max.name, Cond.code Lib.Math.max.name Lib.Math.max.code 2 (some .int), Cond.methodLink RX0 70 yX0_readPowers, Cond.instanceMethod yX0_readPowers, Cond.selects RX0 yX0_readPowers yX0_readPowers, Cond.initialized RX0, Cond.code yX0_readPowers cX0_readPowers 4 none, Cond.fieldLink RX0 28 "MirrorTower$Face" "powers" "[I", Cond.methodLink RX0 54 yX1_size, Cond.instanceMethod yX1_size, Cond.selects RX1 yX1_size yX1_size, Cond.initialized RX1, Cond.code yX1_size cX1_size 1 (some .int), Cond.fieldLink RX1 43 "MirrorTower$Field" "size" "I", Cond.methodLink RX0 80 yX1_powerOf]
def wsX0_bestHeat_r2 : List Cond := [Cond.instanceMethod yX1_powerOf, Cond.selects RX1 yX1_powerOf yX1_powerOf, Cond.code yX1_powerOf cX1_powerOf 6 (some .int), Cond.fieldLink RX1 33 "MirrorTower$Field" "heights" "[I", Cond.methodLink RX1 58 Lib.Math.max.name, Cond.fieldLink RX1 21 "MirrorTower$Field" "blockers" "[I", Cond.methodLink RX1 50 yX1_isStowed, Cond.instanceMethod yX1_isStowed, Cond.selects RX1 yX1_isStowed yX1_isStowed, Cond.code yX1_isStowed cX1_isStowed 2 (some .boolean), Cond.fieldLink RX1 36 "MirrorTower$Field" "winds" "[I", Cond.methodLink RX1 54 yX1_soilOf, Cond.instanceMethod yX1_soilOf, Cond.selects RX1 yX1_soilOf yX1_soilOf, Cond.code yX1_soilOf cX1_soilOf 3 (some .int), Cond.fieldLink RX1 24 "MirrorTower$Field" "soils" "[I", Cond.fieldLink RX1 39 "MirrorTower$Field" "dustAnHour" "I", Cond.methodLink RX1 66 Lib.Math.min.name, Cond.methodLink RX1 63 yX1_shadersOf, Cond.instanceMethod yX1_shadersOf, Cond.selects RX1 yX1_shadersOf yX1_shadersOf, Cond.code yX1_shadersOf cX1_shadersOf 7 (some .int), Cond.fieldLink RX1 15 "MirrorTower$Field" "xs" "[I", Cond.fieldLink RX1 18 "MirrorTower$Field" "ys" "[I"]
def wsX0_bestHeat_r3 : List Cond := [Cond.fieldLink RX1 27 "MirrorTower$Field" "stepsX" "[I", Cond.fieldLink RX1 30 "MirrorTower$Field" "stepsY" "[I", Cond.fieldLink RX1 9 "MirrorTower$Field" "taken" "[I", Cond.methodLink RX0 74 yX0_rank, Cond.instanceMethod yX0_rank, Cond.selects RX0 yX0_rank yX0_rank, Cond.code yX0_rank cX0_rank 3 none, Cond.fieldLink RX0 25 "MirrorTower$Face" "order" "[I", Cond.methodLink RX0 89 yX0_addUpSets, Cond.instanceMethod yX0_addUpSets, Cond.selects RX0 yX0_addUpSets yX0_addUpSets, Cond.code yX0_addUpSets cX0_addUpSets 5 none, Cond.methodLink RX0 93 yX0_widen, Cond.instanceMethod yX0_widen, Cond.selects RX0 yX0_widen yX0_widen, Cond.code yX0_widen cX0_widen 5 none]
def wsX0_bestHeat : List Cond := .code yX0_bestHeat cX0_bestHeat 6 (some .int) :: ((wsX0_bestHeat_r1 ++ (wsX0_bestHeat_r2 ++ wsX0_bestHeat_r3)) ++ wsX00 ++ wsX10)
def wsX1_init : List Cond := .code yX1_init cX1_init 1 none :: ([.methodLink RX1 3 objectInit, .instanceMethod objectInit, .code objectInit ⟨#[0xb1]⟩ 1 none, .arrayClass .int, .fieldLink RX1 9 "MirrorTower$Field" "taken" "[I", .fieldLink RX1 15 "MirrorTower$Field" "xs" "[I", .fieldLink RX1 18 "MirrorTower$Field" "ys" "[I", .fieldLink RX1 21 "MirrorTower$Field" "blockers" "[I", .fieldLink RX1 24 "MirrorTower$Field" "soils" "[I", .fieldLink RX1 27 "MirrorTower$Field" "stepsX" "[I", .fieldLink RX1 30 "MirrorTower$Field" "stepsY" "[I", .fieldLink RX1 33 "MirrorTower$Field" "heights" "[I", .fieldLink RX1 36 "MirrorTower$Field" "winds" "[I", .fieldLink RX1 39 "MirrorTower$Field" "dustAnHour" "I"] ++ wsX10)
def wsX1_isTaken : List Cond := .code yX1_isTaken cX1_isTaken 3 (some .boolean) :: ([.fieldLink RX1 9 "MirrorTower$Field" "taken" "[I"] ++ wsX10)
def wsX1_isBetween : List Cond := .code yX1_isBetween cX1_isBetween 8 (some .boolean) :: ([.fieldLink RX1 15 "MirrorTower$Field" "xs" "[I", .fieldLink RX1 18 "MirrorTower$Field" "ys" "[I"] ++ wsX10)
def wsX1_place : List Cond := .code yX1_place cX1_place 5 (some .int) :: ([.fieldLink RX1 43 "MirrorTower$Field" "size" "I", .fieldLink RX1 15 "MirrorTower$Field" "xs" "[I", .fieldLink RX1 18 "MirrorTower$Field" "ys" "[I", .fieldLink RX1 9 "MirrorTower$Field" "taken" "[I", .fieldLink RX1 21 "MirrorTower$Field" "blockers" "[I", .methodLink RX1 46 yX1_isBetween, .instanceMethod yX1_isBetween, .selects RX1 yX1_isBetween yX1_isBetween, .initialized RX1, .code yX1_isBetween cX1_isBetween 8 (some .boolean)] ++ wsX10)
def wsX1_setSun : List Cond := .code yX1_setSun cX1_setSun 5 none :: ([.fieldLink RX1 27 "MirrorTower$Field" "stepsX" "[I", .fieldLink RX1 30 "MirrorTower$Field" "stepsY" "[I", .fieldLink RX1 33 "MirrorTower$Field" "heights" "[I"] ++ wsX10)
def wsX1_setWind : List Cond := .code yX1_setWind cX1_setWind 3 none :: ([.fieldLink RX1 36 "MirrorTower$Field" "winds" "[I"] ++ wsX10)
def wsX1_setDust : List Cond := .code yX1_setDust cX1_setDust 2 none :: ([.fieldLink RX1 39 "MirrorTower$Field" "dustAnHour" "I"] ++ wsX10)
def wsX1_blockersOf : List Cond := .code yX1_blockersOf cX1_blockersOf 2 (some .int) :: ([.fieldLink RX1 21 "MirrorTower$Field" "blockers" "[I"] ++ wsX10)
def wsX1_soilInAll : List Cond := .code yX1_soilInAll cX1_soilInAll 3 (some .int) :: ([.fieldLink RX1 43 "MirrorTower$Field" "size" "I", .fieldLink RX1 24 "MirrorTower$Field" "soils" "[I"] ++ wsX10)
def wsX1_growSoil : List Cond := .code yX1_growSoil cX1_growSoil 2 none :: ([.fieldLink RX1 43 "MirrorTower$Field" "size" "I", .fieldLink RX1 24 "MirrorTower$Field" "soils" "[I", .methodLink RX1 54 yX1_soilOf, .instanceMethod yX1_soilOf, .selects RX1 yX1_soilOf yX1_soilOf, .initialized RX1, .code yX1_soilOf cX1_soilOf 3 (some .int), .fieldLink RX1 39 "MirrorTower$Field" "dustAnHour" "I", .methodLink RX1 66 Lib.Math.min.name, .static Lib.Math.min.name, .initialized "java/lang/Math", .code Lib.Math.min.name Lib.Math.min.code 2 (some .int)] ++ wsX10)
def wsX1_mostSoiled : List Cond := .code yX1_mostSoiled cX1_mostSoiled 3 (some .int) :: ([.fieldLink RX1 43 "MirrorTower$Field" "size" "I", .fieldLink RX1 24 "MirrorTower$Field" "soils" "[I"] ++ wsX10)
def wsX1_washMost : List Cond := .code yX1_washMost cX1_washMost 5 (some .int) :: ([.fieldLink RX1 43 "MirrorTower$Field" "size" "I", .methodLink RX1 66 Lib.Math.min.name, .static Lib.Math.min.name, .initialized "java/lang/Math", .code Lib.Math.min.name Lib.Math.min.code 2 (some .int), .fieldLink RX1 24 "MirrorTower$Field" "soils" "[I", .methodLink RX1 69 yX1_mostSoiled, .instanceMethod yX1_mostSoiled, .selects RX1 yX1_mostSoiled yX1_mostSoiled, .initialized RX1, .code yX1_mostSoiled cX1_mostSoiled 3 (some .int)] ++ wsX10)
def wsX2_init : List Cond := .code yX2_init cX2_init 1 none :: ([.methodLink RX2 3 objectInit, .instanceMethod objectInit, .code objectInit ⟨#[0xb1]⟩ 1 none, .arrayClass .int, .fieldLink RX2 9 "MirrorTower$Shots" "marks" "[I", .fieldLink RX2 15 "MirrorTower$Shots" "setsWith" "[I"] ++ wsX20)
def wsX2_size : List Cond := .code yX2_size cX2_size 1 (some .int) :: ([.fieldLink RX2 18 "MirrorTower$Shots" "size" "I"] ++ wsX20)
def wsJ13_bitCount_95d88 : List Cond := .code yJ13_bitCount_95d88 cJ13_bitCount_95d88 2 (some .int) :: ([.constantLong RJ13 314 (6148914691236517205), .constantLong RJ13 316 (3689348814741910323), .constantLong RJ13 318 (1085102592571150095)])
def wsX2_note : List Cond := .code yX2_note cX2_note 6 (some .int) :: ([.fieldLink RX2 18 "MirrorTower$Shots" "size" "I", .fieldLink RX2 9 "MirrorTower$Shots" "marks" "[I", .fieldLink RX2 22 "MirrorTower$Shots" "missing" "I", .methodLink RX2 31 Lib.Math.min.name, .static Lib.Math.min.name, .initialized "java/lang/Math", .code Lib.Math.min.name Lib.Math.min.code 2 (some .int), .methodLink RX2 25 yJ13_bitCount_95d88, .static yJ13_bitCount_95d88, .initialized RJ13, .code yJ13_bitCount_95d88 cJ13_bitCount_95d88 2 (some .int), .constantLong RJ13 314 (6148914691236517205), .constantLong RJ13 316 (3689348814741910323), .constantLong RJ13 318 (1085102592571150095)] ++ wsX20)
def wsX2_drop : List Cond := .code yX2_drop cX2_drop 2 (some .int) :: ([.fieldLink RX2 18 "MirrorTower$Shots" "size" "I", .fieldLink RX2 9 "MirrorTower$Shots" "marks" "[I", .fieldLink RX2 22 "MirrorTower$Shots" "missing" "I", .methodLink RX2 37 yJ7_fill_53178, .static yJ7_fill_53178, .initialized RJ7, .code yJ7_fill_53178 cJ7_fill_53178 4 none] ++ wsX20)
def wsX2_tally : List Cond := .code yX2_tally cX2_tally 4 none :: ([.fieldLink RX2 15 "MirrorTower$Shots" "setsWith" "[I", .fieldLink RX2 22 "MirrorTower$Shots" "missing" "I", .fieldLink RX2 47 "MirrorTower$Shots" "sets" "I", .fieldLink RX2 9 "MirrorTower$Shots" "marks" "[I", .methodLink RX2 37 yJ7_fill_53178, .static yJ7_fill_53178, .initialized RJ7, .code yJ7_fill_53178 cJ7_fill_53178 4 none] ++ wsX20)
def wsX2_setsOf : List Cond := .code yX2_setsOf cX2_setsOf 2 (some .int) :: ([.fieldLink RX2 47 "MirrorTower$Shots" "sets" "I", .methodLink RX2 43 yX2_tally, .instanceMethod yX2_tally, .selects RX2 yX2_tally yX2_tally, .initialized RX2, .code yX2_tally cX2_tally 4 none, .fieldLink RX2 15 "MirrorTower$Shots" "setsWith" "[I", .fieldLink RX2 22 "MirrorTower$Shots" "missing" "I", .fieldLink RX2 9 "MirrorTower$Shots" "marks" "[I", .methodLink RX2 37 yJ7_fill_53178, .static yJ7_fill_53178, .initialized RJ7, .code yJ7_fill_53178 cJ7_fill_53178 4 none] ++ wsX20)
def wsX2_isSure : List Cond := .code yX2_isSure cX2_isSure 2 (some .boolean) :: ([.fieldLink RX2 47 "MirrorTower$Shots" "sets" "I", .fieldLink RX2 15 "MirrorTower$Shots" "setsWith" "[I"] ++ wsX20)
def wsX2_verdictOn : List Cond := .code yX2_verdictOn cX2_verdictOn 3 (some .int) :: ([.fieldLink RX2 15 "MirrorTower$Shots" "setsWith" "[I", .methodLink RX2 43 yX2_tally, .instanceMethod yX2_tally, .selects RX2 yX2_tally yX2_tally, .initialized RX2, .code yX2_tally cX2_tally 4 none, .fieldLink RX2 22 "MirrorTower$Shots" "missing" "I", .fieldLink RX2 47 "MirrorTower$Shots" "sets" "I", .fieldLink RX2 9 "MirrorTower$Shots" "marks" "[I", .methodLink RX2 37 yJ7_fill_53178, .static yJ7_fill_53178, .initialized RJ7, .code yJ7_fill_53178 cJ7_fill_53178 4 none, .methodLink RX2 50 yX2_isSure, .instanceMethod yX2_isSure, .selects RX2 yX2_isSure yX2_isSure, .code yX2_isSure cX2_isSure 2 (some .boolean)] ++ wsX20)
def wsX2_unsureOf : List Cond := .code yX2_unsureOf cX2_unsureOf 4 (some .int) :: ([.methodLink RX2 43 yX2_tally, .instanceMethod yX2_tally, .selects RX2 yX2_tally yX2_tally, .initialized RX2, .code yX2_tally cX2_tally 4 none, .fieldLink RX2 15 "MirrorTower$Shots" "setsWith" "[I", .fieldLink RX2 22 "MirrorTower$Shots" "missing" "I", .fieldLink RX2 47 "MirrorTower$Shots" "sets" "I", .fieldLink RX2 9 "MirrorTower$Shots" "marks" "[I", .methodLink RX2 37 yJ7_fill_53178, .static yJ7_fill_53178, .initialized RJ7, .code yJ7_fill_53178 cJ7_fill_53178 4 none, .methodLink RX2 50 yX2_isSure, .instanceMethod yX2_isSure, .selects RX2 yX2_isSure yX2_isSure, .code yX2_isSure cX2_isSure 2 (some .boolean)] ++ wsX20)
def wsX3_init : List Cond := .code yX3_init cX3_init 3 none :: ([.methodLink RX3 3 objectInit, .instanceMethod objectInit, .code objectInit ⟨#[0xb1]⟩ 1 none, .fieldLink RX3 9 "MirrorTower$Store" "field" "LMirrorTower$Field;", .fieldLink RX3 15 "MirrorTower$Store" "cells" "LMirrorTower$Face;", .arrayClass .int, .fieldLink RX3 19 "MirrorTower$Store" "prices" "[I", .fieldLink RX3 29 "MirrorTower$Store" "gains" "[I", .fieldLink RX3 32 "MirrorTower$Store" "laterGains" "[I", .fieldLink RX3 35 "MirrorTower$Store" "choices" "[I", .fieldLink RX3 38 "MirrorTower$Store" "unitsIn" "[I", .fieldLink RX3 41 "MirrorTower$Store" "mostHeld" "[I", .fieldLink RX3 44 "MirrorTower$Store" "plannedFrom" "I", .methodLink RX3 23 yJ7_fill_53178, .static yJ7_fill_53178, .initialized RJ7, .code yJ7_fill_53178 cJ7_fill_53178 4 none] ++ wsX30)
def wsX3_setPrice : List Cond := .code yX3_setPrice cX3_setPrice 3 none :: ([.fieldLink RX3 19 "MirrorTower$Store" "prices" "[I"] ++ wsX30)
def wsX3_hourNow : List Cond := .code yX3_hourNow cX3_hourNow 1 (some .int) :: ([.fieldLink RX3 48 "MirrorTower$Store" "now" "I"] ++ wsX30)
def wsX3_unitsHeld : List Cond := .code yX3_unitsHeld cX3_unitsHeld 1 (some .int) :: ([.fieldLink RX3 51 "MirrorTower$Store" "units" "I"] ++ wsX30)
def wsX3_isWarm : List Cond := .code yX3_isWarm cX3_isWarm 1 (some .boolean) :: ([.fieldLink RX3 54 "MirrorTower$Store" "warm" "Z"] ++ wsX30)
def wsX3_earnedInAll : List Cond := .code yX3_earnedInAll cX3_earnedInAll 1 (some .int) :: ([.fieldLink RX3 58 "MirrorTower$Store" "earnings" "I"] ++ wsX30)
def wsX3_filled : List Cond := .code yX3_filled cX3_filled 2 (some .int) :: ([.methodLink RX3 83 Lib.Math.min.name, .static Lib.Math.min.name, .initialized "java/lang/Math", .code Lib.Math.min.name Lib.Math.min.code 2 (some .int)])
def wsX3_needed : List Cond := .code yX3_needed cX3_needed 1 (some .int) :: ([])
def wsX3_gainOf : List Cond := .code yX3_gainOf cX3_gainOf 2 (some .int) :: ([.fieldLink RX3 19 "MirrorTower$Store" "prices" "[I"] ++ wsX30)
def wsX3_passHour_r1 : List Cond := [Cond.fieldLink RX3 51 "MirrorTower$Store" "units" "I", Cond.fieldLink RX3 15 "MirrorTower$Store" "cells" "LMirrorTower$Face;", Cond.fieldLink RX3 48 "MirrorTower$Store" "now" "I", Cond.fieldLink RX3 54 "MirrorTower$Store" "warm" "Z", Cond.fieldLink RX3 58 "MirrorTower$Store" "earnings" "I", Cond.fieldLink RX3 9 "MirrorTower$Store" "field" "LMirrorTower$Field;", Cond.methodLink RX3 61 yX0_aimAll, Cond.instanceMethod yX0_aimAll, Cond.selects RX0 yX0_aimAll yX0_aimAll, Cond.initialized RX0, Cond.code yX0_aimAll cX0_aimAll 7 (some .int), Cond.fieldLink RX0 15 "MirrorTower$Face" "limits" "[I", Cond.fieldLink RX0 34 "MirrorTower$Face" "left" "[I", Cond.methodLink RX0 64 arraycopyName, Cond.native arraycopyName, Cond.static arraycopyName, Cond.initialized "java/lang/System", Cond.fieldLink RX0 11 "MirrorTower$Face" "field" "LMirrorTower$Field;", Cond.fieldLink RX0 25 "MirrorTower$Face" "order" "[I", Cond.fieldLink RX0 28 "MirrorTower$Face" "powers" "[I", Cond.fieldLink RX0 31 "MirrorTower$Face" "cellOf" "[I", Cond.methodLink RX0 70 yX0_readPowers, Cond.instanceMethod yX0_readPowers, Cond.selects RX0 yX0_readPowers yX0_readPowers]
def wsX3_passHour_r2 : List Cond := [Cond.code yX0_readPowers cX0_readPowers 4 none, Cond.methodLink RX0 54 yX1_size, Cond.instanceMethod yX1_size, Cond.selects RX1 yX1_size yX1_size, Cond.initialized RX1, Cond.code yX1_size cX1_size 1 (some .int), Cond.fieldLink RX1 43 "MirrorTower$Field" "size" "I", Cond.methodLink RX0 80 yX1_powerOf, Cond.instanceMethod yX1_powerOf, Cond.selects RX1 yX1_powerOf yX1_powerOf, Cond.code yX1_powerOf cX1_powerOf 6 (some .int), Cond.fieldLink RX1 33 "MirrorTower$Field" "heights" "[I", Cond.methodLink RX1 58 Lib.Math.max.name, Cond.static Lib.Math.max.name, Cond.initialized "java/lang/Math", Cond.code Lib.Math.max.name Lib.Math.max.code 2 (some .int), Cond.fieldLink RX1 21 "MirrorTower$Field" "blockers" "[I", Cond.methodLink RX1 50 yX1_isStowed, Cond.instanceMethod yX1_isStowed, Cond.selects RX1 yX1_isStowed yX1_isStowed, Cond.code yX1_isStowed cX1_isStowed 2 (some .boolean), Cond.fieldLink RX1 36 "MirrorTower$Field" "winds" "[I", Cond.methodLink RX1 54 yX1_soilOf, Cond.instanceMethod yX1_soilOf]
def wsX3_passHour_r3 : List Cond := [Cond.selects RX1 yX1_soilOf yX1_soilOf, Cond.code yX1_soilOf cX1_soilOf 3 (some .int), Cond.fieldLink RX1 24 "MirrorTower$Field" "soils" "[I", Cond.fieldLink RX1 39 "MirrorTower$Field" "dustAnHour" "I", Cond.methodLink RX1 66 Lib.Math.min.name, Cond.static Lib.Math.min.name, Cond.code Lib.Math.min.name Lib.Math.min.code 2 (some .int), Cond.methodLink RX1 63 yX1_shadersOf, Cond.instanceMethod yX1_shadersOf, Cond.selects RX1 yX1_shadersOf yX1_shadersOf, Cond.code yX1_shadersOf cX1_shadersOf 7 (some .int), Cond.fieldLink RX1 15 "MirrorTower$Field" "xs" "[I", Cond.fieldLink RX1 18 "MirrorTower$Field" "ys" "[I", Cond.fieldLink RX1 27 "MirrorTower$Field" "stepsX" "[I", Cond.fieldLink RX1 30 "MirrorTower$Field" "stepsY" "[I", Cond.fieldLink RX1 9 "MirrorTower$Field" "taken" "[I", Cond.methodLink RX0 74 yX0_rank, Cond.instanceMethod yX0_rank, Cond.selects RX0 yX0_rank yX0_rank, Cond.code yX0_rank cX0_rank 3 none, Cond.methodLink RX0 77 yX0_roomiestCell, Cond.instanceMethod yX0_roomiestCell, Cond.selects RX0 yX0_roomiestCell yX0_roomiestCell, Cond.code yX0_roomiestCell cX0_roomiestCell 3 (some .int)]
def wsX3_passHour_r4 : List Cond := [Cond.methodLink RX3 67 yX3_filled, Cond.static yX3_filled, Cond.initialized RX3, Cond.code yX3_filled cX3_filled 2 (some .int), Cond.methodLink RX3 83 Lib.Math.min.name, Cond.methodLink RX3 70 yX3_needed, Cond.static yX3_needed, Cond.code yX3_needed cX3_needed 1 (some .int), Cond.methodLink RX3 74 yX3_gainOf, Cond.instanceMethod yX3_gainOf, Cond.selects RX3 yX3_gainOf yX3_gainOf, Cond.code yX3_gainOf cX3_gainOf 2 (some .int), Cond.fieldLink RX3 19 "MirrorTower$Store" "prices" "[I", Cond.methodLink RX3 78 yX1_growSoil, Cond.instanceMethod yX1_growSoil, Cond.selects RX1 yX1_growSoil yX1_growSoil, Cond.code yX1_growSoil cX1_growSoil 2 none]
def wsX3_passHour : List Cond := .code yX3_passHour cX3_passHour 5 (some .int) :: ((wsX3_passHour_r1 ++ (wsX3_passHour_r2 ++ (wsX3_passHour_r3 ++ wsX3_passHour_r4))) ++ wsX30 ++ wsX00 ++ wsX10)
def wsX3_plannedRun : List Cond := .code yX3_plannedRun cX3_plannedRun 2 (some .int) :: ([.fieldLink RX3 44 "MirrorTower$Store" "plannedFrom" "I", .fieldLink RX3 88 "MirrorTower$Store" "planned" "I"] ++ wsX30)
def wsX3_lookAhead_r1 : List Cond := [Cond.fieldLink RX3 51 "MirrorTower$Store" "units" "I", Cond.fieldLink RX3 48 "MirrorTower$Store" "now" "I", Cond.fieldLink RX3 41 "MirrorTower$Store" "mostHeld" "[I", Cond.fieldLink RX3 38 "MirrorTower$Store" "unitsIn" "[I", Cond.fieldLink RX3 15 "MirrorTower$Store" "cells" "LMirrorTower$Face;", Cond.methodLink RX3 61 yX0_aimAll, Cond.instanceMethod yX0_aimAll, Cond.selects RX0 yX0_aimAll yX0_aimAll, Cond.initialized RX0, Cond.code yX0_aimAll cX0_aimAll 7 (some .int), Cond.fieldLink RX0 15 "MirrorTower$Face" "limits" "[I", Cond.fieldLink RX0 34 "MirrorTower$Face" "left" "[I", Cond.methodLink RX0 64 arraycopyName, Cond.native arraycopyName, Cond.static arraycopyName, Cond.initialized "java/lang/System", Cond.fieldLink RX0 11 "MirrorTower$Face" "field" "LMirrorTower$Field;", Cond.fieldLink RX0 25 "MirrorTower$Face" "order" "[I", Cond.fieldLink RX0 28 "MirrorTower$Face" "powers" "[I", Cond.fieldLink RX0 31 "MirrorTower$Face" "cellOf" "[I", Cond.methodLink RX0 70 yX0_readPowers, Cond.instanceMethod yX0_readPowers, Cond.selects RX0 yX0_readPowers yX0_readPowers, Cond.code yX0_readPowers cX0_readPowers 4 none]
def wsX3_lookAhead_r2 : List Cond := [Cond.methodLink RX0 54 yX1_size, Cond.instanceMethod yX1_size, Cond.selects RX1 yX1_size yX1_size, Cond.initialized RX1, Cond.code yX1_size cX1_size 1 (some .int), Cond.fieldLink RX1 43 "MirrorTower$Field" "size" "I", Cond.methodLink RX0 80 yX1_powerOf, Cond.instanceMethod yX1_powerOf, Cond.selects RX1 yX1_powerOf yX1_powerOf, Cond.code yX1_powerOf cX1_powerOf 6 (some .int), Cond.fieldLink RX1 33 "MirrorTower$Field" "heights" "[I", Cond.methodLink RX1 58 Lib.Math.max.name, Cond.static Lib.Math.max.name, Cond.initialized "java/lang/Math", Cond.code Lib.Math.max.name Lib.Math.max.code 2 (some .int), Cond.fieldLink RX1 21 "MirrorTower$Field" "blockers" "[I", Cond.methodLink RX1 50 yX1_isStowed, Cond.instanceMethod yX1_isStowed, Cond.selects RX1 yX1_isStowed yX1_isStowed, Cond.code yX1_isStowed cX1_isStowed 2 (some .boolean), Cond.fieldLink RX1 36 "MirrorTower$Field" "winds" "[I", Cond.methodLink RX1 54 yX1_soilOf, Cond.instanceMethod yX1_soilOf, Cond.selects RX1 yX1_soilOf yX1_soilOf]
def wsX3_lookAhead_r3 : List Cond := [Cond.code yX1_soilOf cX1_soilOf 3 (some .int), Cond.fieldLink RX1 24 "MirrorTower$Field" "soils" "[I", Cond.fieldLink RX1 39 "MirrorTower$Field" "dustAnHour" "I", Cond.methodLink RX1 66 Lib.Math.min.name, Cond.static Lib.Math.min.name, Cond.code Lib.Math.min.name Lib.Math.min.code 2 (some .int), Cond.methodLink RX1 63 yX1_shadersOf, Cond.instanceMethod yX1_shadersOf, Cond.selects RX1 yX1_shadersOf yX1_shadersOf, Cond.code yX1_shadersOf cX1_shadersOf 7 (some .int), Cond.fieldLink RX1 15 "MirrorTower$Field" "xs" "[I", Cond.fieldLink RX1 18 "MirrorTower$Field" "ys" "[I", Cond.fieldLink RX1 27 "MirrorTower$Field" "stepsX" "[I", Cond.fieldLink RX1 30 "MirrorTower$Field" "stepsY" "[I", Cond.fieldLink RX1 9 "MirrorTower$Field" "taken" "[I", Cond.methodLink RX0 74 yX0_rank, Cond.instanceMethod yX0_rank, Cond.selects RX0 yX0_rank yX0_rank, Cond.code yX0_rank cX0_rank 3 none, Cond.methodLink RX0 77 yX0_roomiestCell, Cond.instanceMethod yX0_roomiestCell, Cond.selects RX0 yX0_roomiestCell yX0_roomiestCell, Cond.code yX0_roomiestCell cX0_roomiestCell 3 (some .int), Cond.methodLink RX3 67 yX3_filled]
def wsX3_lookAhead_r4 : List Cond := [Cond.static yX3_filled, Cond.initialized RX3, Cond.code yX3_filled cX3_filled 2 (some .int), Cond.methodLink RX3 83 Lib.Math.min.name]
def wsX3_lookAhead : List Cond := .code yX3_lookAhead cX3_lookAhead 3 none :: ((wsX3_lookAhead_r1 ++ (wsX3_lookAhead_r2 ++ (wsX3_lookAhead_r3 ++ wsX3_lookAhead_r4))) ++ wsX30 ++ wsX00 ++ wsX10)
def wsX3_stateOf : List Cond := .code yX3_stateOf cX3_stateOf 2 (some .int) :: ([])
def wsX3_weigh : List Cond := .code yX3_weigh cX3_weigh 8 none :: ([.fieldLink RX3 38 "MirrorTower$Store" "unitsIn" "[I", .fieldLink RX3 29 "MirrorTower$Store" "gains" "[I", .fieldLink RX3 32 "MirrorTower$Store" "laterGains" "[I", .fieldLink RX3 35 "MirrorTower$Store" "choices" "[I", .methodLink RX3 101 yX3_stateOf, .static yX3_stateOf, .initialized RX3, .code yX3_stateOf cX3_stateOf 2 (some .int), .methodLink RX3 67 yX3_filled, .static yX3_filled, .code yX3_filled cX3_filled 2 (some .int), .methodLink RX3 83 Lib.Math.min.name, .static Lib.Math.min.name, .initialized "java/lang/Math", .code Lib.Math.min.name Lib.Math.min.code 2 (some .int), .methodLink RX3 70 yX3_needed, .static yX3_needed, .code yX3_needed cX3_needed 1 (some .int), .methodLink RX3 74 yX3_gainOf, .instanceMethod yX3_gainOf, .selects RX3 yX3_gainOf yX3_gainOf, .code yX3_gainOf cX3_gainOf 2 (some .int), .fieldLink RX3 19 "MirrorTower$Store" "prices" "[I"] ++ wsX30)
def wsX3_weighHour_r1 : List Cond := [Cond.fieldLink RX3 41 "MirrorTower$Store" "mostHeld" "[I", Cond.methodLink RX3 105 yX3_weigh, Cond.instanceMethod yX3_weigh, Cond.selects RX3 yX3_weigh yX3_weigh, Cond.initialized RX3, Cond.code yX3_weigh cX3_weigh 8 none, Cond.fieldLink RX3 38 "MirrorTower$Store" "unitsIn" "[I", Cond.fieldLink RX3 29 "MirrorTower$Store" "gains" "[I", Cond.fieldLink RX3 32 "MirrorTower$Store" "laterGains" "[I", Cond.fieldLink RX3 35 "MirrorTower$Store" "choices" "[I", Cond.methodLink RX3 101 yX3_stateOf, Cond.static yX3_stateOf, Cond.code yX3_stateOf cX3_stateOf 2 (some .int), Cond.methodLink RX3 67 yX3_filled, Cond.static yX3_filled, Cond.code yX3_filled cX3_filled 2 (some .int), Cond.methodLink RX3 83 Lib.Math.min.name, Cond.static Lib.Math.min.name, Cond.initialized "java/lang/Math", Cond.code Lib.Math.min.name Lib.Math.min.code 2 (some .int), Cond.methodLink RX3 70 yX3_needed, Cond.static yX3_needed, Cond.code yX3_needed cX3_needed 1 (some .int), Cond.methodLink RX3 74 yX3_gainOf]
def wsX3_weighHour_r2 : List Cond := [Cond.instanceMethod yX3_gainOf, Cond.selects RX3 yX3_gainOf yX3_gainOf, Cond.code yX3_gainOf cX3_gainOf 2 (some .int), Cond.fieldLink RX3 19 "MirrorTower$Store" "prices" "[I"]
def wsX3_weighHour : List Cond := .code yX3_weighHour cX3_weighHour 3 none :: ((wsX3_weighHour_r1 ++ wsX3_weighHour_r2) ++ wsX30)
def wsX3_followChoices : List Cond := .code yX3_followChoices cX3_followChoices 5 none :: ([.fieldLink RX3 88 "MirrorTower$Store" "planned" "I", .fieldLink RX3 48 "MirrorTower$Store" "now" "I", .fieldLink RX3 44 "MirrorTower$Store" "plannedFrom" "I", .fieldLink RX3 51 "MirrorTower$Store" "units" "I", .fieldLink RX3 54 "MirrorTower$Store" "warm" "Z", .fieldLink RX3 35 "MirrorTower$Store" "choices" "[I", .fieldLink RX3 38 "MirrorTower$Store" "unitsIn" "[I", .methodLink RX3 101 yX3_stateOf, .static yX3_stateOf, .initialized RX3, .code yX3_stateOf cX3_stateOf 2 (some .int), .methodLink RX3 67 yX3_filled, .static yX3_filled, .code yX3_filled cX3_filled 2 (some .int), .methodLink RX3 83 Lib.Math.min.name, .static Lib.Math.min.name, .initialized "java/lang/Math", .code Lib.Math.min.name Lib.Math.min.code 2 (some .int), .methodLink RX3 70 yX3_needed, .static yX3_needed, .code yX3_needed cX3_needed 1 (some .int)] ++ wsX30)
def wsX3_layPlan_r1 : List Cond := [Cond.fieldLink RX3 29 "MirrorTower$Store" "gains" "[I", Cond.fieldLink RX3 35 "MirrorTower$Store" "choices" "[I", Cond.fieldLink RX3 48 "MirrorTower$Store" "now" "I", Cond.fieldLink RX3 32 "MirrorTower$Store" "laterGains" "[I", Cond.fieldLink RX3 51 "MirrorTower$Store" "units" "I", Cond.fieldLink RX3 54 "MirrorTower$Store" "warm" "Z", Cond.methodLink RX3 91 yX3_lookAhead, Cond.instanceMethod yX3_lookAhead, Cond.selects RX3 yX3_lookAhead yX3_lookAhead, Cond.initialized RX3, Cond.code yX3_lookAhead cX3_lookAhead 3 none, Cond.fieldLink RX3 41 "MirrorTower$Store" "mostHeld" "[I", Cond.fieldLink RX3 38 "MirrorTower$Store" "unitsIn" "[I", Cond.fieldLink RX3 15 "MirrorTower$Store" "cells" "LMirrorTower$Face;", Cond.methodLink RX3 61 yX0_aimAll, Cond.instanceMethod yX0_aimAll, Cond.selects RX0 yX0_aimAll yX0_aimAll, Cond.initialized RX0, Cond.code yX0_aimAll cX0_aimAll 7 (some .int), Cond.fieldLink RX0 15 "MirrorTower$Face" "limits" "[I", Cond.fieldLink RX0 34 "MirrorTower$Face" "left" "[I", Cond.methodLink RX0 64 arraycopyName, Cond.native arraycopyName, Cond.static arraycopyName]
def wsX3_layPlan_r2 : List Cond := [Cond.initialized "java/lang/System", Cond.fieldLink RX0 11 "MirrorTower$Face" "field" "LMirrorTower$Field;", Cond.fieldLink RX0 25 "MirrorTower$Face" "order" "[I", Cond.fieldLink RX0 28 "MirrorTower$Face" "powers" "[I", Cond.fieldLink RX0 31 "MirrorTower$Face" "cellOf" "[I", Cond.methodLink RX0 70 yX0_readPowers, Cond.instanceMethod yX0_readPowers, Cond.selects RX0 yX0_readPowers yX0_readPowers, Cond.code yX0_readPowers cX0_readPowers 4 none, Cond.methodLink RX0 54 yX1_size, Cond.instanceMethod yX1_size, Cond.selects RX1 yX1_size yX1_size, Cond.initialized RX1, Cond.code yX1_size cX1_size 1 (some .int), Cond.fieldLink RX1 43 "MirrorTower$Field" "size" "I", Cond.methodLink RX0 80 yX1_powerOf, Cond.instanceMethod yX1_powerOf, Cond.selects RX1 yX1_powerOf yX1_powerOf, Cond.code yX1_powerOf cX1_powerOf 6 (some .int), Cond.fieldLink RX1 33 "MirrorTower$Field" "heights" "[I", Cond.methodLink RX1 58 Lib.Math.max.name, Cond.static Lib.Math.max.name, Cond.initialized "java/lang/Math", Cond.code Lib.Math.max.name Lib.Math.max.code 2 (some .int)]
def wsX3_layPlan_r3 : List Cond := [Cond.fieldLink RX1 21 "MirrorTower$Field" "blockers" "[I", Cond.methodLink RX1 50 yX1_isStowed, Cond.instanceMethod yX1_isStowed, Cond.selects RX1 yX1_isStowed yX1_isStowed, Cond.code yX1_isStowed cX1_isStowed 2 (some .boolean), Cond.fieldLink RX1 36 "MirrorTower$Field" "winds" "[I", Cond.methodLink RX1 54 yX1_soilOf, Cond.instanceMethod yX1_soilOf, Cond.selects RX1 yX1_soilOf yX1_soilOf, Cond.code yX1_soilOf cX1_soilOf 3 (some .int), Cond.fieldLink RX1 24 "MirrorTower$Field" "soils" "[I", Cond.fieldLink RX1 39 "MirrorTower$Field" "dustAnHour" "I", Cond.methodLink RX1 66 Lib.Math.min.name, Cond.static Lib.Math.min.name, Cond.code Lib.Math.min.name Lib.Math.min.code 2 (some .int), Cond.methodLink RX1 63 yX1_shadersOf, Cond.instanceMethod yX1_shadersOf, Cond.selects RX1 yX1_shadersOf yX1_shadersOf, Cond.code yX1_shadersOf cX1_shadersOf 7 (some .int), Cond.fieldLink RX1 15 "MirrorTower$Field" "xs" "[I", Cond.fieldLink RX1 18 "MirrorTower$Field" "ys" "[I", Cond.fieldLink RX1 27 "MirrorTower$Field" "stepsX" "[I", Cond.fieldLink RX1 30 "MirrorTower$Field" "stepsY" "[I", Cond.fieldLink RX1 9 "MirrorTower$Field" "taken" "[I"]
def wsX3_layPlan_r4 : List Cond := [Cond.methodLink RX0 74 yX0_rank, Cond.instanceMethod yX0_rank, Cond.selects RX0 yX0_rank yX0_rank, Cond.code yX0_rank cX0_rank 3 none, Cond.methodLink RX0 77 yX0_roomiestCell, Cond.instanceMethod yX0_roomiestCell, Cond.selects RX0 yX0_roomiestCell yX0_roomiestCell, Cond.code yX0_roomiestCell cX0_roomiestCell 3 (some .int), Cond.methodLink RX3 67 yX3_filled, Cond.static yX3_filled, Cond.code yX3_filled cX3_filled 2 (some .int), Cond.methodLink RX3 83 Lib.Math.min.name, Cond.methodLink RX3 23 yJ7_fill_53178, Cond.static yJ7_fill_53178, Cond.initialized RJ7, Cond.code yJ7_fill_53178 cJ7_fill_53178 4 none, Cond.methodLink RX3 94 yX3_weighHour, Cond.instanceMethod yX3_weighHour, Cond.selects RX3 yX3_weighHour yX3_weighHour, Cond.code yX3_weighHour cX3_weighHour 3 none, Cond.methodLink RX3 105 yX3_weigh, Cond.instanceMethod yX3_weigh, Cond.selects RX3 yX3_weigh yX3_weigh, Cond.code yX3_weigh cX3_weigh 8 none]
def wsX3_layPlan_r5 : List Cond := [Cond.methodLink RX3 101 yX3_stateOf, Cond.static yX3_stateOf, Cond.code yX3_stateOf cX3_stateOf 2 (some .int), Cond.methodLink RX3 70 yX3_needed, Cond.static yX3_needed, Cond.code yX3_needed cX3_needed 1 (some .int), Cond.methodLink RX3 74 yX3_gainOf, Cond.instanceMethod yX3_gainOf, Cond.selects RX3 yX3_gainOf yX3_gainOf, Cond.code yX3_gainOf cX3_gainOf 2 (some .int), Cond.fieldLink RX3 19 "MirrorTower$Store" "prices" "[I", Cond.methodLink RX3 98 yX3_followChoices, Cond.instanceMethod yX3_followChoices, Cond.selects RX3 yX3_followChoices yX3_followChoices, Cond.code yX3_followChoices cX3_followChoices 5 none, Cond.fieldLink RX3 88 "MirrorTower$Store" "planned" "I", Cond.fieldLink RX3 44 "MirrorTower$Store" "plannedFrom" "I"]
def wsX3_layPlan : List Cond := .code yX3_layPlan cX3_layPlan 3 (some .int) :: ((wsX3_layPlan_r1 ++ (wsX3_layPlan_r2 ++ (wsX3_layPlan_r3 ++ (wsX3_layPlan_r4 ++ wsX3_layPlan_r5)))) ++ wsX30 ++ wsX00 ++ wsX10)
def wsX4_init_r1 : List Cond := [Cond.methodLink RX4 1 objectInit, Cond.instanceMethod objectInit, Cond.code objectInit ⟨#[0xb1]⟩ 1 none, Cond.classLink RX4 7 RX1, Cond.instantiable RX1 11, Cond.initialized RX1, Cond.fieldLink RX4 10 "MirrorTower" "field" "LMirrorTower$Field;", Cond.classLink RX4 16 RX0, Cond.instantiable RX0 11, Cond.initialized RX0, Cond.fieldLink RX4 21 "MirrorTower" "cells" "LMirrorTower$Face;", Cond.classLink RX4 25 RX3, Cond.instantiable RX3 14, Cond.initialized RX3, Cond.fieldLink RX4 30 "MirrorTower" "store" "LMirrorTower$Store;", Cond.classLink RX4 34 RX2, Cond.instantiable RX2 5, Cond.initialized RX2, Cond.fieldLink RX4 37 "MirrorTower" "shots" "LMirrorTower$Shots;", Cond.fieldLink RX4 41 "MirrorTower" "trouble" "I", Cond.methodLink RX4 9 yX1_init, Cond.instanceMethod yX1_init, Cond.code yX1_init cX1_init 1 none, Cond.methodLink RX1 3 objectInit]
def wsX4_init_r2 : List Cond := [Cond.arrayClass .int, Cond.fieldLink RX1 9 "MirrorTower$Field" "taken" "[I", Cond.fieldLink RX1 15 "MirrorTower$Field" "xs" "[I", Cond.fieldLink RX1 18 "MirrorTower$Field" "ys" "[I", Cond.fieldLink RX1 21 "MirrorTower$Field" "blockers" "[I", Cond.fieldLink RX1 24 "MirrorTower$Field" "soils" "[I", Cond.fieldLink RX1 27 "MirrorTower$Field" "stepsX" "[I", Cond.fieldLink RX1 30 "MirrorTower$Field" "stepsY" "[I", Cond.fieldLink RX1 33 "MirrorTower$Field" "heights" "[I", Cond.fieldLink RX1 36 "MirrorTower$Field" "winds" "[I", Cond.fieldLink RX1 39 "MirrorTower$Field" "dustAnHour" "I", Cond.methodLink RX4 18 yX0_init, Cond.instanceMethod yX0_init, Cond.code yX0_init cX0_init 2 none, Cond.methodLink RX0 5 objectInit, Cond.fieldLink RX0 11 "MirrorTower$Face" "field" "LMirrorTower$Field;", Cond.fieldLink RX0 15 "MirrorTower$Face" "limits" "[I", Cond.fieldLink RX0 25 "MirrorTower$Face" "order" "[I", Cond.fieldLink RX0 28 "MirrorTower$Face" "powers" "[I", Cond.fieldLink RX0 31 "MirrorTower$Face" "cellOf" "[I", Cond.fieldLink RX0 34 "MirrorTower$Face" "left" "[I", Cond.fieldLink RX0 37 "MirrorTower$Face" "keptCells" "[I", Cond.fieldLink RX0 40 "MirrorTower$Face" "keptPowers" "[I", Cond.fieldLink RX0 43 "MirrorTower$Face" "setPowers" "[I"]
def wsX4_init_r3 : List Cond := [Cond.arrayClass .boolean, Cond.fieldLink RX0 46 "MirrorTower$Face" "fits" "[Z", Cond.methodLink RX0 19 yJ7_fill_53178, Cond.static yJ7_fill_53178, Cond.initialized RJ7, Cond.code yJ7_fill_53178 cJ7_fill_53178 4 none, Cond.methodLink RX4 27 yX3_init, Cond.instanceMethod yX3_init, Cond.code yX3_init cX3_init 3 none, Cond.methodLink RX3 3 objectInit, Cond.fieldLink RX3 9 "MirrorTower$Store" "field" "LMirrorTower$Field;", Cond.fieldLink RX3 15 "MirrorTower$Store" "cells" "LMirrorTower$Face;", Cond.fieldLink RX3 19 "MirrorTower$Store" "prices" "[I", Cond.fieldLink RX3 29 "MirrorTower$Store" "gains" "[I", Cond.fieldLink RX3 32 "MirrorTower$Store" "laterGains" "[I", Cond.fieldLink RX3 35 "MirrorTower$Store" "choices" "[I", Cond.fieldLink RX3 38 "MirrorTower$Store" "unitsIn" "[I", Cond.fieldLink RX3 41 "MirrorTower$Store" "mostHeld" "[I", Cond.fieldLink RX3 44 "MirrorTower$Store" "plannedFrom" "I", Cond.methodLink RX3 23 yJ7_fill_53178, Cond.methodLink RX4 36 yX2_init, Cond.instanceMethod yX2_init, Cond.code yX2_init cX2_init 1 none, Cond.methodLink RX2 3 objectInit]
def wsX4_init_r4 : List Cond := [Cond.fieldLink RX2 9 "MirrorTower$Shots" "marks" "[I", Cond.fieldLink RX2 15 "MirrorTower$Shots" "setsWith" "[I"]
def wsX4_init : List Cond := .code yX4_init cX4_init 1 none :: ((wsX4_init_r1 ++ (wsX4_init_r2 ++ (wsX4_init_r3 ++ wsX4_init_r4))) ++ wsX10 ++ wsX40 ++ wsX00 ++ wsX30 ++ wsX20)
def wsX4_isWithin : List Cond := .code yX4_isWithin cX4_isWithin 3 (some .boolean) :: ([])
def wsX4_refused : List Cond := .code yX4_refused cX4_refused 2 (some .int) :: ([.fieldLink RX4 41 "MirrorTower" "trouble" "I"] ++ wsX40)
def wsX4_granted : List Cond := .code yX4_granted cX4_granted 2 (some .int) :: ([.fieldLink RX4 41 "MirrorTower" "trouble" "I"] ++ wsX40)
def wsX4_mirror_r1 : List Cond := [Cond.fieldLink RX4 10 "MirrorTower" "field" "LMirrorTower$Field;", Cond.methodLink RX4 45 yX4_isWithin, Cond.static yX4_isWithin, Cond.initialized RX4, Cond.code yX4_isWithin cX4_isWithin 3 (some .boolean), Cond.methodLink RX4 49 yX4_refused, Cond.instanceMethod yX4_refused, Cond.selects RX4 yX4_refused yX4_refused, Cond.code yX4_refused cX4_refused 2 (some .int), Cond.fieldLink RX4 41 "MirrorTower" "trouble" "I", Cond.methodLink RX4 53 yX1_isTaken, Cond.instanceMethod yX1_isTaken, Cond.selects RX1 yX1_isTaken yX1_isTaken, Cond.initialized RX1, Cond.code yX1_isTaken cX1_isTaken 3 (some .boolean), Cond.fieldLink RX1 9 "MirrorTower$Field" "taken" "[I", Cond.methodLink RX4 57 yX1_size, Cond.instanceMethod yX1_size, Cond.selects RX1 yX1_size yX1_size, Cond.code yX1_size cX1_size 1 (some .int), Cond.fieldLink RX1 43 "MirrorTower$Field" "size" "I", Cond.methodLink RX4 61 yX1_place, Cond.instanceMethod yX1_place, Cond.selects RX1 yX1_place yX1_place]
def wsX4_mirror_r2 : List Cond := [Cond.code yX1_place cX1_place 5 (some .int), Cond.fieldLink RX1 15 "MirrorTower$Field" "xs" "[I", Cond.fieldLink RX1 18 "MirrorTower$Field" "ys" "[I", Cond.fieldLink RX1 21 "MirrorTower$Field" "blockers" "[I", Cond.methodLink RX1 46 yX1_isBetween, Cond.instanceMethod yX1_isBetween, Cond.selects RX1 yX1_isBetween yX1_isBetween, Cond.code yX1_isBetween cX1_isBetween 8 (some .boolean), Cond.methodLink RX4 65 yX4_granted, Cond.instanceMethod yX4_granted, Cond.selects RX4 yX4_granted yX4_granted, Cond.code yX4_granted cX4_granted 2 (some .int)]
def wsX4_mirror : List Cond := .code yX4_mirror cX4_mirror 4 (some .int) :: ((wsX4_mirror_r1 ++ wsX4_mirror_r2) ++ wsX40 ++ wsX10)
def wsX4_isHour : List Cond := .code yX4_isHour cX4_isHour 1 (some .boolean) :: ([.methodLink RX4 45 yX4_isWithin, .static yX4_isWithin, .initialized RX4, .code yX4_isWithin cX4_isWithin 3 (some .boolean)])
def wsX4_denied : List Cond := .code yX4_denied cX4_denied 2 (some .boolean) :: ([.fieldLink RX4 41 "MirrorTower" "trouble" "I"] ++ wsX40)
def wsX4_allowed : List Cond := .code yX4_allowed cX4_allowed 1 (some .boolean) :: ([.fieldLink RX4 41 "MirrorTower" "trouble" "I"] ++ wsX40)
def wsX4_sun_r1 : List Cond := [Cond.fieldLink RX4 10 "MirrorTower" "field" "LMirrorTower$Field;", Cond.methodLink RX4 45 yX4_isWithin, Cond.static yX4_isWithin, Cond.initialized RX4, Cond.code yX4_isWithin cX4_isWithin 3 (some .boolean), Cond.methodLink RX4 68 yX4_isHour, Cond.static yX4_isHour, Cond.code yX4_isHour cX4_isHour 1 (some .boolean), Cond.methodLink RX4 72 yX4_denied, Cond.instanceMethod yX4_denied, Cond.selects RX4 yX4_denied yX4_denied, Cond.code yX4_denied cX4_denied 2 (some .boolean), Cond.fieldLink RX4 41 "MirrorTower" "trouble" "I", Cond.methodLink RX4 75 yX1_setSun, Cond.instanceMethod yX1_setSun, Cond.selects RX1 yX1_setSun yX1_setSun, Cond.initialized RX1, Cond.code yX1_setSun cX1_setSun 5 none, Cond.fieldLink RX1 27 "MirrorTower$Field" "stepsX" "[I", Cond.fieldLink RX1 30 "MirrorTower$Field" "stepsY" "[I", Cond.fieldLink RX1 33 "MirrorTower$Field" "heights" "[I", Cond.methodLink RX4 79 yX4_allowed, Cond.instanceMethod yX4_allowed, Cond.selects RX4 yX4_allowed yX4_allowed]
def wsX4_sun_r2 : List Cond := [Cond.code yX4_allowed cX4_allowed 1 (some .boolean)]
def wsX4_sun : List Cond := .code yX4_sun cX4_sun 6 (some .boolean) :: ((wsX4_sun_r1 ++ wsX4_sun_r2) ++ wsX40 ++ wsX10)
def wsX4_isCell : List Cond := .code yX4_isCell cX4_isCell 1 (some .boolean) :: ([.methodLink RX4 45 yX4_isWithin, .static yX4_isWithin, .initialized RX4, .code yX4_isWithin cX4_isWithin 3 (some .boolean)])
def wsX4_limit : List Cond := .code yX4_limit cX4_limit 3 (some .boolean) :: ([.fieldLink RX4 21 "MirrorTower" "cells" "LMirrorTower$Face;", .methodLink RX4 83 yX4_isCell, .static yX4_isCell, .initialized RX4, .code yX4_isCell cX4_isCell 1 (some .boolean), .methodLink RX4 45 yX4_isWithin, .static yX4_isWithin, .code yX4_isWithin cX4_isWithin 3 (some .boolean), .methodLink RX4 72 yX4_denied, .instanceMethod yX4_denied, .selects RX4 yX4_denied yX4_denied, .code yX4_denied cX4_denied 2 (some .boolean), .fieldLink RX4 41 "MirrorTower" "trouble" "I", .methodLink RX4 86 yX0_setLimit, .instanceMethod yX0_setLimit, .selects RX0 yX0_setLimit yX0_setLimit, .initialized RX0, .code yX0_setLimit cX0_setLimit 3 none, .fieldLink RX0 15 "MirrorTower$Face" "limits" "[I", .methodLink RX4 79 yX4_allowed, .instanceMethod yX4_allowed, .selects RX4 yX4_allowed yX4_allowed, .code yX4_allowed cX4_allowed 1 (some .boolean)] ++ wsX40 ++ wsX00)
def wsX4_wind : List Cond := .code yX4_wind cX4_wind 3 (some .boolean) :: ([.fieldLink RX4 10 "MirrorTower" "field" "LMirrorTower$Field;", .methodLink RX4 68 yX4_isHour, .static yX4_isHour, .initialized RX4, .code yX4_isHour cX4_isHour 1 (some .boolean), .methodLink RX4 45 yX4_isWithin, .static yX4_isWithin, .code yX4_isWithin cX4_isWithin 3 (some .boolean), .methodLink RX4 72 yX4_denied, .instanceMethod yX4_denied, .selects RX4 yX4_denied yX4_denied, .code yX4_denied cX4_denied 2 (some .boolean), .fieldLink RX4 41 "MirrorTower" "trouble" "I", .methodLink RX4 90 yX1_setWind, .instanceMethod yX1_setWind, .selects RX1 yX1_setWind yX1_setWind, .initialized RX1, .code yX1_setWind cX1_setWind 3 none, .fieldLink RX1 36 "MirrorTower$Field" "winds" "[I", .methodLink RX4 79 yX4_allowed, .instanceMethod yX4_allowed, .selects RX4 yX4_allowed yX4_allowed, .code yX4_allowed cX4_allowed 1 (some .boolean)] ++ wsX40 ++ wsX10)
def wsX4_price : List Cond := .code yX4_price cX4_price 3 (some .boolean) :: ([.fieldLink RX4 30 "MirrorTower" "store" "LMirrorTower$Store;", .methodLink RX4 68 yX4_isHour, .static yX4_isHour, .initialized RX4, .code yX4_isHour cX4_isHour 1 (some .boolean), .methodLink RX4 45 yX4_isWithin, .static yX4_isWithin, .code yX4_isWithin cX4_isWithin 3 (some .boolean), .methodLink RX4 72 yX4_denied, .instanceMethod yX4_denied, .selects RX4 yX4_denied yX4_denied, .code yX4_denied cX4_denied 2 (some .boolean), .fieldLink RX4 41 "MirrorTower" "trouble" "I", .methodLink RX4 93 yX3_setPrice, .instanceMethod yX3_setPrice, .selects RX3 yX3_setPrice yX3_setPrice, .initialized RX3, .code yX3_setPrice cX3_setPrice 3 none, .fieldLink RX3 19 "MirrorTower$Store" "prices" "[I", .methodLink RX4 79 yX4_allowed, .instanceMethod yX4_allowed, .selects RX4 yX4_allowed yX4_allowed, .code yX4_allowed cX4_allowed 1 (some .boolean)] ++ wsX40 ++ wsX30)
def wsX4_dust : List Cond := .code yX4_dust cX4_dust 2 (some .boolean) :: ([.fieldLink RX4 10 "MirrorTower" "field" "LMirrorTower$Field;", .methodLink RX4 45 yX4_isWithin, .static yX4_isWithin, .initialized RX4, .code yX4_isWithin cX4_isWithin 3 (some .boolean), .methodLink RX4 72 yX4_denied, .instanceMethod yX4_denied, .selects RX4 yX4_denied yX4_denied, .code yX4_denied cX4_denied 2 (some .boolean), .fieldLink RX4 41 "MirrorTower" "trouble" "I", .methodLink RX4 96 yX1_setDust, .instanceMethod yX1_setDust, .selects RX1 yX1_setDust yX1_setDust, .initialized RX1, .code yX1_setDust cX1_setDust 2 none, .fieldLink RX1 39 "MirrorTower$Field" "dustAnHour" "I", .methodLink RX4 79 yX4_allowed, .instanceMethod yX4_allowed, .selects RX4 yX4_allowed yX4_allowed, .code yX4_allowed cX4_allowed 1 (some .boolean)] ++ wsX40 ++ wsX10)
def wsX4_isMirror : List Cond := .code yX4_isMirror cX4_isMirror 2 (some .boolean) :: ([.fieldLink RX4 10 "MirrorTower" "field" "LMirrorTower$Field;", .methodLink RX4 57 yX1_size, .instanceMethod yX1_size, .selects RX1 yX1_size yX1_size, .initialized RX1, .code yX1_size cX1_size 1 (some .int), .fieldLink RX1 43 "MirrorTower$Field" "size" "I", .methodLink RX4 45 yX4_isWithin, .static yX4_isWithin, .initialized RX4, .code yX4_isWithin cX4_isWithin 3 (some .boolean)] ++ wsX40 ++ wsX10)
def wsX4_shaded_r1 : List Cond := [Cond.fieldLink RX4 10 "MirrorTower" "field" "LMirrorTower$Field;", Cond.methodLink RX4 100 yX4_isMirror, Cond.instanceMethod yX4_isMirror, Cond.selects RX4 yX4_isMirror yX4_isMirror, Cond.initialized RX4, Cond.code yX4_isMirror cX4_isMirror 2 (some .boolean), Cond.methodLink RX4 57 yX1_size, Cond.instanceMethod yX1_size, Cond.selects RX1 yX1_size yX1_size, Cond.initialized RX1, Cond.code yX1_size cX1_size 1 (some .int), Cond.fieldLink RX1 43 "MirrorTower$Field" "size" "I", Cond.methodLink RX4 45 yX4_isWithin, Cond.static yX4_isWithin, Cond.code yX4_isWithin cX4_isWithin 3 (some .boolean), Cond.methodLink RX4 68 yX4_isHour, Cond.static yX4_isHour, Cond.code yX4_isHour cX4_isHour 1 (some .boolean), Cond.methodLink RX4 103 yX1_blockersOf, Cond.instanceMethod yX1_blockersOf, Cond.selects RX1 yX1_blockersOf yX1_blockersOf, Cond.code yX1_blockersOf cX1_blockersOf 2 (some .int), Cond.fieldLink RX1 21 "MirrorTower$Field" "blockers" "[I", Cond.methodLink RX4 106 yX1_shadersOf]
def wsX4_shaded_r2 : List Cond := [Cond.instanceMethod yX1_shadersOf, Cond.selects RX1 yX1_shadersOf yX1_shadersOf, Cond.code yX1_shadersOf cX1_shadersOf 7 (some .int), Cond.fieldLink RX1 33 "MirrorTower$Field" "heights" "[I", Cond.fieldLink RX1 15 "MirrorTower$Field" "xs" "[I", Cond.fieldLink RX1 18 "MirrorTower$Field" "ys" "[I", Cond.fieldLink RX1 27 "MirrorTower$Field" "stepsX" "[I", Cond.fieldLink RX1 30 "MirrorTower$Field" "stepsY" "[I", Cond.fieldLink RX1 9 "MirrorTower$Field" "taken" "[I"]
def wsX4_shaded : List Cond := .code yX4_shaded cX4_shaded 4 (some .int) :: ((wsX4_shaded_r1 ++ wsX4_shaded_r2) ++ wsX40 ++ wsX10)
def wsX4_power_r1 : List Cond := [Cond.fieldLink RX4 10 "MirrorTower" "field" "LMirrorTower$Field;", Cond.methodLink RX4 100 yX4_isMirror, Cond.instanceMethod yX4_isMirror, Cond.selects RX4 yX4_isMirror yX4_isMirror, Cond.initialized RX4, Cond.code yX4_isMirror cX4_isMirror 2 (some .boolean), Cond.methodLink RX4 57 yX1_size, Cond.instanceMethod yX1_size, Cond.selects RX1 yX1_size yX1_size, Cond.initialized RX1, Cond.code yX1_size cX1_size 1 (some .int), Cond.fieldLink RX1 43 "MirrorTower$Field" "size" "I", Cond.methodLink RX4 45 yX4_isWithin, Cond.static yX4_isWithin, Cond.code yX4_isWithin cX4_isWithin 3 (some .boolean), Cond.methodLink RX4 68 yX4_isHour, Cond.static yX4_isHour, Cond.code yX4_isHour cX4_isHour 1 (some .boolean), Cond.methodLink RX4 109 yX1_powerOf, Cond.instanceMethod yX1_powerOf, Cond.selects RX1 yX1_powerOf yX1_powerOf, Cond.code yX1_powerOf cX1_powerOf 6 (some .int), Cond.fieldLink RX1 33 "MirrorTower$Field" "heights" "[I", Cond.methodLink RX1 58 Lib.Math.max.name]
def wsX4_power_r2 : List Cond := [Cond.static Lib.Math.max.name, Cond.initialized "java/lang/Math", Cond.code Lib.Math.max.name Lib.Math.max.code 2 (some .int), Cond.fieldLink RX1 21 "MirrorTower$Field" "blockers" "[I", Cond.methodLink RX1 50 yX1_isStowed, Cond.instanceMethod yX1_isStowed, Cond.selects RX1 yX1_isStowed yX1_isStowed, Cond.code yX1_isStowed cX1_isStowed 2 (some .boolean), Cond.fieldLink RX1 36 "MirrorTower$Field" "winds" "[I", Cond.methodLink RX1 54 yX1_soilOf, Cond.instanceMethod yX1_soilOf, Cond.selects RX1 yX1_soilOf yX1_soilOf, Cond.code yX1_soilOf cX1_soilOf 3 (some .int), Cond.fieldLink RX1 24 "MirrorTower$Field" "soils" "[I", Cond.fieldLink RX1 39 "MirrorTower$Field" "dustAnHour" "I", Cond.methodLink RX1 66 Lib.Math.min.name, Cond.static Lib.Math.min.name, Cond.code Lib.Math.min.name Lib.Math.min.code 2 (some .int), Cond.methodLink RX1 63 yX1_shadersOf, Cond.instanceMethod yX1_shadersOf, Cond.selects RX1 yX1_shadersOf yX1_shadersOf, Cond.code yX1_shadersOf cX1_shadersOf 7 (some .int), Cond.fieldLink RX1 15 "MirrorTower$Field" "xs" "[I", Cond.fieldLink RX1 18 "MirrorTower$Field" "ys" "[I"]
def wsX4_power_r3 : List Cond := [Cond.fieldLink RX1 27 "MirrorTower$Field" "stepsX" "[I", Cond.fieldLink RX1 30 "MirrorTower$Field" "stepsY" "[I", Cond.fieldLink RX1 9 "MirrorTower$Field" "taken" "[I"]
def wsX4_power : List Cond := .code yX4_power cX4_power 3 (some .int) :: ((wsX4_power_r1 ++ (wsX4_power_r2 ++ wsX4_power_r3)) ++ wsX40 ++ wsX10)
def wsX4_stowed : List Cond := .code yX4_stowed cX4_stowed 2 (some .int) :: ([.fieldLink RX4 10 "MirrorTower" "field" "LMirrorTower$Field;", .methodLink RX4 68 yX4_isHour, .static yX4_isHour, .initialized RX4, .code yX4_isHour cX4_isHour 1 (some .boolean), .methodLink RX4 45 yX4_isWithin, .static yX4_isWithin, .code yX4_isWithin cX4_isWithin 3 (some .boolean), .methodLink RX4 113 yX1_isStowed, .instanceMethod yX1_isStowed, .selects RX1 yX1_isStowed yX1_isStowed, .initialized RX1, .code yX1_isStowed cX1_isStowed 2 (some .boolean), .fieldLink RX1 36 "MirrorTower$Field" "winds" "[I"] ++ wsX40 ++ wsX10)
def wsX4_soil_r1 : List Cond := [Cond.fieldLink RX4 10 "MirrorTower" "field" "LMirrorTower$Field;", Cond.methodLink RX4 100 yX4_isMirror, Cond.instanceMethod yX4_isMirror, Cond.selects RX4 yX4_isMirror yX4_isMirror, Cond.initialized RX4, Cond.code yX4_isMirror cX4_isMirror 2 (some .boolean), Cond.methodLink RX4 57 yX1_size, Cond.instanceMethod yX1_size, Cond.selects RX1 yX1_size yX1_size, Cond.initialized RX1, Cond.code yX1_size cX1_size 1 (some .int), Cond.fieldLink RX1 43 "MirrorTower$Field" "size" "I", Cond.methodLink RX4 45 yX4_isWithin, Cond.static yX4_isWithin, Cond.code yX4_isWithin cX4_isWithin 3 (some .boolean), Cond.methodLink RX4 116 yX1_soilOf, Cond.instanceMethod yX1_soilOf, Cond.selects RX1 yX1_soilOf yX1_soilOf, Cond.code yX1_soilOf cX1_soilOf 3 (some .int), Cond.fieldLink RX1 24 "MirrorTower$Field" "soils" "[I", Cond.fieldLink RX1 39 "MirrorTower$Field" "dustAnHour" "I", Cond.methodLink RX1 66 Lib.Math.min.name, Cond.static Lib.Math.min.name, Cond.initialized "java/lang/Math"]
def wsX4_soil_r2 : List Cond := [Cond.code Lib.Math.min.name Lib.Math.min.code 2 (some .int)]
def wsX4_soil : List Cond := .code yX4_soil cX4_soil 2 (some .int) :: ((wsX4_soil_r1 ++ wsX4_soil_r2) ++ wsX40 ++ wsX10)
def wsX4_wash_r1 : List Cond := [Cond.fieldLink RX4 10 "MirrorTower" "field" "LMirrorTower$Field;", Cond.methodLink RX4 45 yX4_isWithin, Cond.static yX4_isWithin, Cond.initialized RX4, Cond.code yX4_isWithin cX4_isWithin 3 (some .boolean), Cond.methodLink RX4 49 yX4_refused, Cond.instanceMethod yX4_refused, Cond.selects RX4 yX4_refused yX4_refused, Cond.code yX4_refused cX4_refused 2 (some .int), Cond.fieldLink RX4 41 "MirrorTower" "trouble" "I", Cond.methodLink RX4 119 yX1_washMost, Cond.instanceMethod yX1_washMost, Cond.selects RX1 yX1_washMost yX1_washMost, Cond.initialized RX1, Cond.code yX1_washMost cX1_washMost 5 (some .int), Cond.fieldLink RX1 43 "MirrorTower$Field" "size" "I", Cond.methodLink RX1 66 Lib.Math.min.name, Cond.static Lib.Math.min.name, Cond.initialized "java/lang/Math", Cond.code Lib.Math.min.name Lib.Math.min.code 2 (some .int), Cond.fieldLink RX1 24 "MirrorTower$Field" "soils" "[I", Cond.methodLink RX1 69 yX1_mostSoiled, Cond.instanceMethod yX1_mostSoiled, Cond.selects RX1 yX1_mostSoiled yX1_mostSoiled]
def wsX4_wash_r2 : List Cond := [Cond.code yX1_mostSoiled cX1_mostSoiled 3 (some .int), Cond.methodLink RX4 65 yX4_granted, Cond.instanceMethod yX4_granted, Cond.selects RX4 yX4_granted yX4_granted, Cond.code yX4_granted cX4_granted 2 (some .int)]
def wsX4_wash : List Cond := .code yX4_wash cX4_wash 2 (some .int) :: ((wsX4_wash_r1 ++ wsX4_wash_r2) ++ wsX40 ++ wsX10)
def wsX4_aim_r1 : List Cond := [Cond.fieldLink RX4 21 "MirrorTower" "cells" "LMirrorTower$Face;", Cond.methodLink RX4 68 yX4_isHour, Cond.static yX4_isHour, Cond.initialized RX4, Cond.code yX4_isHour cX4_isHour 1 (some .boolean), Cond.methodLink RX4 45 yX4_isWithin, Cond.static yX4_isWithin, Cond.code yX4_isWithin cX4_isWithin 3 (some .boolean), Cond.methodLink RX4 49 yX4_refused, Cond.instanceMethod yX4_refused, Cond.selects RX4 yX4_refused yX4_refused, Cond.code yX4_refused cX4_refused 2 (some .int), Cond.fieldLink RX4 41 "MirrorTower" "trouble" "I", Cond.methodLink RX4 122 yX0_keepAims, Cond.instanceMethod yX0_keepAims, Cond.selects RX0 yX0_keepAims yX0_keepAims, Cond.initialized RX0, Cond.code yX0_keepAims cX0_keepAims 4 (some .int), Cond.fieldLink RX0 11 "MirrorTower$Face" "field" "LMirrorTower$Field;", Cond.fieldLink RX0 60 "MirrorTower$Face" "keptSize" "I", Cond.fieldLink RX0 31 "MirrorTower$Face" "cellOf" "[I", Cond.fieldLink RX0 37 "MirrorTower$Face" "keptCells" "[I", Cond.methodLink RX0 64 arraycopyName, Cond.native arraycopyName]
def wsX4_aim_r2 : List Cond := [Cond.static arraycopyName, Cond.initialized "java/lang/System", Cond.fieldLink RX0 40 "MirrorTower$Face" "keptPowers" "[I", Cond.fieldLink RX0 15 "MirrorTower$Face" "limits" "[I", Cond.fieldLink RX0 34 "MirrorTower$Face" "left" "[I", Cond.methodLink RX0 50 yX0_aimAll, Cond.instanceMethod yX0_aimAll, Cond.selects RX0 yX0_aimAll yX0_aimAll, Cond.code yX0_aimAll cX0_aimAll 7 (some .int), Cond.fieldLink RX0 25 "MirrorTower$Face" "order" "[I", Cond.fieldLink RX0 28 "MirrorTower$Face" "powers" "[I", Cond.methodLink RX0 70 yX0_readPowers, Cond.instanceMethod yX0_readPowers, Cond.selects RX0 yX0_readPowers yX0_readPowers, Cond.code yX0_readPowers cX0_readPowers 4 none, Cond.methodLink RX0 54 yX1_size, Cond.instanceMethod yX1_size, Cond.selects RX1 yX1_size yX1_size, Cond.initialized RX1, Cond.code yX1_size cX1_size 1 (some .int), Cond.fieldLink RX1 43 "MirrorTower$Field" "size" "I", Cond.methodLink RX0 80 yX1_powerOf, Cond.instanceMethod yX1_powerOf, Cond.selects RX1 yX1_powerOf yX1_powerOf]
def wsX4_aim_r3 : List Cond := [Cond.code yX1_powerOf cX1_powerOf 6 (some .int), Cond.fieldLink RX1 33 "MirrorTower$Field" "heights" "[I", Cond.methodLink RX1 58 Lib.Math.max.name, Cond.static Lib.Math.max.name, Cond.initialized "java/lang/Math", Cond.code Lib.Math.max.name Lib.Math.max.code 2 (some .int), Cond.fieldLink RX1 21 "MirrorTower$Field" "blockers" "[I", Cond.methodLink RX1 50 yX1_isStowed, Cond.instanceMethod yX1_isStowed, Cond.selects RX1 yX1_isStowed yX1_isStowed, Cond.code yX1_isStowed cX1_isStowed 2 (some .boolean), Cond.fieldLink RX1 36 "MirrorTower$Field" "winds" "[I", Cond.methodLink RX1 54 yX1_soilOf, Cond.instanceMethod yX1_soilOf, Cond.selects RX1 yX1_soilOf yX1_soilOf, Cond.code yX1_soilOf cX1_soilOf 3 (some .int), Cond.fieldLink RX1 24 "MirrorTower$Field" "soils" "[I", Cond.fieldLink RX1 39 "MirrorTower$Field" "dustAnHour" "I", Cond.methodLink RX1 66 Lib.Math.min.name, Cond.static Lib.Math.min.name, Cond.code Lib.Math.min.name Lib.Math.min.code 2 (some .int), Cond.methodLink RX1 63 yX1_shadersOf, Cond.instanceMethod yX1_shadersOf, Cond.selects RX1 yX1_shadersOf yX1_shadersOf]
def wsX4_aim_r4 : List Cond := [Cond.code yX1_shadersOf cX1_shadersOf 7 (some .int), Cond.fieldLink RX1 15 "MirrorTower$Field" "xs" "[I", Cond.fieldLink RX1 18 "MirrorTower$Field" "ys" "[I", Cond.fieldLink RX1 27 "MirrorTower$Field" "stepsX" "[I", Cond.fieldLink RX1 30 "MirrorTower$Field" "stepsY" "[I", Cond.fieldLink RX1 9 "MirrorTower$Field" "taken" "[I", Cond.methodLink RX0 74 yX0_rank, Cond.instanceMethod yX0_rank, Cond.selects RX0 yX0_rank yX0_rank, Cond.code yX0_rank cX0_rank 3 none, Cond.methodLink RX0 77 yX0_roomiestCell, Cond.instanceMethod yX0_roomiestCell, Cond.selects RX0 yX0_roomiestCell yX0_roomiestCell, Cond.code yX0_roomiestCell cX0_roomiestCell 3 (some .int), Cond.methodLink RX4 65 yX4_granted, Cond.instanceMethod yX4_granted, Cond.selects RX4 yX4_granted yX4_granted, Cond.code yX4_granted cX4_granted 2 (some .int)]
def wsX4_aim : List Cond := .code yX4_aim cX4_aim 2 (some .int) :: ((wsX4_aim_r1 ++ (wsX4_aim_r2 ++ (wsX4_aim_r3 ++ wsX4_aim_r4))) ++ wsX40 ++ wsX00 ++ wsX10)
def wsX4_aimed : List Cond := .code yX4_aimed cX4_aimed 2 (some .int) :: ([.fieldLink RX4 21 "MirrorTower" "cells" "LMirrorTower$Face;", .methodLink RX4 100 yX4_isMirror, .instanceMethod yX4_isMirror, .selects RX4 yX4_isMirror yX4_isMirror, .initialized RX4, .code yX4_isMirror cX4_isMirror 2 (some .boolean), .fieldLink RX4 10 "MirrorTower" "field" "LMirrorTower$Field;", .methodLink RX4 57 yX1_size, .instanceMethod yX1_size, .selects RX1 yX1_size yX1_size, .initialized RX1, .code yX1_size cX1_size 1 (some .int), .fieldLink RX1 43 "MirrorTower$Field" "size" "I", .methodLink RX4 45 yX4_isWithin, .static yX4_isWithin, .code yX4_isWithin cX4_isWithin 3 (some .boolean), .methodLink RX4 125 yX0_keptCellOf, .instanceMethod yX0_keptCellOf, .selects RX0 yX0_keptCellOf yX0_keptCellOf, .initialized RX0, .code yX0_keptCellOf cX0_keptCellOf 2 (some .int), .fieldLink RX0 60 "MirrorTower$Face" "keptSize" "I", .fieldLink RX0 37 "MirrorTower$Face" "keptCells" "[I"] ++ wsX40 ++ wsX10 ++ wsX00)
def wsX4_face : List Cond := .code yX4_face cX4_face 2 (some .int) :: ([.fieldLink RX4 21 "MirrorTower" "cells" "LMirrorTower$Face;", .methodLink RX4 83 yX4_isCell, .static yX4_isCell, .initialized RX4, .code yX4_isCell cX4_isCell 1 (some .boolean), .methodLink RX4 45 yX4_isWithin, .static yX4_isWithin, .code yX4_isWithin cX4_isWithin 3 (some .boolean), .methodLink RX4 128 yX0_keptPowerAt, .instanceMethod yX0_keptPowerAt, .selects RX0 yX0_keptPowerAt yX0_keptPowerAt, .initialized RX0, .code yX0_keptPowerAt cX0_keptPowerAt 2 (some .int), .fieldLink RX0 40 "MirrorTower$Face" "keptPowers" "[I"] ++ wsX40 ++ wsX00)
def wsX4_best_r1 : List Cond := [Cond.fieldLink RX4 21 "MirrorTower" "cells" "LMirrorTower$Face;", Cond.methodLink RX4 68 yX4_isHour, Cond.static yX4_isHour, Cond.initialized RX4, Cond.code yX4_isHour cX4_isHour 1 (some .boolean), Cond.methodLink RX4 45 yX4_isWithin, Cond.static yX4_isWithin, Cond.code yX4_isWithin cX4_isWithin 3 (some .boolean), Cond.methodLink RX4 49 yX4_refused, Cond.instanceMethod yX4_refused, Cond.selects RX4 yX4_refused yX4_refused, Cond.code yX4_refused cX4_refused 2 (some .int), Cond.fieldLink RX4 41 "MirrorTower" "trouble" "I", Cond.methodLink RX4 131 yX0_bestHeat, Cond.instanceMethod yX0_bestHeat, Cond.selects RX0 yX0_bestHeat yX0_bestHeat, Cond.initialized RX0, Cond.code yX0_bestHeat cX0_bestHeat 6 (some .int), Cond.fieldLink RX0 11 "MirrorTower$Face" "field" "LMirrorTower$Field;", Cond.methodLink RX0 84 Lib.Math.min.name, Cond.static Lib.Math.min.name, Cond.initialized "java/lang/Math", Cond.code Lib.Math.min.name Lib.Math.min.code 2 (some .int), Cond.fieldLink RX0 46 "MirrorTower$Face" "fits" "[Z"]
def wsX4_best_r2 : List Cond := [Cond.fieldLink RX0 15 "MirrorTower$Face" "limits" "[I", Cond.fieldLink RX0 43 "MirrorTower$Face" "setPowers" "[I", Cond.methodLink RX0 96 Lib.Math.max.name, Cond.static Lib.Math.max.name, Cond.code Lib.Math.max.name Lib.Math.max.code 2 (some .int), Cond.methodLink RX0 70 yX0_readPowers, Cond.instanceMethod yX0_readPowers, Cond.selects RX0 yX0_readPowers yX0_readPowers, Cond.code yX0_readPowers cX0_readPowers 4 none, Cond.fieldLink RX0 28 "MirrorTower$Face" "powers" "[I", Cond.methodLink RX0 54 yX1_size, Cond.instanceMethod yX1_size, Cond.selects RX1 yX1_size yX1_size, Cond.initialized RX1, Cond.code yX1_size cX1_size 1 (some .int), Cond.fieldLink RX1 43 "MirrorTower$Field" "size" "I", Cond.methodLink RX0 80 yX1_powerOf, Cond.instanceMethod yX1_powerOf, Cond.selects RX1 yX1_powerOf yX1_powerOf, Cond.code yX1_powerOf cX1_powerOf 6 (some .int), Cond.fieldLink RX1 33 "MirrorTower$Field" "heights" "[I", Cond.methodLink RX1 58 Lib.Math.max.name, Cond.fieldLink RX1 21 "MirrorTower$Field" "blockers" "[I", Cond.methodLink RX1 50 yX1_isStowed]
def wsX4_best_r3 : List Cond := [Cond.instanceMethod yX1_isStowed, Cond.selects RX1 yX1_isStowed yX1_isStowed, Cond.code yX1_isStowed cX1_isStowed 2 (some .boolean), Cond.fieldLink RX1 36 "MirrorTower$Field" "winds" "[I", Cond.methodLink RX1 54 yX1_soilOf, Cond.instanceMethod yX1_soilOf, Cond.selects RX1 yX1_soilOf yX1_soilOf, Cond.code yX1_soilOf cX1_soilOf 3 (some .int), Cond.fieldLink RX1 24 "MirrorTower$Field" "soils" "[I", Cond.fieldLink RX1 39 "MirrorTower$Field" "dustAnHour" "I", Cond.methodLink RX1 66 Lib.Math.min.name, Cond.methodLink RX1 63 yX1_shadersOf, Cond.instanceMethod yX1_shadersOf, Cond.selects RX1 yX1_shadersOf yX1_shadersOf, Cond.code yX1_shadersOf cX1_shadersOf 7 (some .int), Cond.fieldLink RX1 15 "MirrorTower$Field" "xs" "[I", Cond.fieldLink RX1 18 "MirrorTower$Field" "ys" "[I", Cond.fieldLink RX1 27 "MirrorTower$Field" "stepsX" "[I", Cond.fieldLink RX1 30 "MirrorTower$Field" "stepsY" "[I", Cond.fieldLink RX1 9 "MirrorTower$Field" "taken" "[I", Cond.methodLink RX0 74 yX0_rank, Cond.instanceMethod yX0_rank, Cond.selects RX0 yX0_rank yX0_rank, Cond.code yX0_rank cX0_rank 3 none]
def wsX4_best_r4 : List Cond := [Cond.fieldLink RX0 25 "MirrorTower$Face" "order" "[I", Cond.methodLink RX0 89 yX0_addUpSets, Cond.instanceMethod yX0_addUpSets, Cond.selects RX0 yX0_addUpSets yX0_addUpSets, Cond.code yX0_addUpSets cX0_addUpSets 5 none, Cond.methodLink RX0 93 yX0_widen, Cond.instanceMethod yX0_widen, Cond.selects RX0 yX0_widen yX0_widen, Cond.code yX0_widen cX0_widen 5 none, Cond.methodLink RX4 65 yX4_granted, Cond.instanceMethod yX4_granted, Cond.selects RX4 yX4_granted yX4_granted, Cond.code yX4_granted cX4_granted 2 (some .int)]
def wsX4_best : List Cond := .code yX4_best cX4_best 2 (some .int) :: ((wsX4_best_r1 ++ (wsX4_best_r2 ++ (wsX4_best_r3 ++ wsX4_best_r4))) ++ wsX40 ++ wsX00 ++ wsX10)
def wsX4_comes_r1 : List Cond := [Cond.fieldLink RX4 30 "MirrorTower" "store" "LMirrorTower$Store;", Cond.fieldLink RX4 21 "MirrorTower" "cells" "LMirrorTower$Face;", Cond.methodLink RX4 134 yX3_hourNow, Cond.instanceMethod yX3_hourNow, Cond.selects RX3 yX3_hourNow yX3_hourNow, Cond.initialized RX3, Cond.code yX3_hourNow cX3_hourNow 1 (some .int), Cond.fieldLink RX3 48 "MirrorTower$Store" "now" "I", Cond.methodLink RX4 45 yX4_isWithin, Cond.static yX4_isWithin, Cond.initialized RX4, Cond.code yX4_isWithin cX4_isWithin 3 (some .boolean), Cond.methodLink RX4 137 yX0_aimAll, Cond.instanceMethod yX0_aimAll, Cond.selects RX0 yX0_aimAll yX0_aimAll, Cond.initialized RX0, Cond.code yX0_aimAll cX0_aimAll 7 (some .int), Cond.fieldLink RX0 15 "MirrorTower$Face" "limits" "[I", Cond.fieldLink RX0 34 "MirrorTower$Face" "left" "[I", Cond.methodLink RX0 64 arraycopyName, Cond.native arraycopyName, Cond.static arraycopyName, Cond.initialized "java/lang/System", Cond.fieldLink RX0 11 "MirrorTower$Face" "field" "LMirrorTower$Field;"]
def wsX4_comes_r2 : List Cond := [Cond.fieldLink RX0 25 "MirrorTower$Face" "order" "[I", Cond.fieldLink RX0 28 "MirrorTower$Face" "powers" "[I", Cond.fieldLink RX0 31 "MirrorTower$Face" "cellOf" "[I", Cond.methodLink RX0 70 yX0_readPowers, Cond.instanceMethod yX0_readPowers, Cond.selects RX0 yX0_readPowers yX0_readPowers, Cond.code yX0_readPowers cX0_readPowers 4 none, Cond.methodLink RX0 54 yX1_size, Cond.instanceMethod yX1_size, Cond.selects RX1 yX1_size yX1_size, Cond.initialized RX1, Cond.code yX1_size cX1_size 1 (some .int), Cond.fieldLink RX1 43 "MirrorTower$Field" "size" "I", Cond.methodLink RX0 80 yX1_powerOf, Cond.instanceMethod yX1_powerOf, Cond.selects RX1 yX1_powerOf yX1_powerOf, Cond.code yX1_powerOf cX1_powerOf 6 (some .int), Cond.fieldLink RX1 33 "MirrorTower$Field" "heights" "[I", Cond.methodLink RX1 58 Lib.Math.max.name, Cond.static Lib.Math.max.name, Cond.initialized "java/lang/Math", Cond.code Lib.Math.max.name Lib.Math.max.code 2 (some .int), Cond.fieldLink RX1 21 "MirrorTower$Field" "blockers" "[I", Cond.methodLink RX1 50 yX1_isStowed]
def wsX4_comes_r3 : List Cond := [Cond.instanceMethod yX1_isStowed, Cond.selects RX1 yX1_isStowed yX1_isStowed, Cond.code yX1_isStowed cX1_isStowed 2 (some .boolean), Cond.fieldLink RX1 36 "MirrorTower$Field" "winds" "[I", Cond.methodLink RX1 54 yX1_soilOf, Cond.instanceMethod yX1_soilOf, Cond.selects RX1 yX1_soilOf yX1_soilOf, Cond.code yX1_soilOf cX1_soilOf 3 (some .int), Cond.fieldLink RX1 24 "MirrorTower$Field" "soils" "[I", Cond.fieldLink RX1 39 "MirrorTower$Field" "dustAnHour" "I", Cond.methodLink RX1 66 Lib.Math.min.name, Cond.static Lib.Math.min.name, Cond.code Lib.Math.min.name Lib.Math.min.code 2 (some .int), Cond.methodLink RX1 63 yX1_shadersOf, Cond.instanceMethod yX1_shadersOf, Cond.selects RX1 yX1_shadersOf yX1_shadersOf, Cond.code yX1_shadersOf cX1_shadersOf 7 (some .int), Cond.fieldLink RX1 15 "MirrorTower$Field" "xs" "[I", Cond.fieldLink RX1 18 "MirrorTower$Field" "ys" "[I", Cond.fieldLink RX1 27 "MirrorTower$Field" "stepsX" "[I", Cond.fieldLink RX1 30 "MirrorTower$Field" "stepsY" "[I", Cond.fieldLink RX1 9 "MirrorTower$Field" "taken" "[I", Cond.methodLink RX0 74 yX0_rank, Cond.instanceMethod yX0_rank]
def wsX4_comes_r4 : List Cond := [Cond.selects RX0 yX0_rank yX0_rank, Cond.code yX0_rank cX0_rank 3 none, Cond.methodLink RX0 77 yX0_roomiestCell, Cond.instanceMethod yX0_roomiestCell, Cond.selects RX0 yX0_roomiestCell yX0_roomiestCell, Cond.code yX0_roomiestCell cX0_roomiestCell 3 (some .int)]
def wsX4_comes : List Cond := .code yX4_comes cX4_comes 3 (some .int) :: ((wsX4_comes_r1 ++ (wsX4_comes_r2 ++ (wsX4_comes_r3 ++ wsX4_comes_r4))) ++ wsX40 ++ wsX30 ++ wsX00 ++ wsX10)
def wsX4_plan_r1 : List Cond := [Cond.fieldLink RX4 30 "MirrorTower" "store" "LMirrorTower$Store;", Cond.methodLink RX4 140 yX3_layPlan, Cond.instanceMethod yX3_layPlan, Cond.selects RX3 yX3_layPlan yX3_layPlan, Cond.initialized RX3, Cond.code yX3_layPlan cX3_layPlan 3 (some .int), Cond.fieldLink RX3 29 "MirrorTower$Store" "gains" "[I", Cond.fieldLink RX3 35 "MirrorTower$Store" "choices" "[I", Cond.fieldLink RX3 48 "MirrorTower$Store" "now" "I", Cond.fieldLink RX3 32 "MirrorTower$Store" "laterGains" "[I", Cond.fieldLink RX3 51 "MirrorTower$Store" "units" "I", Cond.fieldLink RX3 54 "MirrorTower$Store" "warm" "Z", Cond.methodLink RX3 91 yX3_lookAhead, Cond.instanceMethod yX3_lookAhead, Cond.selects RX3 yX3_lookAhead yX3_lookAhead, Cond.code yX3_lookAhead cX3_lookAhead 3 none, Cond.fieldLink RX3 41 "MirrorTower$Store" "mostHeld" "[I", Cond.fieldLink RX3 38 "MirrorTower$Store" "unitsIn" "[I", Cond.fieldLink RX3 15 "MirrorTower$Store" "cells" "LMirrorTower$Face;", Cond.methodLink RX3 61 yX0_aimAll, Cond.instanceMethod yX0_aimAll, Cond.selects RX0 yX0_aimAll yX0_aimAll, Cond.initialized RX0, Cond.code yX0_aimAll cX0_aimAll 7 (some .int)]
def wsX4_plan_r2 : List Cond := [Cond.fieldLink RX0 15 "MirrorTower$Face" "limits" "[I", Cond.fieldLink RX0 34 "MirrorTower$Face" "left" "[I", Cond.methodLink RX0 64 arraycopyName, Cond.native arraycopyName, Cond.static arraycopyName, Cond.initialized "java/lang/System", Cond.fieldLink RX0 11 "MirrorTower$Face" "field" "LMirrorTower$Field;", Cond.fieldLink RX0 25 "MirrorTower$Face" "order" "[I", Cond.fieldLink RX0 28 "MirrorTower$Face" "powers" "[I", Cond.fieldLink RX0 31 "MirrorTower$Face" "cellOf" "[I", Cond.methodLink RX0 70 yX0_readPowers, Cond.instanceMethod yX0_readPowers, Cond.selects RX0 yX0_readPowers yX0_readPowers, Cond.code yX0_readPowers cX0_readPowers 4 none, Cond.methodLink RX0 54 yX1_size, Cond.instanceMethod yX1_size, Cond.selects RX1 yX1_size yX1_size, Cond.initialized RX1, Cond.code yX1_size cX1_size 1 (some .int), Cond.fieldLink RX1 43 "MirrorTower$Field" "size" "I", Cond.methodLink RX0 80 yX1_powerOf, Cond.instanceMethod yX1_powerOf, Cond.selects RX1 yX1_powerOf yX1_powerOf, Cond.code yX1_powerOf cX1_powerOf 6 (some .int)]
def wsX4_plan_r3 : List Cond := [Cond.fieldLink RX1 33 "MirrorTower$Field" "heights" "[I", Cond.methodLink RX1 58 Lib.Math.max.name, Cond.static Lib.Math.max.name, Cond.initialized "java/lang/Math", Cond.code Lib.Math.max.name Lib.Math.max.code 2 (some .int), Cond.fieldLink RX1 21 "MirrorTower$Field" "blockers" "[I", Cond.methodLink RX1 50 yX1_isStowed, Cond.instanceMethod yX1_isStowed, Cond.selects RX1 yX1_isStowed yX1_isStowed, Cond.code yX1_isStowed cX1_isStowed 2 (some .boolean), Cond.fieldLink RX1 36 "MirrorTower$Field" "winds" "[I", Cond.methodLink RX1 54 yX1_soilOf, Cond.instanceMethod yX1_soilOf, Cond.selects RX1 yX1_soilOf yX1_soilOf, Cond.code yX1_soilOf cX1_soilOf 3 (some .int), Cond.fieldLink RX1 24 "MirrorTower$Field" "soils" "[I", Cond.fieldLink RX1 39 "MirrorTower$Field" "dustAnHour" "I", Cond.methodLink RX1 66 Lib.Math.min.name, Cond.static Lib.Math.min.name, Cond.code Lib.Math.min.name Lib.Math.min.code 2 (some .int), Cond.methodLink RX1 63 yX1_shadersOf, Cond.instanceMethod yX1_shadersOf, Cond.selects RX1 yX1_shadersOf yX1_shadersOf, Cond.code yX1_shadersOf cX1_shadersOf 7 (some .int)]
def wsX4_plan_r4 : List Cond := [Cond.fieldLink RX1 15 "MirrorTower$Field" "xs" "[I", Cond.fieldLink RX1 18 "MirrorTower$Field" "ys" "[I", Cond.fieldLink RX1 27 "MirrorTower$Field" "stepsX" "[I", Cond.fieldLink RX1 30 "MirrorTower$Field" "stepsY" "[I", Cond.fieldLink RX1 9 "MirrorTower$Field" "taken" "[I", Cond.methodLink RX0 74 yX0_rank, Cond.instanceMethod yX0_rank, Cond.selects RX0 yX0_rank yX0_rank, Cond.code yX0_rank cX0_rank 3 none, Cond.methodLink RX0 77 yX0_roomiestCell, Cond.instanceMethod yX0_roomiestCell, Cond.selects RX0 yX0_roomiestCell yX0_roomiestCell, Cond.code yX0_roomiestCell cX0_roomiestCell 3 (some .int), Cond.methodLink RX3 67 yX3_filled, Cond.static yX3_filled, Cond.code yX3_filled cX3_filled 2 (some .int), Cond.methodLink RX3 83 Lib.Math.min.name, Cond.methodLink RX3 23 yJ7_fill_53178, Cond.static yJ7_fill_53178, Cond.initialized RJ7, Cond.code yJ7_fill_53178 cJ7_fill_53178 4 none, Cond.methodLink RX3 94 yX3_weighHour, Cond.instanceMethod yX3_weighHour, Cond.selects RX3 yX3_weighHour yX3_weighHour]
def wsX4_plan_r5 : List Cond := [Cond.code yX3_weighHour cX3_weighHour 3 none, Cond.methodLink RX3 105 yX3_weigh, Cond.instanceMethod yX3_weigh, Cond.selects RX3 yX3_weigh yX3_weigh, Cond.code yX3_weigh cX3_weigh 8 none, Cond.methodLink RX3 101 yX3_stateOf, Cond.static yX3_stateOf, Cond.code yX3_stateOf cX3_stateOf 2 (some .int), Cond.methodLink RX3 70 yX3_needed, Cond.static yX3_needed, Cond.code yX3_needed cX3_needed 1 (some .int), Cond.methodLink RX3 74 yX3_gainOf, Cond.instanceMethod yX3_gainOf, Cond.selects RX3 yX3_gainOf yX3_gainOf, Cond.code yX3_gainOf cX3_gainOf 2 (some .int), Cond.fieldLink RX3 19 "MirrorTower$Store" "prices" "[I", Cond.methodLink RX3 98 yX3_followChoices, Cond.instanceMethod yX3_followChoices, Cond.selects RX3 yX3_followChoices yX3_followChoices, Cond.code yX3_followChoices cX3_followChoices 5 none, Cond.fieldLink RX3 88 "MirrorTower$Store" "planned" "I", Cond.fieldLink RX3 44 "MirrorTower$Store" "plannedFrom" "I"]
def wsX4_plan : List Cond := .code yX4_plan cX4_plan 1 (some .int) :: ((wsX4_plan_r1 ++ (wsX4_plan_r2 ++ (wsX4_plan_r3 ++ (wsX4_plan_r4 ++ wsX4_plan_r5)))) ++ wsX40 ++ wsX30 ++ wsX00 ++ wsX10)
def wsX4_runs : List Cond := .code yX4_runs cX4_runs 2 (some .int) :: ([.fieldLink RX4 30 "MirrorTower" "store" "LMirrorTower$Store;", .methodLink RX4 68 yX4_isHour, .static yX4_isHour, .initialized RX4, .code yX4_isHour cX4_isHour 1 (some .boolean), .methodLink RX4 45 yX4_isWithin, .static yX4_isWithin, .code yX4_isWithin cX4_isWithin 3 (some .boolean), .methodLink RX4 143 yX3_plannedRun, .instanceMethod yX3_plannedRun, .selects RX3 yX3_plannedRun yX3_plannedRun, .initialized RX3, .code yX3_plannedRun cX3_plannedRun 2 (some .int), .fieldLink RX3 44 "MirrorTower$Store" "plannedFrom" "I", .fieldLink RX3 88 "MirrorTower$Store" "planned" "I"] ++ wsX40 ++ wsX30)
def wsX4_step_r1 : List Cond := [Cond.fieldLink RX4 30 "MirrorTower" "store" "LMirrorTower$Store;", Cond.methodLink RX4 146 yX3_passHour, Cond.instanceMethod yX3_passHour, Cond.selects RX3 yX3_passHour yX3_passHour, Cond.initialized RX3, Cond.code yX3_passHour cX3_passHour 5 (some .int), Cond.fieldLink RX3 51 "MirrorTower$Store" "units" "I", Cond.fieldLink RX3 15 "MirrorTower$Store" "cells" "LMirrorTower$Face;", Cond.fieldLink RX3 48 "MirrorTower$Store" "now" "I", Cond.fieldLink RX3 54 "MirrorTower$Store" "warm" "Z", Cond.fieldLink RX3 58 "MirrorTower$Store" "earnings" "I", Cond.fieldLink RX3 9 "MirrorTower$Store" "field" "LMirrorTower$Field;", Cond.methodLink RX3 61 yX0_aimAll, Cond.instanceMethod yX0_aimAll, Cond.selects RX0 yX0_aimAll yX0_aimAll, Cond.initialized RX0, Cond.code yX0_aimAll cX0_aimAll 7 (some .int), Cond.fieldLink RX0 15 "MirrorTower$Face" "limits" "[I", Cond.fieldLink RX0 34 "MirrorTower$Face" "left" "[I", Cond.methodLink RX0 64 arraycopyName, Cond.native arraycopyName, Cond.static arraycopyName, Cond.initialized "java/lang/System", Cond.fieldLink RX0 11 "MirrorTower$Face" "field" "LMirrorTower$Field;"]
def wsX4_step_r2 : List Cond := [Cond.fieldLink RX0 25 "MirrorTower$Face" "order" "[I", Cond.fieldLink RX0 28 "MirrorTower$Face" "powers" "[I", Cond.fieldLink RX0 31 "MirrorTower$Face" "cellOf" "[I", Cond.methodLink RX0 70 yX0_readPowers, Cond.instanceMethod yX0_readPowers, Cond.selects RX0 yX0_readPowers yX0_readPowers, Cond.code yX0_readPowers cX0_readPowers 4 none, Cond.methodLink RX0 54 yX1_size, Cond.instanceMethod yX1_size, Cond.selects RX1 yX1_size yX1_size, Cond.initialized RX1, Cond.code yX1_size cX1_size 1 (some .int), Cond.fieldLink RX1 43 "MirrorTower$Field" "size" "I", Cond.methodLink RX0 80 yX1_powerOf, Cond.instanceMethod yX1_powerOf, Cond.selects RX1 yX1_powerOf yX1_powerOf, Cond.code yX1_powerOf cX1_powerOf 6 (some .int), Cond.fieldLink RX1 33 "MirrorTower$Field" "heights" "[I", Cond.methodLink RX1 58 Lib.Math.max.name, Cond.static Lib.Math.max.name, Cond.initialized "java/lang/Math", Cond.code Lib.Math.max.name Lib.Math.max.code 2 (some .int), Cond.fieldLink RX1 21 "MirrorTower$Field" "blockers" "[I", Cond.methodLink RX1 50 yX1_isStowed]
def wsX4_step_r3 : List Cond := [Cond.instanceMethod yX1_isStowed, Cond.selects RX1 yX1_isStowed yX1_isStowed, Cond.code yX1_isStowed cX1_isStowed 2 (some .boolean), Cond.fieldLink RX1 36 "MirrorTower$Field" "winds" "[I", Cond.methodLink RX1 54 yX1_soilOf, Cond.instanceMethod yX1_soilOf, Cond.selects RX1 yX1_soilOf yX1_soilOf, Cond.code yX1_soilOf cX1_soilOf 3 (some .int), Cond.fieldLink RX1 24 "MirrorTower$Field" "soils" "[I", Cond.fieldLink RX1 39 "MirrorTower$Field" "dustAnHour" "I", Cond.methodLink RX1 66 Lib.Math.min.name, Cond.static Lib.Math.min.name, Cond.code Lib.Math.min.name Lib.Math.min.code 2 (some .int), Cond.methodLink RX1 63 yX1_shadersOf, Cond.instanceMethod yX1_shadersOf, Cond.selects RX1 yX1_shadersOf yX1_shadersOf, Cond.code yX1_shadersOf cX1_shadersOf 7 (some .int), Cond.fieldLink RX1 15 "MirrorTower$Field" "xs" "[I", Cond.fieldLink RX1 18 "MirrorTower$Field" "ys" "[I", Cond.fieldLink RX1 27 "MirrorTower$Field" "stepsX" "[I", Cond.fieldLink RX1 30 "MirrorTower$Field" "stepsY" "[I", Cond.fieldLink RX1 9 "MirrorTower$Field" "taken" "[I", Cond.methodLink RX0 74 yX0_rank, Cond.instanceMethod yX0_rank]
def wsX4_step_r4 : List Cond := [Cond.selects RX0 yX0_rank yX0_rank, Cond.code yX0_rank cX0_rank 3 none, Cond.methodLink RX0 77 yX0_roomiestCell, Cond.instanceMethod yX0_roomiestCell, Cond.selects RX0 yX0_roomiestCell yX0_roomiestCell, Cond.code yX0_roomiestCell cX0_roomiestCell 3 (some .int), Cond.methodLink RX3 67 yX3_filled, Cond.static yX3_filled, Cond.code yX3_filled cX3_filled 2 (some .int), Cond.methodLink RX3 83 Lib.Math.min.name, Cond.methodLink RX3 70 yX3_needed, Cond.static yX3_needed, Cond.code yX3_needed cX3_needed 1 (some .int), Cond.methodLink RX3 74 yX3_gainOf, Cond.instanceMethod yX3_gainOf, Cond.selects RX3 yX3_gainOf yX3_gainOf, Cond.code yX3_gainOf cX3_gainOf 2 (some .int), Cond.fieldLink RX3 19 "MirrorTower$Store" "prices" "[I", Cond.methodLink RX3 78 yX1_growSoil, Cond.instanceMethod yX1_growSoil, Cond.selects RX1 yX1_growSoil yX1_growSoil, Cond.code yX1_growSoil cX1_growSoil 2 none, Cond.methodLink RX4 49 yX4_refused, Cond.instanceMethod yX4_refused]
def wsX4_step_r5 : List Cond := [Cond.selects RX4 yX4_refused yX4_refused, Cond.initialized RX4, Cond.code yX4_refused cX4_refused 2 (some .int), Cond.fieldLink RX4 41 "MirrorTower" "trouble" "I", Cond.methodLink RX4 65 yX4_granted, Cond.instanceMethod yX4_granted, Cond.selects RX4 yX4_granted yX4_granted, Cond.code yX4_granted cX4_granted 2 (some .int)]
def wsX4_step : List Cond := .code yX4_step cX4_step 3 (some .int) :: ((wsX4_step_r1 ++ (wsX4_step_r2 ++ (wsX4_step_r3 ++ (wsX4_step_r4 ++ wsX4_step_r5)))) ++ wsX40 ++ wsX30 ++ wsX00 ++ wsX10)
def wsX4_earned : List Cond := .code yX4_earned cX4_earned 1 (some .int) :: ([.fieldLink RX4 30 "MirrorTower" "store" "LMirrorTower$Store;", .methodLink RX4 150 yX3_earnedInAll, .instanceMethod yX3_earnedInAll, .selects RX3 yX3_earnedInAll yX3_earnedInAll, .initialized RX3, .code yX3_earnedInAll cX3_earnedInAll 1 (some .int), .fieldLink RX3 58 "MirrorTower$Store" "earnings" "I"] ++ wsX40 ++ wsX30)
def wsX4_shot_r1 : List Cond := [Cond.constantLong RX4 153 (4294967295), Cond.methodLink RX4 161 Lib.Math.min.name, Cond.static Lib.Math.min.name, Cond.initialized "java/lang/Math", Cond.code Lib.Math.min.name Lib.Math.min.code 2 (some .int), Cond.fieldLink RX4 10 "MirrorTower" "field" "LMirrorTower$Field;", Cond.fieldLink RX4 37 "MirrorTower" "shots" "LMirrorTower$Shots;", Cond.methodLink RX4 155 yJ13_bitCount_95d88, Cond.static yJ13_bitCount_95d88, Cond.initialized RJ13, Cond.code yJ13_bitCount_95d88 cJ13_bitCount_95d88 2 (some .int), Cond.constantLong RJ13 314 (6148914691236517205), Cond.constantLong RJ13 316 (3689348814741910323), Cond.constantLong RJ13 318 (1085102592571150095), Cond.methodLink RX4 45 yX4_isWithin, Cond.static yX4_isWithin, Cond.initialized RX4, Cond.code yX4_isWithin cX4_isWithin 3 (some .boolean), Cond.methodLink RX4 49 yX4_refused, Cond.instanceMethod yX4_refused, Cond.selects RX4 yX4_refused yX4_refused, Cond.code yX4_refused cX4_refused 2 (some .int), Cond.fieldLink RX4 41 "MirrorTower" "trouble" "I", Cond.methodLink RX4 57 yX1_size]
def wsX4_shot_r2 : List Cond := [Cond.instanceMethod yX1_size, Cond.selects RX1 yX1_size yX1_size, Cond.initialized RX1, Cond.code yX1_size cX1_size 1 (some .int), Cond.fieldLink RX1 43 "MirrorTower$Field" "size" "I", Cond.methodLink RX4 166 yX2_size, Cond.instanceMethod yX2_size, Cond.selects RX2 yX2_size yX2_size, Cond.initialized RX2, Cond.code yX2_size cX2_size 1 (some .int), Cond.fieldLink RX2 18 "MirrorTower$Shots" "size" "I", Cond.methodLink RX4 167 yX2_note, Cond.instanceMethod yX2_note, Cond.selects RX2 yX2_note yX2_note, Cond.code yX2_note cX2_note 6 (some .int), Cond.fieldLink RX2 9 "MirrorTower$Shots" "marks" "[I", Cond.fieldLink RX2 22 "MirrorTower$Shots" "missing" "I", Cond.methodLink RX2 31 Lib.Math.min.name, Cond.methodLink RX2 25 yJ13_bitCount_95d88, Cond.methodLink RX4 65 yX4_granted, Cond.instanceMethod yX4_granted, Cond.selects RX4 yX4_granted yX4_granted, Cond.code yX4_granted cX4_granted 2 (some .int)]
def wsX4_shot : List Cond := .code yX4_shot cX4_shot 6 (some .int) :: ((wsX4_shot_r1 ++ wsX4_shot_r2) ++ wsX40 ++ wsX10 ++ wsX20)
def wsX4_forget : List Cond := .code yX4_forget cX4_forget 1 (some .int) :: ([.fieldLink RX4 37 "MirrorTower" "shots" "LMirrorTower$Shots;", .methodLink RX4 171 yX2_drop, .instanceMethod yX2_drop, .selects RX2 yX2_drop yX2_drop, .initialized RX2, .code yX2_drop cX2_drop 2 (some .int), .fieldLink RX2 18 "MirrorTower$Shots" "size" "I", .fieldLink RX2 9 "MirrorTower$Shots" "marks" "[I", .fieldLink RX2 22 "MirrorTower$Shots" "missing" "I", .methodLink RX2 37 yJ7_fill_53178, .static yJ7_fill_53178, .initialized RJ7, .code yJ7_fill_53178 cJ7_fill_53178 4 none] ++ wsX40 ++ wsX20)
def wsX4_agree_r1 : List Cond := [Cond.fieldLink RX4 37 "MirrorTower" "shots" "LMirrorTower$Shots;", Cond.fieldLink RX4 10 "MirrorTower" "field" "LMirrorTower$Field;", Cond.methodLink RX4 57 yX1_size, Cond.instanceMethod yX1_size, Cond.selects RX1 yX1_size yX1_size, Cond.initialized RX1, Cond.code yX1_size cX1_size 1 (some .int), Cond.fieldLink RX1 43 "MirrorTower$Field" "size" "I", Cond.methodLink RX4 174 yX2_setsOf, Cond.instanceMethod yX2_setsOf, Cond.selects RX2 yX2_setsOf yX2_setsOf, Cond.initialized RX2, Cond.code yX2_setsOf cX2_setsOf 2 (some .int), Cond.fieldLink RX2 47 "MirrorTower$Shots" "sets" "I", Cond.methodLink RX2 43 yX2_tally, Cond.instanceMethod yX2_tally, Cond.selects RX2 yX2_tally yX2_tally, Cond.code yX2_tally cX2_tally 4 none, Cond.fieldLink RX2 15 "MirrorTower$Shots" "setsWith" "[I", Cond.fieldLink RX2 22 "MirrorTower$Shots" "missing" "I", Cond.fieldLink RX2 9 "MirrorTower$Shots" "marks" "[I", Cond.methodLink RX2 37 yJ7_fill_53178, Cond.static yJ7_fill_53178, Cond.initialized RJ7]
def wsX4_agree_r2 : List Cond := [Cond.code yJ7_fill_53178 cJ7_fill_53178 4 none]
def wsX4_agree : List Cond := .code yX4_agree cX4_agree 1 (some .int) :: ((wsX4_agree_r1 ++ wsX4_agree_r2) ++ wsX40 ++ wsX10 ++ wsX20)
def wsX4_stuck_r1 : List Cond := [Cond.fieldLink RX4 37 "MirrorTower" "shots" "LMirrorTower$Shots;", Cond.fieldLink RX4 10 "MirrorTower" "field" "LMirrorTower$Field;", Cond.methodLink RX4 100 yX4_isMirror, Cond.instanceMethod yX4_isMirror, Cond.selects RX4 yX4_isMirror yX4_isMirror, Cond.initialized RX4, Cond.code yX4_isMirror cX4_isMirror 2 (some .boolean), Cond.methodLink RX4 57 yX1_size, Cond.instanceMethod yX1_size, Cond.selects RX1 yX1_size yX1_size, Cond.initialized RX1, Cond.code yX1_size cX1_size 1 (some .int), Cond.fieldLink RX1 43 "MirrorTower$Field" "size" "I", Cond.methodLink RX4 45 yX4_isWithin, Cond.static yX4_isWithin, Cond.code yX4_isWithin cX4_isWithin 3 (some .boolean), Cond.methodLink RX4 177 yX2_verdictOn, Cond.instanceMethod yX2_verdictOn, Cond.selects RX2 yX2_verdictOn yX2_verdictOn, Cond.initialized RX2, Cond.code yX2_verdictOn cX2_verdictOn 3 (some .int), Cond.fieldLink RX2 15 "MirrorTower$Shots" "setsWith" "[I", Cond.methodLink RX2 43 yX2_tally, Cond.instanceMethod yX2_tally]
def wsX4_stuck_r2 : List Cond := [Cond.selects RX2 yX2_tally yX2_tally, Cond.code yX2_tally cX2_tally 4 none, Cond.fieldLink RX2 22 "MirrorTower$Shots" "missing" "I", Cond.fieldLink RX2 47 "MirrorTower$Shots" "sets" "I", Cond.fieldLink RX2 9 "MirrorTower$Shots" "marks" "[I", Cond.methodLink RX2 37 yJ7_fill_53178, Cond.static yJ7_fill_53178, Cond.initialized RJ7, Cond.code yJ7_fill_53178 cJ7_fill_53178 4 none, Cond.methodLink RX2 50 yX2_isSure, Cond.instanceMethod yX2_isSure, Cond.selects RX2 yX2_isSure yX2_isSure, Cond.code yX2_isSure cX2_isSure 2 (some .boolean)]
def wsX4_stuck : List Cond := .code yX4_stuck cX4_stuck 2 (some .int) :: ((wsX4_stuck_r1 ++ wsX4_stuck_r2) ++ wsX40 ++ wsX10 ++ wsX20)
def wsX4_unsure_r1 : List Cond := [Cond.fieldLink RX4 37 "MirrorTower" "shots" "LMirrorTower$Shots;", Cond.fieldLink RX4 10 "MirrorTower" "field" "LMirrorTower$Field;", Cond.methodLink RX4 57 yX1_size, Cond.instanceMethod yX1_size, Cond.selects RX1 yX1_size yX1_size, Cond.initialized RX1, Cond.code yX1_size cX1_size 1 (some .int), Cond.fieldLink RX1 43 "MirrorTower$Field" "size" "I", Cond.methodLink RX4 180 yX2_unsureOf, Cond.instanceMethod yX2_unsureOf, Cond.selects RX2 yX2_unsureOf yX2_unsureOf, Cond.initialized RX2, Cond.code yX2_unsureOf cX2_unsureOf 4 (some .int), Cond.methodLink RX2 43 yX2_tally, Cond.instanceMethod yX2_tally, Cond.selects RX2 yX2_tally yX2_tally, Cond.code yX2_tally cX2_tally 4 none, Cond.fieldLink RX2 15 "MirrorTower$Shots" "setsWith" "[I", Cond.fieldLink RX2 22 "MirrorTower$Shots" "missing" "I", Cond.fieldLink RX2 47 "MirrorTower$Shots" "sets" "I", Cond.fieldLink RX2 9 "MirrorTower$Shots" "marks" "[I", Cond.methodLink RX2 37 yJ7_fill_53178, Cond.static yJ7_fill_53178, Cond.initialized RJ7]
def wsX4_unsure_r2 : List Cond := [Cond.code yJ7_fill_53178 cJ7_fill_53178 4 none, Cond.methodLink RX2 50 yX2_isSure, Cond.instanceMethod yX2_isSure, Cond.selects RX2 yX2_isSure yX2_isSure, Cond.code yX2_isSure cX2_isSure 2 (some .boolean)]
def wsX4_unsure : List Cond := .code yX4_unsure cX4_unsure 1 (some .int) :: ((wsX4_unsure_r1 ++ wsX4_unsure_r2) ++ wsX40 ++ wsX10 ++ wsX20)
def wsX4_count_r1 : List Cond := [Cond.fieldLink RX4 10 "MirrorTower" "field" "LMirrorTower$Field;", Cond.fieldLink RX4 30 "MirrorTower" "store" "LMirrorTower$Store;", Cond.fieldLink RX4 37 "MirrorTower" "shots" "LMirrorTower$Shots;", Cond.methodLink RX4 57 yX1_size, Cond.instanceMethod yX1_size, Cond.selects RX1 yX1_size yX1_size, Cond.initialized RX1, Cond.code yX1_size cX1_size 1 (some .int), Cond.fieldLink RX1 43 "MirrorTower$Field" "size" "I", Cond.methodLink RX4 134 yX3_hourNow, Cond.instanceMethod yX3_hourNow, Cond.selects RX3 yX3_hourNow yX3_hourNow, Cond.initialized RX3, Cond.code yX3_hourNow cX3_hourNow 1 (some .int), Cond.fieldLink RX3 48 "MirrorTower$Store" "now" "I", Cond.methodLink RX4 183 yX3_unitsHeld, Cond.instanceMethod yX3_unitsHeld, Cond.selects RX3 yX3_unitsHeld yX3_unitsHeld, Cond.code yX3_unitsHeld cX3_unitsHeld 1 (some .int), Cond.fieldLink RX3 51 "MirrorTower$Store" "units" "I", Cond.methodLink RX4 186 yX3_isWarm, Cond.instanceMethod yX3_isWarm, Cond.selects RX3 yX3_isWarm yX3_isWarm, Cond.code yX3_isWarm cX3_isWarm 1 (some .boolean)]
def wsX4_count_r2 : List Cond := [Cond.fieldLink RX3 54 "MirrorTower$Store" "warm" "Z", Cond.methodLink RX4 166 yX2_size, Cond.instanceMethod yX2_size, Cond.selects RX2 yX2_size yX2_size, Cond.initialized RX2, Cond.code yX2_size cX2_size 1 (some .int), Cond.fieldLink RX2 18 "MirrorTower$Shots" "size" "I", Cond.methodLink RX4 189 yX1_soilInAll, Cond.instanceMethod yX1_soilInAll, Cond.selects RX1 yX1_soilInAll yX1_soilInAll, Cond.code yX1_soilInAll cX1_soilInAll 3 (some .int), Cond.fieldLink RX1 24 "MirrorTower$Field" "soils" "[I"]
def wsX4_count : List Cond := .code yX4_count cX4_count 2 (some .int) :: ((wsX4_count_r1 ++ wsX4_count_r2) ++ wsX40 ++ wsX10 ++ wsX30 ++ wsX20)
def wsX4_trouble : List Cond := .code yX4_trouble cX4_trouble 1 (some .int) :: ([.fieldLink RX4 41 "MirrorTower" "trouble" "I"] ++ wsX40)
def wsX5_refused : List Cond := .code yX5_refused cX5_refused 2 (some .int) :: ([.fieldLink RX5 7 "MirrorTowerModel" "trouble" "I"] ++ wsX50)
