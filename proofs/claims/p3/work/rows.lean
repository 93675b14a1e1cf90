section
-- ===== PART A: goes FIRST, ahead of the names: the tables' words, and 'selects' of the private methods out of them =====
/-- a private method of a class that the tables say can be made, by its rows of tables_1 -/
def lw_okq (q : MethodName × Nat) : Prop := (q.1.cls ≠ "java/lang/invoke/MethodHandle" ∧ q.1.cls ≠ "java/lang/invoke/VarHandle") ∧ Cond.instantiable q.1.cls q.2 ∈ tables_1 ∧ Cond.privateMethod q.1 ∈ tables_1 ∧ Cond.instanceMethod q.1 ∈ tables_1
theorem lw_p0 : lw_okq (⟨"MirrorTower", "refused", "(I)I"⟩, 5) := ⟨⟨by decide +kernel, by decide +kernel⟩, List.mem_of_getElem? (i := 12) (by decide +kernel), List.mem_of_getElem? (i := 200) (by decide +kernel), List.mem_of_getElem? (i := 201) (by decide +kernel)⟩
theorem lw_p1 : lw_okq (⟨"MirrorTower$Field", "isBetween", "(II)Z"⟩, 11) := ⟨⟨by decide +kernel, by decide +kernel⟩, List.mem_of_getElem? (i := 20) (by decide +kernel), List.mem_of_getElem? (i := 216) (by decide +kernel), List.mem_of_getElem? (i := 217) (by decide +kernel)⟩
theorem lw_p2 : lw_okq (⟨"MirrorTower", "granted", "(I)I"⟩, 5) := ⟨⟨by decide +kernel, by decide +kernel⟩, List.mem_of_getElem? (i := 12) (by decide +kernel), List.mem_of_getElem? (i := 220) (by decide +kernel), List.mem_of_getElem? (i := 221) (by decide +kernel)⟩
theorem lw_p3 : lw_okq (⟨"MirrorTower", "denied", "(I)Z"⟩, 5) := ⟨⟨by decide +kernel, by decide +kernel⟩, List.mem_of_getElem? (i := 12) (by decide +kernel), List.mem_of_getElem? (i := 231) (by decide +kernel), List.mem_of_getElem? (i := 232) (by decide +kernel)⟩
theorem lw_p4 : lw_okq (⟨"MirrorTower", "allowed", "()Z"⟩, 5) := ⟨⟨by decide +kernel, by decide +kernel⟩, List.mem_of_getElem? (i := 12) (by decide +kernel), List.mem_of_getElem? (i := 239) (by decide +kernel), List.mem_of_getElem? (i := 240) (by decide +kernel)⟩
theorem lw_p5 : lw_okq (⟨"MirrorTower", "isMirror", "(I)Z"⟩, 5) := ⟨⟨by decide +kernel, by decide +kernel⟩, List.mem_of_getElem? (i := 12) (by decide +kernel), List.mem_of_getElem? (i := 282) (by decide +kernel), List.mem_of_getElem? (i := 283) (by decide +kernel)⟩
theorem lw_p6 : lw_okq (⟨"MirrorTower$Field", "mostSoiled", "()I"⟩, 11) := ⟨⟨by decide +kernel, by decide +kernel⟩, List.mem_of_getElem? (i := 20) (by decide +kernel), List.mem_of_getElem? (i := 335) (by decide +kernel), List.mem_of_getElem? (i := 336) (by decide +kernel)⟩
theorem lw_p7 : lw_okq (⟨"MirrorTower$Face", "readPowers", "(II)V"⟩, 11) := ⟨⟨by decide +kernel, by decide +kernel⟩, List.mem_of_getElem? (i := 61) (by decide +kernel), List.mem_of_getElem? (i := 351) (by decide +kernel), List.mem_of_getElem? (i := 352) (by decide +kernel)⟩
theorem lw_p8 : lw_okq (⟨"MirrorTower$Face", "rank", "()V"⟩, 11) := ⟨⟨by decide +kernel, by decide +kernel⟩, List.mem_of_getElem? (i := 61) (by decide +kernel), List.mem_of_getElem? (i := 357) (by decide +kernel), List.mem_of_getElem? (i := 358) (by decide +kernel)⟩
theorem lw_p9 : lw_okq (⟨"MirrorTower$Face", "roomiestCell", "()I"⟩, 11) := ⟨⟨by decide +kernel, by decide +kernel⟩, List.mem_of_getElem? (i := 61) (by decide +kernel), List.mem_of_getElem? (i := 364) (by decide +kernel), List.mem_of_getElem? (i := 365) (by decide +kernel)⟩
theorem lw_p10 : lw_okq (⟨"MirrorTower$Face", "addUpSets", "(I)V"⟩, 11) := ⟨⟨by decide +kernel, by decide +kernel⟩, List.mem_of_getElem? (i := 61) (by decide +kernel), List.mem_of_getElem? (i := 393) (by decide +kernel), List.mem_of_getElem? (i := 394) (by decide +kernel)⟩
theorem lw_p11 : lw_okq (⟨"MirrorTower$Face", "widen", "(II)V"⟩, 11) := ⟨⟨by decide +kernel, by decide +kernel⟩, List.mem_of_getElem? (i := 61) (by decide +kernel), List.mem_of_getElem? (i := 397) (by decide +kernel), List.mem_of_getElem? (i := 398) (by decide +kernel)⟩
theorem lw_p12 : lw_okq (⟨"MirrorTower$Store", "lookAhead", "()V"⟩, 14) := ⟨⟨by decide +kernel, by decide +kernel⟩, List.mem_of_getElem? (i := 105) (by decide +kernel), List.mem_of_getElem? (i := 419) (by decide +kernel), List.mem_of_getElem? (i := 420) (by decide +kernel)⟩
theorem lw_p13 : lw_okq (⟨"MirrorTower$Store", "weighHour", "(I)V"⟩, 14) := ⟨⟨by decide +kernel, by decide +kernel⟩, List.mem_of_getElem? (i := 105) (by decide +kernel), List.mem_of_getElem? (i := 428) (by decide +kernel), List.mem_of_getElem? (i := 429) (by decide +kernel)⟩
theorem lw_p14 : lw_okq (⟨"MirrorTower$Store", "weigh", "(IIZ)V"⟩, 14) := ⟨⟨by decide +kernel, by decide +kernel⟩, List.mem_of_getElem? (i := 105) (by decide +kernel), List.mem_of_getElem? (i := 432) (by decide +kernel), List.mem_of_getElem? (i := 433) (by decide +kernel)⟩
theorem lw_p15 : lw_okq (⟨"MirrorTower$Store", "gainOf", "(I)I"⟩, 14) := ⟨⟨by decide +kernel, by decide +kernel⟩, List.mem_of_getElem? (i := 105) (by decide +kernel), List.mem_of_getElem? (i := 442) (by decide +kernel), List.mem_of_getElem? (i := 443) (by decide +kernel)⟩
def lw_privs_1 : List (MethodName × Nat) := [(⟨"MirrorTower", "refused", "(I)I"⟩, 5), (⟨"MirrorTower$Field", "isBetween", "(II)Z"⟩, 11), (⟨"MirrorTower", "granted", "(I)I"⟩, 5), (⟨"MirrorTower", "denied", "(I)Z"⟩, 5), (⟨"MirrorTower", "allowed", "()Z"⟩, 5), (⟨"MirrorTower", "isMirror", "(I)Z"⟩, 5), (⟨"MirrorTower$Field", "mostSoiled", "()I"⟩, 11), (⟨"MirrorTower$Face", "readPowers", "(II)V"⟩, 11), (⟨"MirrorTower$Face", "rank", "()V"⟩, 11), (⟨"MirrorTower$Face", "roomiestCell", "()I"⟩, 11), (⟨"MirrorTower$Face", "addUpSets", "(I)V"⟩, 11), (⟨"MirrorTower$Face", "widen", "(II)V"⟩, 11), (⟨"MirrorTower$Store", "lookAhead", "()V"⟩, 14), (⟨"MirrorTower$Store", "weighHour", "(I)V"⟩, 14), (⟨"MirrorTower$Store", "weigh", "(IIZ)V"⟩, 14), (⟨"MirrorTower$Store", "gainOf", "(I)I"⟩, 14)]
theorem lw_r1 : ∀ q ∈ lw_privs_1, lw_okq q := List.forall_mem_cons.mpr ⟨lw_p0, List.forall_mem_cons.mpr ⟨lw_p1, List.forall_mem_cons.mpr ⟨lw_p2, List.forall_mem_cons.mpr ⟨lw_p3, List.forall_mem_cons.mpr ⟨lw_p4, List.forall_mem_cons.mpr ⟨lw_p5, List.forall_mem_cons.mpr ⟨lw_p6, List.forall_mem_cons.mpr ⟨lw_p7, List.forall_mem_cons.mpr ⟨lw_p8, List.forall_mem_cons.mpr ⟨lw_p9, List.forall_mem_cons.mpr ⟨lw_p10, List.forall_mem_cons.mpr ⟨lw_p11, List.forall_mem_cons.mpr ⟨lw_p12, List.forall_mem_cons.mpr ⟨lw_p13, List.forall_mem_cons.mpr ⟨lw_p14, List.forall_mem_cons.mpr ⟨lw_p15, fun _ h => absurd h List.not_mem_nil⟩⟩⟩⟩⟩⟩⟩⟩⟩⟩⟩⟩⟩⟩⟩⟩
theorem lw_p16 : lw_okq (⟨"MirrorTower$Store", "followChoices", "()V"⟩, 14) := ⟨⟨by decide +kernel, by decide +kernel⟩, List.mem_of_getElem? (i := 105) (by decide +kernel), List.mem_of_getElem? (i := 446) (by decide +kernel), List.mem_of_getElem? (i := 447) (by decide +kernel)⟩
theorem lw_p17 : lw_okq (⟨"MirrorTower$Shots", "tally", "(I)V"⟩, 5) := ⟨⟨by decide +kernel, by decide +kernel⟩, List.mem_of_getElem? (i := 155) (by decide +kernel), List.mem_of_getElem? (i := 517) (by decide +kernel), List.mem_of_getElem? (i := 518) (by decide +kernel)⟩
theorem lw_p18 : lw_okq (⟨"MirrorTower$Shots", "isSure", "(I)Z"⟩, 5) := ⟨⟨by decide +kernel, by decide +kernel⟩, List.mem_of_getElem? (i := 155) (by decide +kernel), List.mem_of_getElem? (i := 529) (by decide +kernel), List.mem_of_getElem? (i := 530) (by decide +kernel)⟩
theorem lw_p19 : lw_okq (⟨"MirrorTowerModel", "refused", "(I)I"⟩, 33) := ⟨⟨by decide +kernel, by decide +kernel⟩, List.mem_of_getElem? (i := 561) (by decide +kernel), List.mem_of_getElem? (i := 675) (by decide +kernel), List.mem_of_getElem? (i := 676) (by decide +kernel)⟩
theorem lw_p20 : lw_okq (⟨"MirrorTowerModel", "done", "(I)I"⟩, 33) := ⟨⟨by decide +kernel, by decide +kernel⟩, List.mem_of_getElem? (i := 561) (by decide +kernel), List.mem_of_getElem? (i := 679) (by decide +kernel), List.mem_of_getElem? (i := 680) (by decide +kernel)⟩
theorem lw_p21 : lw_okq (⟨"MirrorTowerModel", "denied", "(I)Z"⟩, 33) := ⟨⟨by decide +kernel, by decide +kernel⟩, List.mem_of_getElem? (i := 561) (by decide +kernel), List.mem_of_getElem? (i := 690) (by decide +kernel), List.mem_of_getElem? (i := 691) (by decide +kernel)⟩
theorem lw_p22 : lw_okq (⟨"MirrorTowerModel", "granted", "()Z"⟩, 33) := ⟨⟨by decide +kernel, by decide +kernel⟩, List.mem_of_getElem? (i := 561) (by decide +kernel), List.mem_of_getElem? (i := 694) (by decide +kernel), List.mem_of_getElem? (i := 695) (by decide +kernel)⟩
theorem lw_p23 : lw_okq (⟨"MirrorTowerModel", "isMirror", "(I)Z"⟩, 33) := ⟨⟨by decide +kernel, by decide +kernel⟩, List.mem_of_getElem? (i := 561) (by decide +kernel), List.mem_of_getElem? (i := 718) (by decide +kernel), List.mem_of_getElem? (i := 719) (by decide +kernel)⟩
theorem lw_p24 : lw_okq (⟨"MirrorTowerModel", "blocks", "(I)I"⟩, 33) := ⟨⟨by decide +kernel, by decide +kernel⟩, List.mem_of_getElem? (i := 561) (by decide +kernel), List.mem_of_getElem? (i := 722) (by decide +kernel), List.mem_of_getElem? (i := 723) (by decide +kernel)⟩
theorem lw_p25 : lw_okq (⟨"MirrorTowerModel", "shades", "(II)I"⟩, 33) := ⟨⟨by decide +kernel, by decide +kernel⟩, List.mem_of_getElem? (i := 561) (by decide +kernel), List.mem_of_getElem? (i := 726) (by decide +kernel), List.mem_of_getElem? (i := 727) (by decide +kernel)⟩
theorem lw_p26 : lw_okq (⟨"MirrorTowerModel", "powerOf", "(III)I"⟩, 33) := ⟨⟨by decide +kernel, by decide +kernel⟩, List.mem_of_getElem? (i := 561) (by decide +kernel), List.mem_of_getElem? (i := 734) (by decide +kernel), List.mem_of_getElem? (i := 735) (by decide +kernel)⟩
theorem lw_p27 : lw_okq (⟨"MirrorTowerModel", "isStowed", "(I)Z"⟩, 33) := ⟨⟨by decide +kernel, by decide +kernel⟩, List.mem_of_getElem? (i := 561) (by decide +kernel), List.mem_of_getElem? (i := 738) (by decide +kernel), List.mem_of_getElem? (i := 739) (by decide +kernel)⟩
theorem lw_p28 : lw_okq (⟨"MirrorTowerModel", "aims", "(II)I"⟩, 33) := ⟨⟨by decide +kernel, by decide +kernel⟩, List.mem_of_getElem? (i := 561) (by decide +kernel), List.mem_of_getElem? (i := 760) (by decide +kernel), List.mem_of_getElem? (i := 761) (by decide +kernel)⟩
theorem lw_p29 : lw_okq (⟨"MirrorTowerModel", "orders", "(II)V"⟩, 33) := ⟨⟨by decide +kernel, by decide +kernel⟩, List.mem_of_getElem? (i := 561) (by decide +kernel), List.mem_of_getElem? (i := 764) (by decide +kernel), List.mem_of_getElem? (i := 765) (by decide +kernel)⟩
theorem lw_p30 : lw_okq (⟨"MirrorTowerModel", "tries", "(II)V"⟩, 33) := ⟨⟨by decide +kernel, by decide +kernel⟩, List.mem_of_getElem? (i := 561) (by decide +kernel), List.mem_of_getElem? (i := 780) (by decide +kernel), List.mem_of_getElem? (i := 781) (by decide +kernel)⟩
theorem lw_p31 : lw_okq (⟨"MirrorTowerModel", "agreeing", "()I"⟩, 33) := ⟨⟨by decide +kernel, by decide +kernel⟩, List.mem_of_getElem? (i := 561) (by decide +kernel), List.mem_of_getElem? (i := 830) (by decide +kernel), List.mem_of_getElem? (i := 831) (by decide +kernel)⟩
def lw_privs_2 : List (MethodName × Nat) := [(⟨"MirrorTower$Store", "followChoices", "()V"⟩, 14), (⟨"MirrorTower$Shots", "tally", "(I)V"⟩, 5), (⟨"MirrorTower$Shots", "isSure", "(I)Z"⟩, 5), (⟨"MirrorTowerModel", "refused", "(I)I"⟩, 33), (⟨"MirrorTowerModel", "done", "(I)I"⟩, 33), (⟨"MirrorTowerModel", "denied", "(I)Z"⟩, 33), (⟨"MirrorTowerModel", "granted", "()Z"⟩, 33), (⟨"MirrorTowerModel", "isMirror", "(I)Z"⟩, 33), (⟨"MirrorTowerModel", "blocks", "(I)I"⟩, 33), (⟨"MirrorTowerModel", "shades", "(II)I"⟩, 33), (⟨"MirrorTowerModel", "powerOf", "(III)I"⟩, 33), (⟨"MirrorTowerModel", "isStowed", "(I)Z"⟩, 33), (⟨"MirrorTowerModel", "aims", "(II)I"⟩, 33), (⟨"MirrorTowerModel", "orders", "(II)V"⟩, 33), (⟨"MirrorTowerModel", "tries", "(II)V"⟩, 33), (⟨"MirrorTowerModel", "agreeing", "()I"⟩, 33)]
theorem lw_r2 : ∀ q ∈ lw_privs_2, lw_okq q := List.forall_mem_cons.mpr ⟨lw_p16, List.forall_mem_cons.mpr ⟨lw_p17, List.forall_mem_cons.mpr ⟨lw_p18, List.forall_mem_cons.mpr ⟨lw_p19, List.forall_mem_cons.mpr ⟨lw_p20, List.forall_mem_cons.mpr ⟨lw_p21, List.forall_mem_cons.mpr ⟨lw_p22, List.forall_mem_cons.mpr ⟨lw_p23, List.forall_mem_cons.mpr ⟨lw_p24, List.forall_mem_cons.mpr ⟨lw_p25, List.forall_mem_cons.mpr ⟨lw_p26, List.forall_mem_cons.mpr ⟨lw_p27, List.forall_mem_cons.mpr ⟨lw_p28, List.forall_mem_cons.mpr ⟨lw_p29, List.forall_mem_cons.mpr ⟨lw_p30, List.forall_mem_cons.mpr ⟨lw_p31, fun _ h => absurd h List.not_mem_nil⟩⟩⟩⟩⟩⟩⟩⟩⟩⟩⟩⟩⟩⟩⟩⟩
theorem lw_p32 : lw_okq (⟨"MirrorTowerModel", "agrees", "(J)Z"⟩, 33) := ⟨⟨by decide +kernel, by decide +kernel⟩, List.mem_of_getElem? (i := 561) (by decide +kernel), List.mem_of_getElem? (i := 834) (by decide +kernel), List.mem_of_getElem? (i := 835) (by decide +kernel)⟩
def lw_privs_3 : List (MethodName × Nat) := [(⟨"MirrorTowerModel", "agrees", "(J)Z"⟩, 33)]
theorem lw_r3 : ∀ q ∈ lw_privs_3, lw_okq q := List.forall_mem_cons.mpr ⟨lw_p32, fun _ h => absurd h List.not_mem_nil⟩
def lw_privs : List (MethodName × Nat) := lw_privs_1 ++ (lw_privs_2 ++ (lw_privs_3))
def lw_tbl : List Cond := k2_sels lw_privs ++ tables_1
theorem lw_privs_ok : ∀ q ∈ lw_privs, lw_okq q := by
  show ∀ q ∈ lw_privs_1 ++ (lw_privs_2 ++ (lw_privs_3)), lw_okq q
  exact List.forall_mem_append.mpr ⟨lw_r1, List.forall_mem_append.mpr ⟨lw_r2, lw_r3⟩⟩

/-! ===== BEGIN words of one list among another's, by their places ===== -/
theorem goodIn_r {big : List Cond} (ws : List Cond) (ps : List Nat) (hp : ws = ps.filterMap (fun i => big[i]?)) (h : ws.all goodWord = true) : GoodIn big ws := by
  intro w hw
  have h1 := List.all_eq_true.mp h w hw
  rw [hp] at hw
  obtain ⟨i, -, hi⟩ := List.mem_filterMap.mp hw
  have hm : w ∈ big := by first | exact List.mem_of_getElem? hi | exact List.getElem?_mem hi
  exact ⟨hm, good_of_word h1⟩
theorem goodIn_app {big a b : List Cond} (ha : GoodIn big a) (hb : GoodIn big b) : GoodIn big (a ++ b) := fun w h => (List.mem_append.mp h).elim (ha w) (hb w)
theorem goodIn_ca {big a b : List Cond} {c : Cond} (ha : GoodIn big (c :: a)) (hb : GoodIn big b) : GoodIn big (c :: (a ++ b)) := fun w h => (List.mem_cons.mp h).elim (fun e => ha w (List.mem_cons.mpr (Or.inl e))) (fun h => (List.mem_append.mp h).elim (fun h => ha w (List.mem_cons.mpr (Or.inr h))) (hb w))
theorem goodIn_sub {big ws : List Cond} (hm : ∀ w ∈ ws, w ∈ big) (h : ws.all goodWord = true) : GoodIn big ws := fun w hw => ⟨hm w hw, good_of_word (List.all_eq_true.mp h w hw)⟩
/-! ===== END ===== -/

/-! ===== BEGIN printed: names, fields, word lists, decode rows ===== -/
def RX0 : String := "MirrorTower$Face"
def TX0 : u_T := fun k => match k with
  | 0 => ("MirrorTower$Face", "field", "LMirrorTower$Field;", true)
  | 1 => ("MirrorTower$Face", "limits", "[I", true)
  | 2 => ("MirrorTower$Face", "order", "[I", true)
  | 3 => ("MirrorTower$Face", "powers", "[I", true)
  | 4 => ("MirrorTower$Face", "cellOf", "[I", true)
  | 5 => ("MirrorTower$Face", "left", "[I", true)
  | 6 => ("MirrorTower$Face", "keptCells", "[I", true)
  | 7 => ("MirrorTower$Face", "keptPowers", "[I", true)
  | 8 => ("MirrorTower$Face", "keptSize", "I", false)
  | 9 => ("MirrorTower$Face", "setPowers", "[I", true)
  | _ => ("MirrorTower$Face", "fits", "[Z", true)
def tyX0 : Nat → FieldType := fun k => match k with
  | 0 => .object "MirrorTower$Field"
  | 1 => .array .int
  | 2 => .array .int
  | 3 => .array .int
  | 4 => .array .int
  | 5 => .array .int
  | 6 => .array .int
  | 7 => .array .int
  | 8 => .int
  | 9 => .array .int
  | _ => .array .boolean
abbrev wsX00 : List Cond := u_ws RX0 TX0 11
theorem nmX0 : ∀ a, a < 11 → ∀ b, b < 11 → a ≠ b → (TX0 a).2.1 ≠ (TX0 b).2.1 := by decide +kernel
theorem tyX0_ok : ∀ k, k < 11 → parseFieldDescriptor (TX0 k).2.2.1 = some (tyX0 k) := by decide +kernel
abbrev cX0_init : ByteArray := prog_2_method_1_code
def yX0_init : MethodName := ⟨RX0, "<init>", "(LMirrorTower$Field;)V"⟩
abbrev cX0_setLimit : ByteArray := prog_2_method_2_code
def yX0_setLimit : MethodName := ⟨RX0, "setLimit", "(II)V"⟩
abbrev cX0_keepAims : ByteArray := prog_2_method_3_code
def yX0_keepAims : MethodName := ⟨RX0, "keepAims", "(I)I"⟩
abbrev cX0_keptCellOf : ByteArray := prog_2_method_4_code
def yX0_keptCellOf : MethodName := ⟨RX0, "keptCellOf", "(I)I"⟩
abbrev cX0_keptPowerAt : ByteArray := prog_2_method_5_code
def yX0_keptPowerAt : MethodName := ⟨RX0, "keptPowerAt", "(I)I"⟩
abbrev cX0_aimAll : ByteArray := prog_2_method_6_code
def yX0_aimAll : MethodName := ⟨RX0, "aimAll", "(II)I"⟩
abbrev cX0_roomiestCell : ByteArray := prog_2_method_7_code
def yX0_roomiestCell : MethodName := ⟨RX0, "roomiestCell", "()I"⟩
abbrev cX0_readPowers : ByteArray := prog_2_method_8_code
def yX0_readPowers : MethodName := ⟨RX0, "readPowers", "(II)V"⟩
abbrev cX0_rank : ByteArray := prog_2_method_9_code
def yX0_rank : MethodName := ⟨RX0, "rank", "()V"⟩
abbrev cX0_bestHeat : ByteArray := prog_2_method_10_code
def yX0_bestHeat : MethodName := ⟨RX0, "bestHeat", "(I)I"⟩
abbrev cX0_addUpSets : ByteArray := prog_2_method_11_code
def yX0_addUpSets : MethodName := ⟨RX0, "addUpSets", "(I)V"⟩
abbrev cX0_widen : ByteArray := prog_2_method_12_code
def yX0_widen : MethodName := ⟨RX0, "widen", "(II)V"⟩
def RX1 : String := "MirrorTower$Field"
def TX1 : u_T := fun k => match k with
  | 0 => ("MirrorTower$Field", "taken", "[I", true)
  | 1 => ("MirrorTower$Field", "xs", "[I", true)
  | 2 => ("MirrorTower$Field", "ys", "[I", true)
  | 3 => ("MirrorTower$Field", "blockers", "[I", true)
  | 4 => ("MirrorTower$Field", "soils", "[I", true)
  | 5 => ("MirrorTower$Field", "size", "I", false)
  | 6 => ("MirrorTower$Field", "stepsX", "[I", true)
  | 7 => ("MirrorTower$Field", "stepsY", "[I", true)
  | 8 => ("MirrorTower$Field", "heights", "[I", true)
  | 9 => ("MirrorTower$Field", "winds", "[I", true)
  | _ => ("MirrorTower$Field", "dustAnHour", "I", false)
def tyX1 : Nat → FieldType := fun k => match k with
  | 0 => .array .int
  | 1 => .array .int
  | 2 => .array .int
  | 3 => .array .int
  | 4 => .array .int
  | 5 => .int
  | 6 => .array .int
  | 7 => .array .int
  | 8 => .array .int
  | 9 => .array .int
  | _ => .int
abbrev wsX10 : List Cond := u_ws RX1 TX1 11
theorem nmX1 : ∀ a, a < 11 → ∀ b, b < 11 → a ≠ b → (TX1 a).2.1 ≠ (TX1 b).2.1 := by decide +kernel
theorem tyX1_ok : ∀ k, k < 11 → parseFieldDescriptor (TX1 k).2.2.1 = some (tyX1 k) := by decide +kernel
abbrev cX1_init : ByteArray := prog_3_method_1_code
def yX1_init : MethodName := ⟨RX1, "<init>", "()V"⟩
abbrev cX1_size : ByteArray := prog_3_method_2_code
def yX1_size : MethodName := ⟨RX1, "size", "()I"⟩
abbrev cX1_isTaken : ByteArray := prog_3_method_3_code
def yX1_isTaken : MethodName := ⟨RX1, "isTaken", "(II)Z"⟩
abbrev cX1_place : ByteArray := prog_3_method_4_code
def yX1_place : MethodName := ⟨RX1, "place", "(II)I"⟩
abbrev cX1_isBetween : ByteArray := prog_3_method_5_code
def yX1_isBetween : MethodName := ⟨RX1, "isBetween", "(II)Z"⟩
abbrev cX1_setSun : ByteArray := prog_3_method_6_code
def yX1_setSun : MethodName := ⟨RX1, "setSun", "(IIII)V"⟩
abbrev cX1_setWind : ByteArray := prog_3_method_7_code
def yX1_setWind : MethodName := ⟨RX1, "setWind", "(II)V"⟩
abbrev cX1_setDust : ByteArray := prog_3_method_8_code
def yX1_setDust : MethodName := ⟨RX1, "setDust", "(I)V"⟩
abbrev cX1_blockersOf : ByteArray := prog_3_method_9_code
def yX1_blockersOf : MethodName := ⟨RX1, "blockersOf", "(I)I"⟩
abbrev cX1_shadersOf : ByteArray := prog_3_method_10_code
def yX1_shadersOf : MethodName := ⟨RX1, "shadersOf", "(II)I"⟩
abbrev cX1_isStowed : ByteArray := prog_3_method_11_code
def yX1_isStowed : MethodName := ⟨RX1, "isStowed", "(I)Z"⟩
abbrev cX1_powerOf : ByteArray := prog_3_method_12_code
def yX1_powerOf : MethodName := ⟨RX1, "powerOf", "(III)I"⟩
abbrev cX1_soilOf : ByteArray := prog_3_method_13_code
def yX1_soilOf : MethodName := ⟨RX1, "soilOf", "(II)I"⟩
abbrev cX1_soilInAll : ByteArray := prog_3_method_14_code
def yX1_soilInAll : MethodName := ⟨RX1, "soilInAll", "()I"⟩
abbrev cX1_growSoil : ByteArray := prog_3_method_15_code
def yX1_growSoil : MethodName := ⟨RX1, "growSoil", "()V"⟩
abbrev cX1_washMost : ByteArray := prog_3_method_16_code
def yX1_washMost : MethodName := ⟨RX1, "washMost", "(I)I"⟩
abbrev cX1_mostSoiled : ByteArray := prog_3_method_17_code
def yX1_mostSoiled : MethodName := ⟨RX1, "mostSoiled", "()I"⟩
def RX2 : String := "MirrorTower$Shots"
def TX2 : u_T := fun k => match k with
  | 0 => ("MirrorTower$Shots", "marks", "[I", true)
  | 1 => ("MirrorTower$Shots", "missing", "I", false)
  | 2 => ("MirrorTower$Shots", "size", "I", false)
  | 3 => ("MirrorTower$Shots", "sets", "I", false)
  | _ => ("MirrorTower$Shots", "setsWith", "[I", true)
def tyX2 : Nat → FieldType := fun k => match k with
  | 0 => .array .int
  | 1 => .int
  | 2 => .int
  | 3 => .int
  | _ => .array .int
abbrev wsX20 : List Cond := u_ws RX2 TX2 5
theorem nmX2 : ∀ a, a < 5 → ∀ b, b < 5 → a ≠ b → (TX2 a).2.1 ≠ (TX2 b).2.1 := by decide +kernel
theorem tyX2_ok : ∀ k, k < 5 → parseFieldDescriptor (TX2 k).2.2.1 = some (tyX2 k) := by decide +kernel
abbrev cX2_init : ByteArray := prog_4_method_1_code
def yX2_init : MethodName := ⟨RX2, "<init>", "()V"⟩
abbrev cX2_size : ByteArray := prog_4_method_2_code
def yX2_size : MethodName := ⟨RX2, "size", "()I"⟩
abbrev cX2_note : ByteArray := prog_4_method_3_code
def yX2_note : MethodName := ⟨RX2, "note", "(JI)I"⟩
abbrev cX2_drop : ByteArray := prog_4_method_4_code
def yX2_drop : MethodName := ⟨RX2, "drop", "()I"⟩
abbrev cX2_setsOf : ByteArray := prog_4_method_5_code
def yX2_setsOf : MethodName := ⟨RX2, "setsOf", "(I)I"⟩
abbrev cX2_verdictOn : ByteArray := prog_4_method_6_code
def yX2_verdictOn : MethodName := ⟨RX2, "verdictOn", "(II)I"⟩
abbrev cX2_unsureOf : ByteArray := prog_4_method_7_code
def yX2_unsureOf : MethodName := ⟨RX2, "unsureOf", "(I)I"⟩
abbrev cX2_isSure : ByteArray := prog_4_method_8_code
def yX2_isSure : MethodName := ⟨RX2, "isSure", "(I)Z"⟩
abbrev cX2_tally : ByteArray := prog_4_method_9_code
def yX2_tally : MethodName := ⟨RX2, "tally", "(I)V"⟩
def RX3 : String := "MirrorTower$Store"
def TX3 : u_T := fun k => match k with
  | 0 => ("MirrorTower$Store", "field", "LMirrorTower$Field;", true)
  | 1 => ("MirrorTower$Store", "cells", "LMirrorTower$Face;", true)
  | 2 => ("MirrorTower$Store", "prices", "[I", true)
  | 3 => ("MirrorTower$Store", "now", "I", false)
  | 4 => ("MirrorTower$Store", "units", "I", false)
  | 5 => ("MirrorTower$Store", "warm", "Z", false)
  | 6 => ("MirrorTower$Store", "earnings", "I", false)
  | 7 => ("MirrorTower$Store", "gains", "[I", false)
  | 8 => ("MirrorTower$Store", "laterGains", "[I", false)
  | 9 => ("MirrorTower$Store", "choices", "[I", true)
  | 10 => ("MirrorTower$Store", "unitsIn", "[I", true)
  | 11 => ("MirrorTower$Store", "mostHeld", "[I", true)
  | 12 => ("MirrorTower$Store", "planned", "I", false)
  | _ => ("MirrorTower$Store", "plannedFrom", "I", false)
def tyX3 : Nat → FieldType := fun k => match k with
  | 0 => .object "MirrorTower$Field"
  | 1 => .object "MirrorTower$Face"
  | 2 => .array .int
  | 3 => .int
  | 4 => .int
  | 5 => .boolean
  | 6 => .int
  | 7 => .array .int
  | 8 => .array .int
  | 9 => .array .int
  | 10 => .array .int
  | 11 => .array .int
  | 12 => .int
  | _ => .int
abbrev wsX30 : List Cond := u_ws RX3 TX3 14
theorem nmX3 : ∀ a, a < 14 → ∀ b, b < 14 → a ≠ b → (TX3 a).2.1 ≠ (TX3 b).2.1 := by decide +kernel
theorem tyX3_ok : ∀ k, k < 14 → parseFieldDescriptor (TX3 k).2.2.1 = some (tyX3 k) := by decide +kernel
abbrev cX3_init : ByteArray := prog_5_method_1_code
def yX3_init : MethodName := ⟨RX3, "<init>", "(LMirrorTower$Field;LMirrorTower$Face;)V"⟩
abbrev cX3_setPrice : ByteArray := prog_5_method_2_code
def yX3_setPrice : MethodName := ⟨RX3, "setPrice", "(II)V"⟩
abbrev cX3_hourNow : ByteArray := prog_5_method_3_code
def yX3_hourNow : MethodName := ⟨RX3, "hourNow", "()I"⟩
abbrev cX3_unitsHeld : ByteArray := prog_5_method_4_code
def yX3_unitsHeld : MethodName := ⟨RX3, "unitsHeld", "()I"⟩
abbrev cX3_isWarm : ByteArray := prog_5_method_5_code
def yX3_isWarm : MethodName := ⟨RX3, "isWarm", "()Z"⟩
abbrev cX3_earnedInAll : ByteArray := prog_5_method_6_code
def yX3_earnedInAll : MethodName := ⟨RX3, "earnedInAll", "()I"⟩
abbrev cX3_passHour : ByteArray := prog_5_method_7_code
def yX3_passHour : MethodName := ⟨RX3, "passHour", "(Z)I"⟩
abbrev cX3_filled : ByteArray := prog_5_method_8_code
def yX3_filled : MethodName := ⟨RX3, "filled", "(II)I"⟩
abbrev cX3_needed : ByteArray := prog_5_method_9_code
def yX3_needed : MethodName := ⟨RX3, "needed", "(Z)I"⟩
abbrev cX3_gainOf : ByteArray := prog_5_method_10_code
def yX3_gainOf : MethodName := ⟨RX3, "gainOf", "(I)I"⟩
abbrev cX3_plannedRun : ByteArray := prog_5_method_11_code
def yX3_plannedRun : MethodName := ⟨RX3, "plannedRun", "(I)I"⟩
abbrev cX3_layPlan : ByteArray := prog_5_method_12_code
def yX3_layPlan : MethodName := ⟨RX3, "layPlan", "()I"⟩
abbrev cX3_lookAhead : ByteArray := prog_5_method_13_code
def yX3_lookAhead : MethodName := ⟨RX3, "lookAhead", "()V"⟩
abbrev cX3_weighHour : ByteArray := prog_5_method_14_code
def yX3_weighHour : MethodName := ⟨RX3, "weighHour", "(I)V"⟩
abbrev cX3_weigh : ByteArray := prog_5_method_15_code
def yX3_weigh : MethodName := ⟨RX3, "weigh", "(IIZ)V"⟩
abbrev cX3_followChoices : ByteArray := prog_5_method_16_code
def yX3_followChoices : MethodName := ⟨RX3, "followChoices", "()V"⟩
abbrev cX3_stateOf : ByteArray := prog_5_method_17_code
def yX3_stateOf : MethodName := ⟨RX3, "stateOf", "(IZ)I"⟩
def RX4 : String := "MirrorTower"
def TX4 : u_T := fun k => match k with
  | 0 => ("MirrorTower", "field", "LMirrorTower$Field;", true)
  | 1 => ("MirrorTower", "cells", "LMirrorTower$Face;", true)
  | 2 => ("MirrorTower", "store", "LMirrorTower$Store;", true)
  | 3 => ("MirrorTower", "shots", "LMirrorTower$Shots;", true)
  | _ => ("MirrorTower", "trouble", "I", false)
def tyX4 : Nat → FieldType := fun k => match k with
  | 0 => .object "MirrorTower$Field"
  | 1 => .object "MirrorTower$Face"
  | 2 => .object "MirrorTower$Store"
  | 3 => .object "MirrorTower$Shots"
  | _ => .int
abbrev wsX40 : List Cond := u_ws RX4 TX4 5
theorem nmX4 : ∀ a, a < 5 → ∀ b, b < 5 → a ≠ b → (TX4 a).2.1 ≠ (TX4 b).2.1 := by decide +kernel
theorem tyX4_ok : ∀ k, k < 5 → parseFieldDescriptor (TX4 k).2.2.1 = some (tyX4 k) := by decide +kernel
abbrev cX4_init : ByteArray := prog_1_method_1_code
def yX4_init : MethodName := ⟨RX4, "<init>", "()V"⟩
abbrev cX4_mirror : ByteArray := prog_1_method_2_code
def yX4_mirror : MethodName := ⟨RX4, "mirror", "(II)I"⟩
abbrev cX4_sun : ByteArray := prog_1_method_3_code
def yX4_sun : MethodName := ⟨RX4, "sun", "(IIII)Z"⟩
abbrev cX4_limit : ByteArray := prog_1_method_4_code
def yX4_limit : MethodName := ⟨RX4, "limit", "(II)Z"⟩
abbrev cX4_wind : ByteArray := prog_1_method_5_code
def yX4_wind : MethodName := ⟨RX4, "wind", "(II)Z"⟩
abbrev cX4_price : ByteArray := prog_1_method_6_code
def yX4_price : MethodName := ⟨RX4, "price", "(II)Z"⟩
abbrev cX4_dust : ByteArray := prog_1_method_7_code
def yX4_dust : MethodName := ⟨RX4, "dust", "(I)Z"⟩
abbrev cX4_shaded : ByteArray := prog_1_method_8_code
def yX4_shaded : MethodName := ⟨RX4, "shaded", "(IIZ)I"⟩
abbrev cX4_power : ByteArray := prog_1_method_9_code
def yX4_power : MethodName := ⟨RX4, "power", "(II)I"⟩
abbrev cX4_stowed : ByteArray := prog_1_method_10_code
def yX4_stowed : MethodName := ⟨RX4, "stowed", "(I)I"⟩
abbrev cX4_soil : ByteArray := prog_1_method_11_code
def yX4_soil : MethodName := ⟨RX4, "soil", "(I)I"⟩
abbrev cX4_wash : ByteArray := prog_1_method_12_code
def yX4_wash : MethodName := ⟨RX4, "wash", "(I)I"⟩
abbrev cX4_aim : ByteArray := prog_1_method_13_code
def yX4_aim : MethodName := ⟨RX4, "aim", "(I)I"⟩
abbrev cX4_aimed : ByteArray := prog_1_method_14_code
def yX4_aimed : MethodName := ⟨RX4, "aimed", "(I)I"⟩
abbrev cX4_face : ByteArray := prog_1_method_15_code
def yX4_face : MethodName := ⟨RX4, "face", "(I)I"⟩
abbrev cX4_best : ByteArray := prog_1_method_16_code
def yX4_best : MethodName := ⟨RX4, "best", "(I)I"⟩
abbrev cX4_comes : ByteArray := prog_1_method_17_code
def yX4_comes : MethodName := ⟨RX4, "comes", "(I)I"⟩
abbrev cX4_plan : ByteArray := prog_1_method_18_code
def yX4_plan : MethodName := ⟨RX4, "plan", "()I"⟩
abbrev cX4_runs : ByteArray := prog_1_method_19_code
def yX4_runs : MethodName := ⟨RX4, "runs", "(I)I"⟩
abbrev cX4_step : ByteArray := prog_1_method_20_code
def yX4_step : MethodName := ⟨RX4, "step", "(Z)I"⟩
abbrev cX4_earned : ByteArray := prog_1_method_21_code
def yX4_earned : MethodName := ⟨RX4, "earned", "()I"⟩
abbrev cX4_shot : ByteArray := prog_1_method_22_code
def yX4_shot : MethodName := ⟨RX4, "shot", "(III)I"⟩
abbrev cX4_forget : ByteArray := prog_1_method_23_code
def yX4_forget : MethodName := ⟨RX4, "forget", "()I"⟩
abbrev cX4_agree : ByteArray := prog_1_method_24_code
def yX4_agree : MethodName := ⟨RX4, "agree", "()I"⟩
abbrev cX4_stuck : ByteArray := prog_1_method_25_code
def yX4_stuck : MethodName := ⟨RX4, "stuck", "(I)I"⟩
abbrev cX4_unsure : ByteArray := prog_1_method_26_code
def yX4_unsure : MethodName := ⟨RX4, "unsure", "()I"⟩
abbrev cX4_count : ByteArray := prog_1_method_27_code
def yX4_count : MethodName := ⟨RX4, "count", "(I)I"⟩
abbrev cX4_trouble : ByteArray := prog_1_method_28_code
def yX4_trouble : MethodName := ⟨RX4, "trouble", "()I"⟩
abbrev cX4_isMirror : ByteArray := prog_1_method_29_code
def yX4_isMirror : MethodName := ⟨RX4, "isMirror", "(I)Z"⟩
abbrev cX4_isHour : ByteArray := prog_1_method_30_code
def yX4_isHour : MethodName := ⟨RX4, "isHour", "(I)Z"⟩
abbrev cX4_isCell : ByteArray := prog_1_method_31_code
def yX4_isCell : MethodName := ⟨RX4, "isCell", "(I)Z"⟩
abbrev cX4_isWithin : ByteArray := prog_1_method_32_code
def yX4_isWithin : MethodName := ⟨RX4, "isWithin", "(III)Z"⟩
abbrev cX4_granted : ByteArray := prog_1_method_33_code
def yX4_granted : MethodName := ⟨RX4, "granted", "(I)I"⟩
abbrev cX4_refused : ByteArray := prog_1_method_34_code
def yX4_refused : MethodName := ⟨RX4, "refused", "(I)I"⟩
abbrev cX4_allowed : ByteArray := prog_1_method_35_code
def yX4_allowed : MethodName := ⟨RX4, "allowed", "()Z"⟩
abbrev cX4_denied : ByteArray := prog_1_method_36_code
def yX4_denied : MethodName := ⟨RX4, "denied", "(I)Z"⟩
def RX5 : String := "MirrorTowerModel"
def TX5 : u_T := fun k => match k with
  | 0 => ("MirrorTowerModel", "thrown", "I", false)
  | 1 => ("MirrorTowerModel", "trouble", "I", false)
  | 2 => ("MirrorTowerModel", "mirrors", "I", false)
  | 3 => ("MirrorTowerModel", "now", "I", false)
  | 4 => ("MirrorTowerModel", "store", "I", false)
  | 5 => ("MirrorTowerModel", "earned", "I", false)
  | 6 => ("MirrorTowerModel", "dust", "I", false)
  | 7 => ("MirrorTowerModel", "isWarm", "Z", false)
  | 8 => ("MirrorTowerModel", "x", "[I", true)
  | 9 => ("MirrorTowerModel", "y", "[I", true)
  | 10 => ("MirrorTowerModel", "soil", "[I", true)
  | 11 => ("MirrorTowerModel", "limit", "[I", true)
  | 12 => ("MirrorTowerModel", "sunX", "[I", true)
  | 13 => ("MirrorTowerModel", "sunY", "[I", true)
  | 14 => ("MirrorTowerModel", "height", "[I", true)
  | 15 => ("MirrorTowerModel", "wind", "[I", true)
  | 16 => ("MirrorTowerModel", "price", "[I", true)
  | 17 => ("MirrorTowerModel", "order", "[I", true)
  | 18 => ("MirrorTowerModel", "power", "[I", true)
  | 19 => ("MirrorTowerModel", "left", "[I", true)
  | 20 => ("MirrorTowerModel", "aimed", "[I", true)
  | 21 => ("MirrorTowerModel", "at", "[I", true)
  | 22 => ("MirrorTowerModel", "atFace", "[I", true)
  | 23 => ("MirrorTowerModel", "aimedMirrors", "I", false)
  | 24 => ("MirrorTowerModel", "most", "I", false)
  | 25 => ("MirrorTowerModel", "worth", "[I", true)
  | 26 => ("MirrorTowerModel", "isRun", "[Z", true)
  | 27 => ("MirrorTowerModel", "planFrom", "I", false)
  | 28 => ("MirrorTowerModel", "comeUnits", "[I", true)
  | 29 => ("MirrorTowerModel", "shot", "[J", true)
  | 30 => ("MirrorTowerModel", "hits", "[I", true)
  | 31 => ("MirrorTowerModel", "shots", "I", false)
  | _ => ("MirrorTowerModel", "inSets", "[I", true)
def tyX5 : Nat → FieldType := fun k => match k with
  | 0 => .int
  | 1 => .int
  | 2 => .int
  | 3 => .int
  | 4 => .int
  | 5 => .int
  | 6 => .int
  | 7 => .boolean
  | 8 => .array .int
  | 9 => .array .int
  | 10 => .array .int
  | 11 => .array .int
  | 12 => .array .int
  | 13 => .array .int
  | 14 => .array .int
  | 15 => .array .int
  | 16 => .array .int
  | 17 => .array .int
  | 18 => .array .int
  | 19 => .array .int
  | 20 => .array .int
  | 21 => .array .int
  | 22 => .array .int
  | 23 => .int
  | 24 => .int
  | 25 => .array .int
  | 26 => .array .boolean
  | 27 => .int
  | 28 => .array .int
  | 29 => .array .long
  | 30 => .array .int
  | 31 => .int
  | _ => .array .int
abbrev wsX50 : List Cond := u_ws RX5 TX5 33
theorem nmX5 : ∀ a, a < 33 → ∀ b, b < 33 → a ≠ b → (TX5 a).2.1 ≠ (TX5 b).2.1 := by decide +kernel
theorem tyX5_ok : ∀ k, k < 33 → parseFieldDescriptor (TX5 k).2.2.1 = some (tyX5 k) := by decide +kernel
abbrev cX5_refused : ByteArray := prog_7_method_2_code
def yX5_refused : MethodName := ⟨RX5, "refused", "(I)I"⟩
abbrev cX5_denied : ByteArray := prog_7_method_3_code
def yX5_denied : MethodName := ⟨RX5, "denied", "(I)Z"⟩
abbrev cX5_done : ByteArray := prog_7_method_4_code
def yX5_done : MethodName := ⟨RX5, "done", "(I)I"⟩
abbrev cX5_granted : ByteArray := prog_7_method_5_code
def yX5_granted : MethodName := ⟨RX5, "granted", "()Z"⟩
abbrev cX5_in : ByteArray := prog_7_method_6_code
def yX5_in : MethodName := ⟨RX5, "in", "(III)Z"⟩
abbrev cX5_init : ByteArray := prog_7_method_7_code
def yX5_init : MethodName := ⟨RX5, "<init>", "()V"⟩
abbrev cX5_isMirror : ByteArray := prog_7_method_8_code
def yX5_isMirror : MethodName := ⟨RX5, "isMirror", "(I)Z"⟩
abbrev cX5_isHour : ByteArray := prog_7_method_9_code
def yX5_isHour : MethodName := ⟨RX5, "isHour", "(I)Z"⟩
abbrev cX5_mirror : ByteArray := prog_7_method_10_code
def yX5_mirror : MethodName := ⟨RX5, "mirror", "(II)I"⟩
abbrev cX5_sun : ByteArray := prog_7_method_11_code
def yX5_sun : MethodName := ⟨RX5, "sun", "(IIII)Z"⟩
abbrev cX5_limit : ByteArray := prog_7_method_12_code
def yX5_limit : MethodName := ⟨RX5, "limit", "(II)Z"⟩
abbrev cX5_wind : ByteArray := prog_7_method_13_code
def yX5_wind : MethodName := ⟨RX5, "wind", "(II)Z"⟩
abbrev cX5_price : ByteArray := prog_7_method_14_code
def yX5_price : MethodName := ⟨RX5, "price", "(II)Z"⟩
abbrev cX5_dust : ByteArray := prog_7_method_15_code
def yX5_dust : MethodName := ⟨RX5, "dust", "(I)Z"⟩
abbrev cX5_shades : ByteArray := prog_7_method_16_code
def yX5_shades : MethodName := ⟨RX5, "shades", "(II)I"⟩
abbrev cX5_blocks : ByteArray := prog_7_method_17_code
def yX5_blocks : MethodName := ⟨RX5, "blocks", "(I)I"⟩
abbrev cX5_shaded : ByteArray := prog_7_method_18_code
def yX5_shaded : MethodName := ⟨RX5, "shaded", "(IIZ)I"⟩
abbrev cX5_isStowed : ByteArray := prog_7_method_19_code
def yX5_isStowed : MethodName := ⟨RX5, "isStowed", "(I)Z"⟩
abbrev cX5_powerOf : ByteArray := prog_7_method_20_code
def yX5_powerOf : MethodName := ⟨RX5, "powerOf", "(III)I"⟩
abbrev cX5_power : ByteArray := prog_7_method_21_code
def yX5_power : MethodName := ⟨RX5, "power", "(II)I"⟩
abbrev cX5_stowed : ByteArray := prog_7_method_22_code
def yX5_stowed : MethodName := ⟨RX5, "stowed", "(I)I"⟩
abbrev cX5_soil : ByteArray := prog_7_method_23_code
def yX5_soil : MethodName := ⟨RX5, "soil", "(I)I"⟩
abbrev cX5_wash : ByteArray := prog_7_method_24_code
def yX5_wash : MethodName := ⟨RX5, "wash", "(I)I"⟩
abbrev cX5_orders : ByteArray := prog_7_method_25_code
def yX5_orders : MethodName := ⟨RX5, "orders", "(II)V"⟩
abbrev cX5_aims : ByteArray := prog_7_method_26_code
def yX5_aims : MethodName := ⟨RX5, "aims", "(II)I"⟩
abbrev cX5_aim : ByteArray := prog_7_method_27_code
def yX5_aim : MethodName := ⟨RX5, "aim", "(I)I"⟩
abbrev cX5_aimed : ByteArray := prog_7_method_28_code
def yX5_aimed : MethodName := ⟨RX5, "aimed", "(I)I"⟩
abbrev cX5_face : ByteArray := prog_7_method_29_code
def yX5_face : MethodName := ⟨RX5, "face", "(I)I"⟩
abbrev cX5_tries : ByteArray := prog_7_method_30_code
def yX5_tries : MethodName := ⟨RX5, "tries", "(II)V"⟩
abbrev cX5_best : ByteArray := prog_7_method_31_code
def yX5_best : MethodName := ⟨RX5, "best", "(I)I"⟩
abbrev cX5_comes : ByteArray := prog_7_method_32_code
def yX5_comes : MethodName := ⟨RX5, "comes", "(I)I"⟩
abbrev cX5_state : ByteArray := prog_7_method_33_code
def yX5_state : MethodName := ⟨RX5, "state", "(IIZ)I"⟩
abbrev cX5_takes : ByteArray := prog_7_method_34_code
def yX5_takes : MethodName := ⟨RX5, "takes", "(Z)I"⟩
abbrev cX5_filled : ByteArray := prog_7_method_35_code
def yX5_filled : MethodName := ⟨RX5, "filled", "(II)I"⟩
abbrev cX5_plan : ByteArray := prog_7_method_36_code
def yX5_plan : MethodName := ⟨RX5, "plan", "()I"⟩
abbrev cX5_runs : ByteArray := prog_7_method_37_code
def yX5_runs : MethodName := ⟨RX5, "runs", "(I)I"⟩
abbrev cX5_step : ByteArray := prog_7_method_38_code
def yX5_step : MethodName := ⟨RX5, "step", "(Z)I"⟩
abbrev cX5_earned : ByteArray := prog_7_method_39_code
def yX5_earned : MethodName := ⟨RX5, "earned", "()I"⟩
abbrev cX5_bits : ByteArray := prog_7_method_40_code
def yX5_bits : MethodName := ⟨RX5, "bits", "(J)I"⟩
abbrev cX5_shot : ByteArray := prog_7_method_41_code
def yX5_shot : MethodName := ⟨RX5, "shot", "(III)I"⟩
abbrev cX5_forget : ByteArray := prog_7_method_42_code
def yX5_forget : MethodName := ⟨RX5, "forget", "()I"⟩
abbrev cX5_agrees : ByteArray := prog_7_method_43_code
def yX5_agrees : MethodName := ⟨RX5, "agrees", "(J)Z"⟩
abbrev cX5_agreeing : ByteArray := prog_7_method_44_code
def yX5_agreeing : MethodName := ⟨RX5, "agreeing", "()I"⟩
abbrev cX5_agree : ByteArray := prog_7_method_45_code
def yX5_agree : MethodName := ⟨RX5, "agree", "()I"⟩
abbrev cX5_stuck : ByteArray := prog_7_method_46_code
def yX5_stuck : MethodName := ⟨RX5, "stuck", "(I)I"⟩
abbrev cX5_unsure : ByteArray := prog_7_method_47_code
def yX5_unsure : MethodName := ⟨RX5, "unsure", "()I"⟩
abbrev cX5_count : ByteArray := prog_7_method_48_code
def yX5_count : MethodName := ⟨RX5, "count", "(I)I"⟩
abbrev cX5_trouble : ByteArray := prog_7_method_49_code
def yX5_trouble : MethodName := ⟨RX5, "trouble", "()I"⟩
def RJ13 : String := "java/lang/Long"
def TJ13 : u_T := fun k => match k with
  | _ => ("", "", "", false)
def tyJ13 : Nat → FieldType := fun k => match k with
  | _ => .int
abbrev wsJ130 : List Cond := u_ws RJ13 TJ13 0
theorem nmJ13 : ∀ a, a < 0 → ∀ b, b < 0 → a ≠ b → (TJ13 a).2.1 ≠ (TJ13 b).2.1 := by decide +kernel
theorem tyJ13_ok : ∀ k, k < 0 → parseFieldDescriptor (TJ13 k).2.2.1 = some (tyJ13 k) := by decide +kernel
abbrev cJ13_bitCount_95d88 : ByteArray := prog_8_method_50_code
def yJ13_bitCount_95d88 : MethodName := ⟨RJ13, "bitCount", "(J)I"⟩
def RJ9 : String := "java/lang/Math"
def TJ9 : u_T := fun k => match k with
  | _ => ("", "", "", false)
def tyJ9 : Nat → FieldType := fun k => match k with
  | _ => .int
abbrev wsJ90 : List Cond := u_ws RJ9 TJ9 0
theorem nmJ9 : ∀ a, a < 0 → ∀ b, b < 0 → a ≠ b → (TJ9 a).2.1 ≠ (TJ9 b).2.1 := by decide +kernel
theorem tyJ9_ok : ∀ k, k < 0 → parseFieldDescriptor (TJ9 k).2.2.1 = some (tyJ9 k) := by decide +kernel
abbrev cJ9_max_7cf53 : ByteArray := prog_9_method_65_code
def yJ9_max_7cf53 : MethodName := ⟨RJ9, "max", "(II)I"⟩
abbrev cJ9_min_7cf53 : ByteArray := prog_9_method_69_code
def yJ9_min_7cf53 : MethodName := ⟨RJ9, "min", "(II)I"⟩
def RJ10 : String := "java/lang/System"
def TJ10 : u_T := fun k => match k with
  | _ => ("", "", "", false)
def tyJ10 : Nat → FieldType := fun k => match k with
  | _ => .int
abbrev wsJ100 : List Cond := u_ws RJ10 TJ10 0
theorem nmJ10 : ∀ a, a < 0 → ∀ b, b < 0 → a ≠ b → (TJ10 a).2.1 ≠ (TJ10 b).2.1 := by decide +kernel
theorem tyJ10_ok : ∀ k, k < 0 → parseFieldDescriptor (TJ10 k).2.2.1 = some (tyJ10 k) := by decide +kernel
def RJ7 : String := "java/util/Arrays"
def TJ7 : u_T := fun k => match k with
  | _ => ("", "", "", false)
def tyJ7 : Nat → FieldType := fun k => match k with
  | _ => .int
abbrev wsJ70 : List Cond := u_ws RJ7 TJ7 0
theorem nmJ7 : ∀ a, a < 0 → ∀ b, b < 0 → a ≠ b → (TJ7 a).2.1 ≠ (TJ7 b).2.1 := by decide +kernel
theorem tyJ7_ok : ∀ k, k < 0 → parseFieldDescriptor (TJ7 k).2.2.1 = some (tyJ7 k) := by decide +kernel
abbrev cJ7_fill_53178 : ByteArray := prog_11_method_103_code
def yJ7_fill_53178 : MethodName := ⟨RJ7, "fill", "([II)V"⟩
def RL : String := "MirrorTowerLaw"
abbrev cL_law : ByteArray := code
def yL_law : MethodName := ⟨RL, "law", "([I)Z"⟩
def wsJ7_fill_53178 : List Cond := .code yJ7_fill_53178 cJ7_fill_53178 4 none :: ([])
def wsX0_init : List Cond := .code yX0_init cX0_init 2 none :: ([.methodLink RX0 5 objectInit, .instanceMethod objectInit, .code objectInit ⟨#[0xb1]⟩ 1 none, .fieldLink RX0 11 "MirrorTower$Face" "field" "LMirrorTower$Field;", .arrayClass .int, .fieldLink RX0 15 "MirrorTower$Face" "limits" "[I", .fieldLink RX0 25 "MirrorTower$Face" "order" "[I", .fieldLink RX0 28 "MirrorTower$Face" "powers" "[I", .fieldLink RX0 31 "MirrorTower$Face" "cellOf" "[I", .fieldLink RX0 34 "MirrorTower$Face" "left" "[I", .fieldLink RX0 37 "MirrorTower$Face" "keptCells" "[I", .fieldLink RX0 40 "MirrorTower$Face" "keptPowers" "[I", .fieldLink RX0 43 "MirrorTower$Face" "setPowers" "[I", .arrayClass .boolean, .fieldLink RX0 46 "MirrorTower$Face" "fits" "[Z", .methodLink RX0 19 yJ7_fill_53178, .static yJ7_fill_53178, .initialized RJ7, .code yJ7_fill_53178 cJ7_fill_53178 4 none] ++ wsX00)
def wsX0_setLimit : List Cond := .code yX0_setLimit cX0_setLimit 3 none :: ([.fieldLink RX0 15 "MirrorTower$Face" "limits" "[I"] ++ wsX00)
def wsX1_size : List Cond := .code yX1_size cX1_size 1 (some .int) :: ([.fieldLink RX1 43 "MirrorTower$Field" "size" "I"] ++ wsX10)
def wsX1_isStowed : List Cond := .code yX1_isStowed cX1_isStowed 2 (some .boolean) :: ([.fieldLink RX1 36 "MirrorTower$Field" "winds" "[I"] ++ wsX10)
def wsX1_soilOf : List Cond := .code yX1_soilOf cX1_soilOf 3 (some .int) :: ([.fieldLink RX1 24 "MirrorTower$Field" "soils" "[I", .fieldLink RX1 39 "MirrorTower$Field" "dustAnHour" "I", .methodLink RX1 66 Lib.Math.min.name, .static Lib.Math.min.name, .initialized "java/lang/Math", .code Lib.Math.min.name Lib.Math.min.code 2 (some .int)] ++ wsX10)
def wsX1_shadersOf : List Cond := .code yX1_shadersOf cX1_shadersOf 7 (some .int) :: ([.fieldLink RX1 33 "MirrorTower$Field" "heights" "[I", .fieldLink RX1 15 "MirrorTower$Field" "xs" "[I", .fieldLink RX1 18 "MirrorTower$Field" "ys" "[I", .fieldLink RX1 27 "MirrorTower$Field" "stepsX" "[I", .fieldLink RX1 30 "MirrorTower$Field" "stepsY" "[I", .fieldLink RX1 9 "MirrorTower$Field" "taken" "[I"] ++ wsX10)
def wsX1_powerOf_r1 : List Cond := [Cond.fieldLink RX1 33 "MirrorTower$Field" "heights" "[I", Cond.methodLink RX1 58 Lib.Math.max.name, Cond.static Lib.Math.max.name, Cond.initialized "java/lang/Math", Cond.code Lib.Math.max.name Lib.Math.max.code 2 (some .int), Cond.fieldLink RX1 21 "MirrorTower$Field" "blockers" "[I", Cond.methodLink RX1 50 yX1_isStowed, Cond.instanceMethod yX1_isStowed, Cond.selects RX1 yX1_isStowed yX1_isStowed, Cond.initialized RX1, Cond.code yX1_isStowed cX1_isStowed 2 (some .boolean), Cond.fieldLink RX1 36 "MirrorTower$Field" "winds" "[I", Cond.methodLink RX1 54 yX1_soilOf, Cond.instanceMethod yX1_soilOf, Cond.selects RX1 yX1_soilOf yX1_soilOf, Cond.code yX1_soilOf cX1_soilOf 3 (some .int), Cond.fieldLink RX1 24 "MirrorTower$Field" "soils" "[I", Cond.fieldLink RX1 39 "MirrorTower$Field" "dustAnHour" "I", Cond.methodLink RX1 66 Lib.Math.min.name, Cond.static Lib.Math.min.name, Cond.code Lib.Math.min.name Lib.Math.min.code 2 (some .int), Cond.methodLink RX1 63 yX1_shadersOf, Cond.instanceMethod yX1_shadersOf, Cond.selects RX1 yX1_shadersOf yX1_shadersOf]
def wsX1_powerOf_r2 : List Cond := [Cond.code yX1_shadersOf cX1_shadersOf 7 (some .int), Cond.fieldLink RX1 15 "MirrorTower$Field" "xs" "[I", Cond.fieldLink RX1 18 "MirrorTower$Field" "ys" "[I", Cond.fieldLink RX1 27 "MirrorTower$Field" "stepsX" "[I", Cond.fieldLink RX1 30 "MirrorTower$Field" "stepsY" "[I", Cond.fieldLink RX1 9 "MirrorTower$Field" "taken" "[I"]
def wsX1_powerOf : List Cond := .code yX1_powerOf cX1_powerOf 6 (some .int) :: ((wsX1_powerOf_r1 ++ wsX1_powerOf_r2) ++ wsX10)
def wsX0_readPowers_r1 : List Cond := [Cond.fieldLink RX0 11 "MirrorTower$Face" "field" "LMirrorTower$Field;", Cond.fieldLink RX0 28 "MirrorTower$Face" "powers" "[I", Cond.methodLink RX0 54 yX1_size, Cond.instanceMethod yX1_size, Cond.selects RX1 yX1_size yX1_size, Cond.initialized RX1, Cond.code yX1_size cX1_size 1 (some .int), Cond.fieldLink RX1 43 "MirrorTower$Field" "size" "I", Cond.methodLink RX0 80 yX1_powerOf, Cond.instanceMethod yX1_powerOf, Cond.selects RX1 yX1_powerOf yX1_powerOf, Cond.code yX1_powerOf cX1_powerOf 6 (some .int), Cond.fieldLink RX1 33 "MirrorTower$Field" "heights" "[I", Cond.methodLink RX1 58 Lib.Math.max.name, Cond.static Lib.Math.max.name, Cond.initialized "java/lang/Math", Cond.code Lib.Math.max.name Lib.Math.max.code 2 (some .int), Cond.fieldLink RX1 21 "MirrorTower$Field" "blockers" "[I", Cond.methodLink RX1 50 yX1_isStowed, Cond.instanceMethod yX1_isStowed, Cond.selects RX1 yX1_isStowed yX1_isStowed, Cond.code yX1_isStowed cX1_isStowed 2 (some .boolean), Cond.fieldLink RX1 36 "MirrorTower$Field" "winds" "[I", Cond.methodLink RX1 54 yX1_soilOf]
def wsX0_readPowers_r2 : List Cond := [Cond.instanceMethod yX1_soilOf, Cond.selects RX1 yX1_soilOf yX1_soilOf, Cond.code yX1_soilOf cX1_soilOf 3 (some .int), Cond.fieldLink RX1 24 "MirrorTower$Field" "soils" "[I", Cond.fieldLink RX1 39 "MirrorTower$Field" "dustAnHour" "I", Cond.methodLink RX1 66 Lib.Math.min.name, Cond.static Lib.Math.min.name, Cond.code Lib.Math.min.name Lib.Math.min.code 2 (some .int), Cond.methodLink RX1 63 yX1_shadersOf, Cond.instanceMethod yX1_shadersOf, Cond.selects RX1 yX1_shadersOf yX1_shadersOf, Cond.code yX1_shadersOf cX1_shadersOf 7 (some .int), Cond.fieldLink RX1 15 "MirrorTower$Field" "xs" "[I", Cond.fieldLink RX1 18 "MirrorTower$Field" "ys" "[I", Cond.fieldLink RX1 27 "MirrorTower$Field" "stepsX" "[I", Cond.fieldLink RX1 30 "MirrorTower$Field" "stepsY" "[I", Cond.fieldLink RX1 9 "MirrorTower$Field" "taken" "[I"]
def wsX0_readPowers : List Cond := .code yX0_readPowers cX0_readPowers 4 none :: ((wsX0_readPowers_r1 ++ wsX0_readPowers_r2) ++ wsX00 ++ wsX10)
def wsX0_rank : List Cond := .code yX0_rank cX0_rank 3 none :: ([.fieldLink RX0 11 "MirrorTower$Face" "field" "LMirrorTower$Field;", .fieldLink RX0 28 "MirrorTower$Face" "powers" "[I", .fieldLink RX0 25 "MirrorTower$Face" "order" "[I", .methodLink RX0 54 yX1_size, .instanceMethod yX1_size, .selects RX1 yX1_size yX1_size, .initialized RX1, .code yX1_size cX1_size 1 (some .int), .fieldLink RX1 43 "MirrorTower$Field" "size" "I"] ++ wsX00 ++ wsX10)
def wsX0_roomiestCell : List Cond := .code yX0_roomiestCell cX0_roomiestCell 3 (some .int) :: ([.fieldLink RX0 34 "MirrorTower$Face" "left" "[I"] ++ wsX00)
def wsX0_aimAll_r1 : List Cond := [Cond.fieldLink RX0 15 "MirrorTower$Face" "limits" "[I", Cond.fieldLink RX0 34 "MirrorTower$Face" "left" "[I", Cond.methodLink RX0 64 arraycopyName, Cond.native arraycopyName, Cond.static arraycopyName, Cond.initialized "java/lang/System", Cond.fieldLink RX0 11 "MirrorTower$Face" "field" "LMirrorTower$Field;", Cond.fieldLink RX0 25 "MirrorTower$Face" "order" "[I", Cond.fieldLink RX0 28 "MirrorTower$Face" "powers" "[I", Cond.fieldLink RX0 31 "MirrorTower$Face" "cellOf" "[I", Cond.methodLink RX0 70 yX0_readPowers, Cond.instanceMethod yX0_readPowers, Cond.selects RX0 yX0_readPowers yX0_readPowers, Cond.initialized RX0, Cond.code yX0_readPowers cX0_readPowers 4 none, Cond.methodLink RX0 54 yX1_size, Cond.instanceMethod yX1_size, Cond.selects RX1 yX1_size yX1_size, Cond.initialized RX1, Cond.code yX1_size cX1_size 1 (some .int), Cond.fieldLink RX1 43 "MirrorTower$Field" "size" "I", Cond.methodLink RX0 80 yX1_powerOf, Cond.instanceMethod yX1_powerOf, Cond.selects RX1 yX1_powerOf yX1_powerOf]
def wsX0_aimAll_r2 : List Cond := [Cond.code yX1_powerOf cX1_powerOf 6 (some .int), Cond.fieldLink RX1 33 "MirrorTower$Field" "heights" "[I", Cond.methodLink RX1 58 Lib.Math.max.name, Cond.static Lib.Math.max.name, Cond.initialized "java/lang/Math", Cond.code Lib.Math.max.name Lib.Math.max.code 2 (some .int), Cond.fieldLink RX1 21 "MirrorTower$Field" "blockers" "[I", Cond.methodLink RX1 50 yX1_isStowed, Cond.instanceMethod yX1_isStowed, Cond.selects RX1 yX1_isStowed yX1_isStowed, Cond.code yX1_isStowed cX1_isStowed 2 (some .boolean), Cond.fieldLink RX1 36 "MirrorTower$Field" "winds" "[I", Cond.methodLink RX1 54 yX1_soilOf, Cond.instanceMethod yX1_soilOf, Cond.selects RX1 yX1_soilOf yX1_soilOf, Cond.code yX1_soilOf cX1_soilOf 3 (some .int), Cond.fieldLink RX1 24 "MirrorTower$Field" "soils" "[I", Cond.fieldLink RX1 39 "MirrorTower$Field" "dustAnHour" "I", Cond.methodLink RX1 66 Lib.Math.min.name, Cond.static Lib.Math.min.name, Cond.code Lib.Math.min.name Lib.Math.min.code 2 (some .int), Cond.methodLink RX1 63 yX1_shadersOf, Cond.instanceMethod yX1_shadersOf, Cond.selects RX1 yX1_shadersOf yX1_shadersOf]
def wsX0_aimAll_r3 : List Cond := [Cond.code yX1_shadersOf cX1_shadersOf 7 (some .int), Cond.fieldLink RX1 15 "MirrorTower$Field" "xs" "[I", Cond.fieldLink RX1 18 "MirrorTower$Field" "ys" "[I", Cond.fieldLink RX1 27 "MirrorTower$Field" "stepsX" "[I", Cond.fieldLink RX1 30 "MirrorTower$Field" "stepsY" "[I", Cond.fieldLink RX1 9 "MirrorTower$Field" "taken" "[I", Cond.methodLink RX0 74 yX0_rank, Cond.instanceMethod yX0_rank, Cond.selects RX0 yX0_rank yX0_rank, Cond.code yX0_rank cX0_rank 3 none, Cond.methodLink RX0 77 yX0_roomiestCell, Cond.instanceMethod yX0_roomiestCell, Cond.selects RX0 yX0_roomiestCell yX0_roomiestCell, Cond.code yX0_roomiestCell cX0_roomiestCell 3 (some .int)]
def wsX0_aimAll : List Cond := .code yX0_aimAll cX0_aimAll 7 (some .int) :: ((wsX0_aimAll_r1 ++ (wsX0_aimAll_r2 ++ wsX0_aimAll_r3)) ++ wsX00 ++ wsX10)
def wsX0_keepAims_r1 : List Cond := [Cond.fieldLink RX0 11 "MirrorTower$Face" "field" "LMirrorTower$Field;", Cond.fieldLink RX0 60 "MirrorTower$Face" "keptSize" "I", Cond.fieldLink RX0 31 "MirrorTower$Face" "cellOf" "[I", Cond.fieldLink RX0 37 "MirrorTower$Face" "keptCells" "[I", Cond.methodLink RX0 64 arraycopyName, Cond.native arraycopyName, Cond.static arraycopyName, Cond.initialized "java/lang/System", Cond.fieldLink RX0 40 "MirrorTower$Face" "keptPowers" "[I", Cond.fieldLink RX0 15 "MirrorTower$Face" "limits" "[I", Cond.fieldLink RX0 34 "MirrorTower$Face" "left" "[I", Cond.methodLink RX0 50 yX0_aimAll, Cond.instanceMethod yX0_aimAll, Cond.selects RX0 yX0_aimAll yX0_aimAll, Cond.initialized RX0, Cond.code yX0_aimAll cX0_aimAll 7 (some .int), Cond.fieldLink RX0 25 "MirrorTower$Face" "order" "[I", Cond.fieldLink RX0 28 "MirrorTower$Face" "powers" "[I", Cond.methodLink RX0 70 yX0_readPowers, Cond.instanceMethod yX0_readPowers, Cond.selects RX0 yX0_readPowers yX0_readPowers, Cond.code yX0_readPowers cX0_readPowers 4 none, Cond.methodLink RX0 54 yX1_size, Cond.instanceMethod yX1_size]
def wsX0_keepAims_r2 : List Cond := [Cond.selects RX1 yX1_size yX1_size, Cond.initialized RX1, Cond.code yX1_size cX1_size 1 (some .int), Cond.fieldLink RX1 43 "MirrorTower$Field" "size" "I", Cond.methodLink RX0 80 yX1_powerOf, Cond.instanceMethod yX1_powerOf, Cond.selects RX1 yX1_powerOf yX1_powerOf, Cond.code yX1_powerOf cX1_powerOf 6 (some .int), Cond.fieldLink RX1 33 "MirrorTower$Field" "heights" "[I", Cond.methodLink RX1 58 Lib.Math.max.name, Cond.static Lib.Math.max.name, Cond.initialized "java/lang/Math", Cond.code Lib.Math.max.name Lib.Math.max.code 2 (some .int), Cond.fieldLink RX1 21 "MirrorTower$Field" "blockers" "[I", Cond.methodLink RX1 50 yX1_isStowed, Cond.instanceMethod yX1_isStowed, Cond.selects RX1 yX1_isStowed yX1_isStowed, Cond.code yX1_isStowed cX1_isStowed 2 (some .boolean), Cond.fieldLink RX1 36 "MirrorTower$Field" "winds" "[I", Cond.methodLink RX1 54 yX1_soilOf, Cond.instanceMethod yX1_soilOf, Cond.selects RX1 yX1_soilOf yX1_soilOf, Cond.code yX1_soilOf cX1_soilOf 3 (some .int), Cond.fieldLink RX1 24 "MirrorTower$Field" "soils" "[I"]
def wsX0_keepAims_r3 : List Cond := [Cond.fieldLink RX1 39 "MirrorTower$Field" "dustAnHour" "I", Cond.methodLink RX1 66 Lib.Math.min.name, Cond.static Lib.Math.min.name, Cond.code Lib.Math.min.name Lib.Math.min.code 2 (some .int), Cond.methodLink RX1 63 yX1_shadersOf, Cond.instanceMethod yX1_shadersOf, Cond.selects RX1 yX1_shadersOf yX1_shadersOf, Cond.code yX1_shadersOf cX1_shadersOf 7 (some .int), Cond.fieldLink RX1 15 "MirrorTower$Field" "xs" "[I", Cond.fieldLink RX1 18 "MirrorTower$Field" "ys" "[I", Cond.fieldLink RX1 27 "MirrorTower$Field" "stepsX" "[I", Cond.fieldLink RX1 30 "MirrorTower$Field" "stepsY" "[I", Cond.fieldLink RX1 9 "MirrorTower$Field" "taken" "[I", Cond.methodLink RX0 74 yX0_rank, Cond.instanceMethod yX0_rank, Cond.selects RX0 yX0_rank yX0_rank, Cond.code yX0_rank cX0_rank 3 none, Cond.methodLink RX0 77 yX0_roomiestCell, Cond.instanceMethod yX0_roomiestCell, Cond.selects RX0 yX0_roomiestCell yX0_roomiestCell, Cond.code yX0_roomiestCell cX0_roomiestCell 3 (some .int)]
def wsX0_keepAims : List Cond := .code yX0_keepAims cX0_keepAims 4 (some .int) :: ((wsX0_keepAims_r1 ++ (wsX0_keepAims_r2 ++ wsX0_keepAims_r3)) ++ wsX00 ++ wsX10)
def wsX0_keptCellOf : List Cond := .code yX0_keptCellOf cX0_keptCellOf 2 (some .int) :: ([.fieldLink RX0 60 "MirrorTower$Face" "keptSize" "I", .fieldLink RX0 37 "MirrorTower$Face" "keptCells" "[I"] ++ wsX00)
def wsX0_keptPowerAt : List Cond := .code yX0_keptPowerAt cX0_keptPowerAt 2 (some .int) :: ([.fieldLink RX0 40 "MirrorTower$Face" "keptPowers" "[I"] ++ wsX00)
def wsX0_addUpSets : List Cond := .code yX0_addUpSets cX0_addUpSets 5 none :: ([.fieldLink RX0 43 "MirrorTower$Face" "setPowers" "[I", .fieldLink RX0 28 "MirrorTower$Face" "powers" "[I", .fieldLink RX0 25 "MirrorTower$Face" "order" "[I"] ++ wsX00)
def wsX0_widen : List Cond := .code yX0_widen cX0_widen 5 none :: ([.fieldLink RX0 46 "MirrorTower$Face" "fits" "[Z", .fieldLink RX0 43 "MirrorTower$Face" "setPowers" "[I"] ++ wsX00)
def wsX0_bestHeat_r1 : List Cond := [Cond.fieldLink RX0 11 "MirrorTower$Face" "field" "LMirrorTower$Field;", Cond.methodLink RX0 84 Lib.Math.min.name, Cond.static Lib.Math.min.name, Cond.initialized "java/lang/Math", Cond.code Lib.Math.min.name Lib.Math.min.code 2 (some .int), Cond.fieldLink RX0 46 "MirrorTower$Face" "fits" "[Z", Cond.fieldLink RX0 15 "MirrorTower$Face" "limits" "[I", Cond.fieldLink RX0 43 "MirrorTower$Face" "setPowers" "[I", Cond.methodLink RX0 96 Lib.Math.max.name, Cond.static Lib.Math.max.name, Cond.code Lib.Math.max.name Lib.Math.max.code 2 (some .int), Cond.methodLink RX0 70 yX0_readPowers, Cond.instanceMethod yX0_readPowers, Cond.selects RX0 yX0_readPowers yX0_readPowers, Cond.initialized RX0, Cond.code yX0_readPowers cX0_readPowers 4 none, Cond.fieldLink RX0 28 "MirrorTower$Face" "powers" "[I", Cond.methodLink RX0 54 yX1_size, Cond.instanceMethod yX1_size, Cond.selects RX1 yX1_size yX1_size, Cond.initialized RX1, Cond.code yX1_size cX1_size 1 (some .int), Cond.fieldLink RX1 43 "MirrorTower$Field" "size" "I", Cond.methodLink RX0 80 yX1_powerOf]
def wsX0_bestHeat_r2 : List Cond := [Cond.instanceMethod yX1_powerOf, Cond.selects RX1 yX1_powerOf yX1_powerOf, Cond.code yX1_powerOf cX1_powerOf 6 (some .int), Cond.fieldLink RX1 33 "MirrorTower$Field" "heights" "[I", Cond.methodLink RX1 58 Lib.Math.max.name, Cond.fieldLink RX1 21 "MirrorTower$Field" "blockers" "[I", Cond.methodLink RX1 50 yX1_isStowed, Cond.instanceMethod yX1_isStowed, Cond.selects RX1 yX1_isStowed yX1_isStowed, Cond.code yX1_isStowed cX1_isStowed 2 (some .boolean), Cond.fieldLink RX1 36 "MirrorTower$Field" "winds" "[I", Cond.methodLink RX1 54 yX1_soilOf, Cond.instanceMethod yX1_soilOf, Cond.selects RX1 yX1_soilOf yX1_soilOf, Cond.code yX1_soilOf cX1_soilOf 3 (some .int), Cond.fieldLink RX1 24 "MirrorTower$Field" "soils" "[I", Cond.fieldLink RX1 39 "MirrorTower$Field" "dustAnHour" "I", Cond.methodLink RX1 66 Lib.Math.min.name, Cond.methodLink RX1 63 yX1_shadersOf, Cond.instanceMethod yX1_shadersOf, Cond.selects RX1 yX1_shadersOf yX1_shadersOf, Cond.code yX1_shadersOf cX1_shadersOf 7 (some .int), Cond.fieldLink RX1 15 "MirrorTower$Field" "xs" "[I", Cond.fieldLink RX1 18 "MirrorTower$Field" "ys" "[I"]
def wsX0_bestHeat_r3 : List Cond := [Cond.fieldLink RX1 27 "MirrorTower$Field" "stepsX" "[I", Cond.fieldLink RX1 30 "MirrorTower$Field" "stepsY" "[I", Cond.fieldLink RX1 9 "MirrorTower$Field" "taken" "[I", Cond.methodLink RX0 74 yX0_rank, Cond.instanceMethod yX0_rank, Cond.selects RX0 yX0_rank yX0_rank, Cond.code yX0_rank cX0_rank 3 none, Cond.fieldLink RX0 25 "MirrorTower$Face" "order" "[I", Cond.methodLink RX0 89 yX0_addUpSets, Cond.instanceMethod yX0_addUpSets, Cond.selects RX0 yX0_addUpSets yX0_addUpSets, Cond.code yX0_addUpSets cX0_addUpSets 5 none, Cond.methodLink RX0 93 yX0_widen, Cond.instanceMethod yX0_widen, Cond.selects RX0 yX0_widen yX0_widen, Cond.code yX0_widen cX0_widen 5 none]
def wsX0_bestHeat : List Cond := .code yX0_bestHeat cX0_bestHeat 6 (some .int) :: ((wsX0_bestHeat_r1 ++ (wsX0_bestHeat_r2 ++ wsX0_bestHeat_r3)) ++ wsX00 ++ wsX10)
def wsX1_init : List Cond := .code yX1_init cX1_init 1 none :: ([.methodLink RX1 3 objectInit, .instanceMethod objectInit, .code objectInit ⟨#[0xb1]⟩ 1 none, .arrayClass .int, .fieldLink RX1 9 "MirrorTower$Field" "taken" "[I", .fieldLink RX1 15 "MirrorTower$Field" "xs" "[I", .fieldLink RX1 18 "MirrorTower$Field" "ys" "[I", .fieldLink RX1 21 "MirrorTower$Field" "blockers" "[I", .fieldLink RX1 24 "MirrorTower$Field" "soils" "[I", .fieldLink RX1 27 "MirrorTower$Field" "stepsX" "[I", .fieldLink RX1 30 "MirrorTower$Field" "stepsY" "[I", .fieldLink RX1 33 "MirrorTower$Field" "heights" "[I", .fieldLink RX1 36 "MirrorTower$Field" "winds" "[I", .fieldLink RX1 39 "MirrorTower$Field" "dustAnHour" "I"] ++ wsX10)
def wsX1_isTaken : List Cond := .code yX1_isTaken cX1_isTaken 3 (some .boolean) :: ([.fieldLink RX1 9 "MirrorTower$Field" "taken" "[I"] ++ wsX10)
def wsX1_isBetween : List Cond := .code yX1_isBetween cX1_isBetween 8 (some .boolean) :: ([.fieldLink RX1 15 "MirrorTower$Field" "xs" "[I", .fieldLink RX1 18 "MirrorTower$Field" "ys" "[I"] ++ wsX10)
def wsX1_place : List Cond := .code yX1_place cX1_place 5 (some .int) :: ([.fieldLink RX1 43 "MirrorTower$Field" "size" "I", .fieldLink RX1 15 "MirrorTower$Field" "xs" "[I", .fieldLink RX1 18 "MirrorTower$Field" "ys" "[I", .fieldLink RX1 9 "MirrorTower$Field" "taken" "[I", .fieldLink RX1 21 "MirrorTower$Field" "blockers" "[I", .methodLink RX1 46 yX1_isBetween, .instanceMethod yX1_isBetween, .selects RX1 yX1_isBetween yX1_isBetween, .initialized RX1, .code yX1_isBetween cX1_isBetween 8 (some .boolean)] ++ wsX10)
def wsX1_setSun : List Cond := .code yX1_setSun cX1_setSun 5 none :: ([.fieldLink RX1 27 "MirrorTower$Field" "stepsX" "[I", .fieldLink RX1 30 "MirrorTower$Field" "stepsY" "[I", .fieldLink RX1 33 "MirrorTower$Field" "heights" "[I"] ++ wsX10)
def wsX1_setWind : List Cond := .code yX1_setWind cX1_setWind 3 none :: ([.fieldLink RX1 36 "MirrorTower$Field" "winds" "[I"] ++ wsX10)
def wsX1_setDust : List Cond := .code yX1_setDust cX1_setDust 2 none :: ([.fieldLink RX1 39 "MirrorTower$Field" "dustAnHour" "I"] ++ wsX10)
def wsX1_blockersOf : List Cond := .code yX1_blockersOf cX1_blockersOf 2 (some .int) :: ([.fieldLink RX1 21 "MirrorTower$Field" "blockers" "[I"] ++ wsX10)
def wsX1_soilInAll : List Cond := .code yX1_soilInAll cX1_soilInAll 3 (some .int) :: ([.fieldLink RX1 43 "MirrorTower$Field" "size" "I", .fieldLink RX1 24 "MirrorTower$Field" "soils" "[I"] ++ wsX10)
def wsX1_growSoil : List Cond := .code yX1_growSoil cX1_growSoil 2 none :: ([.fieldLink RX1 43 "MirrorTower$Field" "size" "I", .fieldLink RX1 24 "MirrorTower$Field" "soils" "[I", .methodLink RX1 54 yX1_soilOf, .instanceMethod yX1_soilOf, .selects RX1 yX1_soilOf yX1_soilOf, .initialized RX1, .code yX1_soilOf cX1_soilOf 3 (some .int), .fieldLink RX1 39 "MirrorTower$Field" "dustAnHour" "I", .methodLink RX1 66 Lib.Math.min.name, .static Lib.Math.min.name, .initialized "java/lang/Math", .code Lib.Math.min.name Lib.Math.min.code 2 (some .int)] ++ wsX10)
def wsX1_mostSoiled : List Cond := .code yX1_mostSoiled cX1_mostSoiled 3 (some .int) :: ([.fieldLink RX1 43 "MirrorTower$Field" "size" "I", .fieldLink RX1 24 "MirrorTower$Field" "soils" "[I"] ++ wsX10)
def wsX1_washMost : List Cond := .code yX1_washMost cX1_washMost 5 (some .int) :: ([.fieldLink RX1 43 "MirrorTower$Field" "size" "I", .methodLink RX1 66 Lib.Math.min.name, .static Lib.Math.min.name, .initialized "java/lang/Math", .code Lib.Math.min.name Lib.Math.min.code 2 (some .int), .fieldLink RX1 24 "MirrorTower$Field" "soils" "[I", .methodLink RX1 69 yX1_mostSoiled, .instanceMethod yX1_mostSoiled, .selects RX1 yX1_mostSoiled yX1_mostSoiled, .initialized RX1, .code yX1_mostSoiled cX1_mostSoiled 3 (some .int)] ++ wsX10)
def wsX2_init : List Cond := .code yX2_init cX2_init 1 none :: ([.methodLink RX2 3 objectInit, .instanceMethod objectInit, .code objectInit ⟨#[0xb1]⟩ 1 none, .arrayClass .int, .fieldLink RX2 9 "MirrorTower$Shots" "marks" "[I", .fieldLink RX2 15 "MirrorTower$Shots" "setsWith" "[I"] ++ wsX20)
def wsX2_size : List Cond := .code yX2_size cX2_size 1 (some .int) :: ([.fieldLink RX2 18 "MirrorTower$Shots" "size" "I"] ++ wsX20)
def wsJ13_bitCount_95d88 : List Cond := .code yJ13_bitCount_95d88 cJ13_bitCount_95d88 2 (some .int) :: ([.constantLong RJ13 314 (6148914691236517205), .constantLong RJ13 316 (3689348814741910323), .constantLong RJ13 318 (1085102592571150095)])
def wsX2_note : List Cond := .code yX2_note cX2_note 6 (some .int) :: ([.fieldLink RX2 18 "MirrorTower$Shots" "size" "I", .fieldLink RX2 9 "MirrorTower$Shots" "marks" "[I", .fieldLink RX2 22 "MirrorTower$Shots" "missing" "I", .methodLink RX2 31 Lib.Math.min.name, .static Lib.Math.min.name, .initialized "java/lang/Math", .code Lib.Math.min.name Lib.Math.min.code 2 (some .int), .methodLink RX2 25 yJ13_bitCount_95d88, .static yJ13_bitCount_95d88, .initialized RJ13, .code yJ13_bitCount_95d88 cJ13_bitCount_95d88 2 (some .int), .constantLong RJ13 314 (6148914691236517205), .constantLong RJ13 316 (3689348814741910323), .constantLong RJ13 318 (1085102592571150095)] ++ wsX20)
def wsX2_drop : List Cond := .code yX2_drop cX2_drop 2 (some .int) :: ([.fieldLink RX2 18 "MirrorTower$Shots" "size" "I", .fieldLink RX2 9 "MirrorTower$Shots" "marks" "[I", .fieldLink RX2 22 "MirrorTower$Shots" "missing" "I", .methodLink RX2 37 yJ7_fill_53178, .static yJ7_fill_53178, .initialized RJ7, .code yJ7_fill_53178 cJ7_fill_53178 4 none] ++ wsX20)
def wsX2_tally : List Cond := .code yX2_tally cX2_tally 4 none :: ([.fieldLink RX2 15 "MirrorTower$Shots" "setsWith" "[I", .fieldLink RX2 22 "MirrorTower$Shots" "missing" "I", .fieldLink RX2 47 "MirrorTower$Shots" "sets" "I", .fieldLink RX2 9 "MirrorTower$Shots" "marks" "[I", .methodLink RX2 37 yJ7_fill_53178, .static yJ7_fill_53178, .initialized RJ7, .code yJ7_fill_53178 cJ7_fill_53178 4 none] ++ wsX20)
def wsX2_setsOf : List Cond := .code yX2_setsOf cX2_setsOf 2 (some .int) :: ([.fieldLink RX2 47 "MirrorTower$Shots" "sets" "I", .methodLink RX2 43 yX2_tally, .instanceMethod yX2_tally, .selects RX2 yX2_tally yX2_tally, .initialized RX2, .code yX2_tally cX2_tally 4 none, .fieldLink RX2 15 "MirrorTower$Shots" "setsWith" "[I", .fieldLink RX2 22 "MirrorTower$Shots" "missing" "I", .fieldLink RX2 9 "MirrorTower$Shots" "marks" "[I", .methodLink RX2 37 yJ7_fill_53178, .static yJ7_fill_53178, .initialized RJ7, .code yJ7_fill_53178 cJ7_fill_53178 4 none] ++ wsX20)
def wsX2_isSure : List Cond := .code yX2_isSure cX2_isSure 2 (some .boolean) :: ([.fieldLink RX2 47 "MirrorTower$Shots" "sets" "I", .fieldLink RX2 15 "MirrorTower$Shots" "setsWith" "[I"] ++ wsX20)
def wsX2_verdictOn : List Cond := .code yX2_verdictOn cX2_verdictOn 3 (some .int) :: ([.fieldLink RX2 15 "MirrorTower$Shots" "setsWith" "[I", .methodLink RX2 43 yX2_tally, .instanceMethod yX2_tally, .selects RX2 yX2_tally yX2_tally, .initialized RX2, .code yX2_tally cX2_tally 4 none, .fieldLink RX2 22 "MirrorTower$Shots" "missing" "I", .fieldLink RX2 47 "MirrorTower$Shots" "sets" "I", .fieldLink RX2 9 "MirrorTower$Shots" "marks" "[I", .methodLink RX2 37 yJ7_fill_53178, .static yJ7_fill_53178, .initialized RJ7, .code yJ7_fill_53178 cJ7_fill_53178 4 none, .methodLink RX2 50 yX2_isSure, .instanceMethod yX2_isSure, .selects RX2 yX2_isSure yX2_isSure, .code yX2_isSure cX2_isSure 2 (some .boolean)] ++ wsX20)
def wsX2_unsureOf : List Cond := .code yX2_unsureOf cX2_unsureOf 4 (some .int) :: ([.methodLink RX2 43 yX2_tally, .instanceMethod yX2_tally, .selects RX2 yX2_tally yX2_tally, .initialized RX2, .code yX2_tally cX2_tally 4 none, .fieldLink RX2 15 "MirrorTower$Shots" "setsWith" "[I", .fieldLink RX2 22 "MirrorTower$Shots" "missing" "I", .fieldLink RX2 47 "MirrorTower$Shots" "sets" "I", .fieldLink RX2 9 "MirrorTower$Shots" "marks" "[I", .methodLink RX2 37 yJ7_fill_53178, .static yJ7_fill_53178, .initialized RJ7, .code yJ7_fill_53178 cJ7_fill_53178 4 none, .methodLink RX2 50 yX2_isSure, .instanceMethod yX2_isSure, .selects RX2 yX2_isSure yX2_isSure, .code yX2_isSure cX2_isSure 2 (some .boolean)] ++ wsX20)
def wsX3_init : List Cond := .code yX3_init cX3_init 3 none :: ([.methodLink RX3 3 objectInit, .instanceMethod objectInit, .code objectInit ⟨#[0xb1]⟩ 1 none, .fieldLink RX3 9 "MirrorTower$Store" "field" "LMirrorTower$Field;", .fieldLink RX3 15 "MirrorTower$Store" "cells" "LMirrorTower$Face;", .arrayClass .int, .fieldLink RX3 19 "MirrorTower$Store" "prices" "[I", .fieldLink RX3 29 "MirrorTower$Store" "gains" "[I", .fieldLink RX3 32 "MirrorTower$Store" "laterGains" "[I", .fieldLink RX3 35 "MirrorTower$Store" "choices" "[I", .fieldLink RX3 38 "MirrorTower$Store" "unitsIn" "[I", .fieldLink RX3 41 "MirrorTower$Store" "mostHeld" "[I", .fieldLink RX3 44 "MirrorTower$Store" "plannedFrom" "I", .methodLink RX3 23 yJ7_fill_53178, .static yJ7_fill_53178, .initialized RJ7, .code yJ7_fill_53178 cJ7_fill_53178 4 none] ++ wsX30)
def wsX3_setPrice : List Cond := .code yX3_setPrice cX3_setPrice 3 none :: ([.fieldLink RX3 19 "MirrorTower$Store" "prices" "[I"] ++ wsX30)
def wsX3_hourNow : List Cond := .code yX3_hourNow cX3_hourNow 1 (some .int) :: ([.fieldLink RX3 48 "MirrorTower$Store" "now" "I"] ++ wsX30)
def wsX3_unitsHeld : List Cond := .code yX3_unitsHeld cX3_unitsHeld 1 (some .int) :: ([.fieldLink RX3 51 "MirrorTower$Store" "units" "I"] ++ wsX30)
def wsX3_isWarm : List Cond := .code yX3_isWarm cX3_isWarm 1 (some .boolean) :: ([.fieldLink RX3 54 "MirrorTower$Store" "warm" "Z"] ++ wsX30)
def wsX3_earnedInAll : List Cond := .code yX3_earnedInAll cX3_earnedInAll 1 (some .int) :: ([.fieldLink RX3 58 "MirrorTower$Store" "earnings" "I"] ++ wsX30)
def wsX3_filled : List Cond := .code yX3_filled cX3_filled 2 (some .int) :: ([.methodLink RX3 83 Lib.Math.min.name, .static Lib.Math.min.name, .initialized "java/lang/Math", .code Lib.Math.min.name Lib.Math.min.code 2 (some .int)])
def wsX3_needed : List Cond := .code yX3_needed cX3_needed 1 (some .int) :: ([])
def wsX3_gainOf : List Cond := .code yX3_gainOf cX3_gainOf 2 (some .int) :: ([.fieldLink RX3 19 "MirrorTower$Store" "prices" "[I"] ++ wsX30)
def wsX3_passHour_r1 : List Cond := [Cond.fieldLink RX3 51 "MirrorTower$Store" "units" "I", Cond.fieldLink RX3 15 "MirrorTower$Store" "cells" "LMirrorTower$Face;", Cond.fieldLink RX3 48 "MirrorTower$Store" "now" "I", Cond.fieldLink RX3 54 "MirrorTower$Store" "warm" "Z", Cond.fieldLink RX3 58 "MirrorTower$Store" "earnings" "I", Cond.fieldLink RX3 9 "MirrorTower$Store" "field" "LMirrorTower$Field;", Cond.methodLink RX3 61 yX0_aimAll, Cond.instanceMethod yX0_aimAll, Cond.selects RX0 yX0_aimAll yX0_aimAll, Cond.initialized RX0, Cond.code yX0_aimAll cX0_aimAll 7 (some .int), Cond.fieldLink RX0 15 "MirrorTower$Face" "limits" "[I", Cond.fieldLink RX0 34 "MirrorTower$Face" "left" "[I", Cond.methodLink RX0 64 arraycopyName, Cond.native arraycopyName, Cond.static arraycopyName, Cond.initialized "java/lang/System", Cond.fieldLink RX0 11 "MirrorTower$Face" "field" "LMirrorTower$Field;", Cond.fieldLink RX0 25 "MirrorTower$Face" "order" "[I", Cond.fieldLink RX0 28 "MirrorTower$Face" "powers" "[I", Cond.fieldLink RX0 31 "MirrorTower$Face" "cellOf" "[I", Cond.methodLink RX0 70 yX0_readPowers, Cond.instanceMethod yX0_readPowers, Cond.selects RX0 yX0_readPowers yX0_readPowers]
def wsX3_passHour_r2 : List Cond := [Cond.code yX0_readPowers cX0_readPowers 4 none, Cond.methodLink RX0 54 yX1_size, Cond.instanceMethod yX1_size, Cond.selects RX1 yX1_size yX1_size, Cond.initialized RX1, Cond.code yX1_size cX1_size 1 (some .int), Cond.fieldLink RX1 43 "MirrorTower$Field" "size" "I", Cond.methodLink RX0 80 yX1_powerOf, Cond.instanceMethod yX1_powerOf, Cond.selects RX1 yX1_powerOf yX1_powerOf, Cond.code yX1_powerOf cX1_powerOf 6 (some .int), Cond.fieldLink RX1 33 "MirrorTower$Field" "heights" "[I", Cond.methodLink RX1 58 Lib.Math.max.name, Cond.static Lib.Math.max.name, Cond.initialized "java/lang/Math", Cond.code Lib.Math.max.name Lib.Math.max.code 2 (some .int), Cond.fieldLink RX1 21 "MirrorTower$Field" "blockers" "[I", Cond.methodLink RX1 50 yX1_isStowed, Cond.instanceMethod yX1_isStowed, Cond.selects RX1 yX1_isStowed yX1_isStowed, Cond.code yX1_isStowed cX1_isStowed 2 (some .boolean), Cond.fieldLink RX1 36 "MirrorTower$Field" "winds" "[I", Cond.methodLink RX1 54 yX1_soilOf, Cond.instanceMethod yX1_soilOf]
def wsX3_passHour_r3 : List Cond := [Cond.selects RX1 yX1_soilOf yX1_soilOf, Cond.code yX1_soilOf cX1_soilOf 3 (some .int), Cond.fieldLink RX1 24 "MirrorTower$Field" "soils" "[I", Cond.fieldLink RX1 39 "MirrorTower$Field" "dustAnHour" "I", Cond.methodLink RX1 66 Lib.Math.min.name, Cond.static Lib.Math.min.name, Cond.code Lib.Math.min.name Lib.Math.min.code 2 (some .int), Cond.methodLink RX1 63 yX1_shadersOf, Cond.instanceMethod yX1_shadersOf, Cond.selects RX1 yX1_shadersOf yX1_shadersOf, Cond.code yX1_shadersOf cX1_shadersOf 7 (some .int), Cond.fieldLink RX1 15 "MirrorTower$Field" "xs" "[I", Cond.fieldLink RX1 18 "MirrorTower$Field" "ys" "[I", Cond.fieldLink RX1 27 "MirrorTower$Field" "stepsX" "[I", Cond.fieldLink RX1 30 "MirrorTower$Field" "stepsY" "[I", Cond.fieldLink RX1 9 "MirrorTower$Field" "taken" "[I", Cond.methodLink RX0 74 yX0_rank, Cond.instanceMethod yX0_rank, Cond.selects RX0 yX0_rank yX0_rank, Cond.code yX0_rank cX0_rank 3 none, Cond.methodLink RX0 77 yX0_roomiestCell, Cond.instanceMethod yX0_roomiestCell, Cond.selects RX0 yX0_roomiestCell yX0_roomiestCell, Cond.code yX0_roomiestCell cX0_roomiestCell 3 (some .int)]
def wsX3_passHour_r4 : List Cond := [Cond.methodLink RX3 67 yX3_filled, Cond.static yX3_filled, Cond.initialized RX3, Cond.code yX3_filled cX3_filled 2 (some .int), Cond.methodLink RX3 83 Lib.Math.min.name, Cond.methodLink RX3 70 yX3_needed, Cond.static yX3_needed, Cond.code yX3_needed cX3_needed 1 (some .int), Cond.methodLink RX3 74 yX3_gainOf, Cond.instanceMethod yX3_gainOf, Cond.selects RX3 yX3_gainOf yX3_gainOf, Cond.code yX3_gainOf cX3_gainOf 2 (some .int), Cond.fieldLink RX3 19 "MirrorTower$Store" "prices" "[I", Cond.methodLink RX3 78 yX1_growSoil, Cond.instanceMethod yX1_growSoil, Cond.selects RX1 yX1_growSoil yX1_growSoil, Cond.code yX1_growSoil cX1_growSoil 2 none]
def wsX3_passHour : List Cond := .code yX3_passHour cX3_passHour 5 (some .int) :: ((wsX3_passHour_r1 ++ (wsX3_passHour_r2 ++ (wsX3_passHour_r3 ++ wsX3_passHour_r4))) ++ wsX30 ++ wsX00 ++ wsX10)
def wsX3_plannedRun : List Cond := .code yX3_plannedRun cX3_plannedRun 2 (some .int) :: ([.fieldLink RX3 44 "MirrorTower$Store" "plannedFrom" "I", .fieldLink RX3 88 "MirrorTower$Store" "planned" "I"] ++ wsX30)
def wsX3_lookAhead_r1 : List Cond := [Cond.fieldLink RX3 51 "MirrorTower$Store" "units" "I", Cond.fieldLink RX3 48 "MirrorTower$Store" "now" "I", Cond.fieldLink RX3 41 "MirrorTower$Store" "mostHeld" "[I", Cond.fieldLink RX3 38 "MirrorTower$Store" "unitsIn" "[I", Cond.fieldLink RX3 15 "MirrorTower$Store" "cells" "LMirrorTower$Face;", Cond.methodLink RX3 61 yX0_aimAll, Cond.instanceMethod yX0_aimAll, Cond.selects RX0 yX0_aimAll yX0_aimAll, Cond.initialized RX0, Cond.code yX0_aimAll cX0_aimAll 7 (some .int), Cond.fieldLink RX0 15 "MirrorTower$Face" "limits" "[I", Cond.fieldLink RX0 34 "MirrorTower$Face" "left" "[I", Cond.methodLink RX0 64 arraycopyName, Cond.native arraycopyName, Cond.static arraycopyName, Cond.initialized "java/lang/System", Cond.fieldLink RX0 11 "MirrorTower$Face" "field" "LMirrorTower$Field;", Cond.fieldLink RX0 25 "MirrorTower$Face" "order" "[I", Cond.fieldLink RX0 28 "MirrorTower$Face" "powers" "[I", Cond.fieldLink RX0 31 "MirrorTower$Face" "cellOf" "[I", Cond.methodLink RX0 70 yX0_readPowers, Cond.instanceMethod yX0_readPowers, Cond.selects RX0 yX0_readPowers yX0_readPowers, Cond.code yX0_readPowers cX0_readPowers 4 none]
def wsX3_lookAhead_r2 : List Cond := [Cond.methodLink RX0 54 yX1_size, Cond.instanceMethod yX1_size, Cond.selects RX1 yX1_size yX1_size, Cond.initialized RX1, Cond.code yX1_size cX1_size 1 (some .int), Cond.fieldLink RX1 43 "MirrorTower$Field" "size" "I", Cond.methodLink RX0 80 yX1_powerOf, Cond.instanceMethod yX1_powerOf, Cond.selects RX1 yX1_powerOf yX1_powerOf, Cond.code yX1_powerOf cX1_powerOf 6 (some .int), Cond.fieldLink RX1 33 "MirrorTower$Field" "heights" "[I", Cond.methodLink RX1 58 Lib.Math.max.name, Cond.static Lib.Math.max.name, Cond.initialized "java/lang/Math", Cond.code Lib.Math.max.name Lib.Math.max.code 2 (some .int), Cond.fieldLink RX1 21 "MirrorTower$Field" "blockers" "[I", Cond.methodLink RX1 50 yX1_isStowed, Cond.instanceMethod yX1_isStowed, Cond.selects RX1 yX1_isStowed yX1_isStowed, Cond.code yX1_isStowed cX1_isStowed 2 (some .boolean), Cond.fieldLink RX1 36 "MirrorTower$Field" "winds" "[I", Cond.methodLink RX1 54 yX1_soilOf, Cond.instanceMethod yX1_soilOf, Cond.selects RX1 yX1_soilOf yX1_soilOf]
def wsX3_lookAhead_r3 : List Cond := [Cond.code yX1_soilOf cX1_soilOf 3 (some .int), Cond.fieldLink RX1 24 "MirrorTower$Field" "soils" "[I", Cond.fieldLink RX1 39 "MirrorTower$Field" "dustAnHour" "I", Cond.methodLink RX1 66 Lib.Math.min.name, Cond.static Lib.Math.min.name, Cond.code Lib.Math.min.name Lib.Math.min.code 2 (some .int), Cond.methodLink RX1 63 yX1_shadersOf, Cond.instanceMethod yX1_shadersOf, Cond.selects RX1 yX1_shadersOf yX1_shadersOf, Cond.code yX1_shadersOf cX1_shadersOf 7 (some .int), Cond.fieldLink RX1 15 "MirrorTower$Field" "xs" "[I", Cond.fieldLink RX1 18 "MirrorTower$Field" "ys" "[I", Cond.fieldLink RX1 27 "MirrorTower$Field" "stepsX" "[I", Cond.fieldLink RX1 30 "MirrorTower$Field" "stepsY" "[I", Cond.fieldLink RX1 9 "MirrorTower$Field" "taken" "[I", Cond.methodLink RX0 74 yX0_rank, Cond.instanceMethod yX0_rank, Cond.selects RX0 yX0_rank yX0_rank, Cond.code yX0_rank cX0_rank 3 none, Cond.methodLink RX0 77 yX0_roomiestCell, Cond.instanceMethod yX0_roomiestCell, Cond.selects RX0 yX0_roomiestCell yX0_roomiestCell, Cond.code yX0_roomiestCell cX0_roomiestCell 3 (some .int), Cond.methodLink RX3 67 yX3_filled]
def wsX3_lookAhead_r4 : List Cond := [Cond.static yX3_filled, Cond.initialized RX3, Cond.code yX3_filled cX3_filled 2 (some .int), Cond.methodLink RX3 83 Lib.Math.min.name]
def wsX3_lookAhead : List Cond := .code yX3_lookAhead cX3_lookAhead 3 none :: ((wsX3_lookAhead_r1 ++ (wsX3_lookAhead_r2 ++ (wsX3_lookAhead_r3 ++ wsX3_lookAhead_r4))) ++ wsX30 ++ wsX00 ++ wsX10)
def wsX3_stateOf : List Cond := .code yX3_stateOf cX3_stateOf 2 (some .int) :: ([])
def wsX3_weigh : List Cond := .code yX3_weigh cX3_weigh 8 none :: ([.fieldLink RX3 38 "MirrorTower$Store" "unitsIn" "[I", .fieldLink RX3 29 "MirrorTower$Store" "gains" "[I", .fieldLink RX3 32 "MirrorTower$Store" "laterGains" "[I", .fieldLink RX3 35 "MirrorTower$Store" "choices" "[I", .methodLink RX3 101 yX3_stateOf, .static yX3_stateOf, .initialized RX3, .code yX3_stateOf cX3_stateOf 2 (some .int), .methodLink RX3 67 yX3_filled, .static yX3_filled, .code yX3_filled cX3_filled 2 (some .int), .methodLink RX3 83 Lib.Math.min.name, .static Lib.Math.min.name, .initialized "java/lang/Math", .code Lib.Math.min.name Lib.Math.min.code 2 (some .int), .methodLink RX3 70 yX3_needed, .static yX3_needed, .code yX3_needed cX3_needed 1 (some .int), .methodLink RX3 74 yX3_gainOf, .instanceMethod yX3_gainOf, .selects RX3 yX3_gainOf yX3_gainOf, .code yX3_gainOf cX3_gainOf 2 (some .int), .fieldLink RX3 19 "MirrorTower$Store" "prices" "[I"] ++ wsX30)
def wsX3_weighHour_r1 : List Cond := [Cond.fieldLink RX3 41 "MirrorTower$Store" "mostHeld" "[I", Cond.methodLink RX3 105 yX3_weigh, Cond.instanceMethod yX3_weigh, Cond.selects RX3 yX3_weigh yX3_weigh, Cond.initialized RX3, Cond.code yX3_weigh cX3_weigh 8 none, Cond.fieldLink RX3 38 "MirrorTower$Store" "unitsIn" "[I", Cond.fieldLink RX3 29 "MirrorTower$Store" "gains" "[I", Cond.fieldLink RX3 32 "MirrorTower$Store" "laterGains" "[I", Cond.fieldLink RX3 35 "MirrorTower$Store" "choices" "[I", Cond.methodLink RX3 101 yX3_stateOf, Cond.static yX3_stateOf, Cond.code yX3_stateOf cX3_stateOf 2 (some .int), Cond.methodLink RX3 67 yX3_filled, Cond.static yX3_filled, Cond.code yX3_filled cX3_filled 2 (some .int), Cond.methodLink RX3 83 Lib.Math.min.name, Cond.static Lib.Math.min.name, Cond.initialized "java/lang/Math", Cond.code Lib.Math.min.name Lib.Math.min.code 2 (some .int), Cond.methodLink RX3 70 yX3_needed, Cond.static yX3_needed, Cond.code yX3_needed cX3_needed 1 (some .int), Cond.methodLink RX3 74 yX3_gainOf]
def wsX3_weighHour_r2 : List Cond := [Cond.instanceMethod yX3_gainOf, Cond.selects RX3 yX3_gainOf yX3_gainOf, Cond.code yX3_gainOf cX3_gainOf 2 (some .int), Cond.fieldLink RX3 19 "MirrorTower$Store" "prices" "[I"]
def wsX3_weighHour : List Cond := .code yX3_weighHour cX3_weighHour 3 none :: ((wsX3_weighHour_r1 ++ wsX3_weighHour_r2) ++ wsX30)
def wsX3_followChoices : List Cond := .code yX3_followChoices cX3_followChoices 5 none :: ([.fieldLink RX3 88 "MirrorTower$Store" "planned" "I", .fieldLink RX3 48 "MirrorTower$Store" "now" "I", .fieldLink RX3 44 "MirrorTower$Store" "plannedFrom" "I", .fieldLink RX3 51 "MirrorTower$Store" "units" "I", .fieldLink RX3 54 "MirrorTower$Store" "warm" "Z", .fieldLink RX3 35 "MirrorTower$Store" "choices" "[I", .fieldLink RX3 38 "MirrorTower$Store" "unitsIn" "[I", .methodLink RX3 101 yX3_stateOf, .static yX3_stateOf, .initialized RX3, .code yX3_stateOf cX3_stateOf 2 (some .int), .methodLink RX3 67 yX3_filled, .static yX3_filled, .code yX3_filled cX3_filled 2 (some .int), .methodLink RX3 83 Lib.Math.min.name, .static Lib.Math.min.name, .initialized "java/lang/Math", .code Lib.Math.min.name Lib.Math.min.code 2 (some .int), .methodLink RX3 70 yX3_needed, .static yX3_needed, .code yX3_needed cX3_needed 1 (some .int)] ++ wsX30)
def wsX3_layPlan_r1 : List Cond := [Cond.fieldLink RX3 29 "MirrorTower$Store" "gains" "[I", Cond.fieldLink RX3 35 "MirrorTower$Store" "choices" "[I", Cond.fieldLink RX3 48 "MirrorTower$Store" "now" "I", Cond.fieldLink RX3 32 "MirrorTower$Store" "laterGains" "[I", Cond.fieldLink RX3 51 "MirrorTower$Store" "units" "I", Cond.fieldLink RX3 54 "MirrorTower$Store" "warm" "Z", Cond.methodLink RX3 91 yX3_lookAhead, Cond.instanceMethod yX3_lookAhead, Cond.selects RX3 yX3_lookAhead yX3_lookAhead, Cond.initialized RX3, Cond.code yX3_lookAhead cX3_lookAhead 3 none, Cond.fieldLink RX3 41 "MirrorTower$Store" "mostHeld" "[I", Cond.fieldLink RX3 38 "MirrorTower$Store" "unitsIn" "[I", Cond.fieldLink RX3 15 "MirrorTower$Store" "cells" "LMirrorTower$Face;", Cond.methodLink RX3 61 yX0_aimAll, Cond.instanceMethod yX0_aimAll, Cond.selects RX0 yX0_aimAll yX0_aimAll, Cond.initialized RX0, Cond.code yX0_aimAll cX0_aimAll 7 (some .int), Cond.fieldLink RX0 15 "MirrorTower$Face" "limits" "[I", Cond.fieldLink RX0 34 "MirrorTower$Face" "left" "[I", Cond.methodLink RX0 64 arraycopyName, Cond.native arraycopyName, Cond.static arraycopyName]
def wsX3_layPlan_r2 : List Cond := [Cond.initialized "java/lang/System", Cond.fieldLink RX0 11 "MirrorTower$Face" "field" "LMirrorTower$Field;", Cond.fieldLink RX0 25 "MirrorTower$Face" "order" "[I", Cond.fieldLink RX0 28 "MirrorTower$Face" "powers" "[I", Cond.fieldLink RX0 31 "MirrorTower$Face" "cellOf" "[I", Cond.methodLink RX0 70 yX0_readPowers, Cond.instanceMethod yX0_readPowers, Cond.selects RX0 yX0_readPowers yX0_readPowers, Cond.code yX0_readPowers cX0_readPowers 4 none, Cond.methodLink RX0 54 yX1_size, Cond.instanceMethod yX1_size, Cond.selects RX1 yX1_size yX1_size, Cond.initialized RX1, Cond.code yX1_size cX1_size 1 (some .int), Cond.fieldLink RX1 43 "MirrorTower$Field" "size" "I", Cond.methodLink RX0 80 yX1_powerOf, Cond.instanceMethod yX1_powerOf, Cond.selects RX1 yX1_powerOf yX1_powerOf, Cond.code yX1_powerOf cX1_powerOf 6 (some .int), Cond.fieldLink RX1 33 "MirrorTower$Field" "heights" "[I", Cond.methodLink RX1 58 Lib.Math.max.name, Cond.static Lib.Math.max.name, Cond.initialized "java/lang/Math", Cond.code Lib.Math.max.name Lib.Math.max.code 2 (some .int)]
def wsX3_layPlan_r3 : List Cond := [Cond.fieldLink RX1 21 "MirrorTower$Field" "blockers" "[I", Cond.methodLink RX1 50 yX1_isStowed, Cond.instanceMethod yX1_isStowed, Cond.selects RX1 yX1_isStowed yX1_isStowed, Cond.code yX1_isStowed cX1_isStowed 2 (some .boolean), Cond.fieldLink RX1 36 "MirrorTower$Field" "winds" "[I", Cond.methodLink RX1 54 yX1_soilOf, Cond.instanceMethod yX1_soilOf, Cond.selects RX1 yX1_soilOf yX1_soilOf, Cond.code yX1_soilOf cX1_soilOf 3 (some .int), Cond.fieldLink RX1 24 "MirrorTower$Field" "soils" "[I", Cond.fieldLink RX1 39 "MirrorTower$Field" "dustAnHour" "I", Cond.methodLink RX1 66 Lib.Math.min.name, Cond.static Lib.Math.min.name, Cond.code Lib.Math.min.name Lib.Math.min.code 2 (some .int), Cond.methodLink RX1 63 yX1_shadersOf, Cond.instanceMethod yX1_shadersOf, Cond.selects RX1 yX1_shadersOf yX1_shadersOf, Cond.code yX1_shadersOf cX1_shadersOf 7 (some .int), Cond.fieldLink RX1 15 "MirrorTower$Field" "xs" "[I", Cond.fieldLink RX1 18 "MirrorTower$Field" "ys" "[I", Cond.fieldLink RX1 27 "MirrorTower$Field" "stepsX" "[I", Cond.fieldLink RX1 30 "MirrorTower$Field" "stepsY" "[I", Cond.fieldLink RX1 9 "MirrorTower$Field" "taken" "[I"]
def wsX3_layPlan_r4 : List Cond := [Cond.methodLink RX0 74 yX0_rank, Cond.instanceMethod yX0_rank, Cond.selects RX0 yX0_rank yX0_rank, Cond.code yX0_rank cX0_rank 3 none, Cond.methodLink RX0 77 yX0_roomiestCell, Cond.instanceMethod yX0_roomiestCell, Cond.selects RX0 yX0_roomiestCell yX0_roomiestCell, Cond.code yX0_roomiestCell cX0_roomiestCell 3 (some .int), Cond.methodLink RX3 67 yX3_filled, Cond.static yX3_filled, Cond.code yX3_filled cX3_filled 2 (some .int), Cond.methodLink RX3 83 Lib.Math.min.name, Cond.methodLink RX3 23 yJ7_fill_53178, Cond.static yJ7_fill_53178, Cond.initialized RJ7, Cond.code yJ7_fill_53178 cJ7_fill_53178 4 none, Cond.methodLink RX3 94 yX3_weighHour, Cond.instanceMethod yX3_weighHour, Cond.selects RX3 yX3_weighHour yX3_weighHour, Cond.code yX3_weighHour cX3_weighHour 3 none, Cond.methodLink RX3 105 yX3_weigh, Cond.instanceMethod yX3_weigh, Cond.selects RX3 yX3_weigh yX3_weigh, Cond.code yX3_weigh cX3_weigh 8 none]
def wsX3_layPlan_r5 : List Cond := [Cond.methodLink RX3 101 yX3_stateOf, Cond.static yX3_stateOf, Cond.code yX3_stateOf cX3_stateOf 2 (some .int), Cond.methodLink RX3 70 yX3_needed, Cond.static yX3_needed, Cond.code yX3_needed cX3_needed 1 (some .int), Cond.methodLink RX3 74 yX3_gainOf, Cond.instanceMethod yX3_gainOf, Cond.selects RX3 yX3_gainOf yX3_gainOf, Cond.code yX3_gainOf cX3_gainOf 2 (some .int), Cond.fieldLink RX3 19 "MirrorTower$Store" "prices" "[I", Cond.methodLink RX3 98 yX3_followChoices, Cond.instanceMethod yX3_followChoices, Cond.selects RX3 yX3_followChoices yX3_followChoices, Cond.code yX3_followChoices cX3_followChoices 5 none, Cond.fieldLink RX3 88 "MirrorTower$Store" "planned" "I", Cond.fieldLink RX3 44 "MirrorTower$Store" "plannedFrom" "I"]
def wsX3_layPlan : List Cond := .code yX3_layPlan cX3_layPlan 3 (some .int) :: ((wsX3_layPlan_r1 ++ (wsX3_layPlan_r2 ++ (wsX3_layPlan_r3 ++ (wsX3_layPlan_r4 ++ wsX3_layPlan_r5)))) ++ wsX30 ++ wsX00 ++ wsX10)
def wsX4_init_r1 : List Cond := [Cond.methodLink RX4 1 objectInit, Cond.instanceMethod objectInit, Cond.code objectInit ⟨#[0xb1]⟩ 1 none, Cond.classLink RX4 7 RX1, Cond.instantiable RX1 11, Cond.initialized RX1, Cond.fieldLink RX4 10 "MirrorTower" "field" "LMirrorTower$Field;", Cond.classLink RX4 16 RX0, Cond.instantiable RX0 11, Cond.initialized RX0, Cond.fieldLink RX4 21 "MirrorTower" "cells" "LMirrorTower$Face;", Cond.classLink RX4 25 RX3, Cond.instantiable RX3 14, Cond.initialized RX3, Cond.fieldLink RX4 30 "MirrorTower" "store" "LMirrorTower$Store;", Cond.classLink RX4 34 RX2, Cond.instantiable RX2 5, Cond.initialized RX2, Cond.fieldLink RX4 37 "MirrorTower" "shots" "LMirrorTower$Shots;", Cond.fieldLink RX4 41 "MirrorTower" "trouble" "I", Cond.methodLink RX4 9 yX1_init, Cond.instanceMethod yX1_init, Cond.code yX1_init cX1_init 1 none, Cond.methodLink RX1 3 objectInit]
def wsX4_init_r2 : List Cond := [Cond.arrayClass .int, Cond.fieldLink RX1 9 "MirrorTower$Field" "taken" "[I", Cond.fieldLink RX1 15 "MirrorTower$Field" "xs" "[I", Cond.fieldLink RX1 18 "MirrorTower$Field" "ys" "[I", Cond.fieldLink RX1 21 "MirrorTower$Field" "blockers" "[I", Cond.fieldLink RX1 24 "MirrorTower$Field" "soils" "[I", Cond.fieldLink RX1 27 "MirrorTower$Field" "stepsX" "[I", Cond.fieldLink RX1 30 "MirrorTower$Field" "stepsY" "[I", Cond.fieldLink RX1 33 "MirrorTower$Field" "heights" "[I", Cond.fieldLink RX1 36 "MirrorTower$Field" "winds" "[I", Cond.fieldLink RX1 39 "MirrorTower$Field" "dustAnHour" "I", Cond.methodLink RX4 18 yX0_init, Cond.instanceMethod yX0_init, Cond.code yX0_init cX0_init 2 none, Cond.methodLink RX0 5 objectInit, Cond.fieldLink RX0 11 "MirrorTower$Face" "field" "LMirrorTower$Field;", Cond.fieldLink RX0 15 "MirrorTower$Face" "limits" "[I", Cond.fieldLink RX0 25 "MirrorTower$Face" "order" "[I", Cond.fieldLink RX0 28 "MirrorTower$Face" "powers" "[I", Cond.fieldLink RX0 31 "MirrorTower$Face" "cellOf" "[I", Cond.fieldLink RX0 34 "MirrorTower$Face" "left" "[I", Cond.fieldLink RX0 37 "MirrorTower$Face" "keptCells" "[I", Cond.fieldLink RX0 40 "MirrorTower$Face" "keptPowers" "[I", Cond.fieldLink RX0 43 "MirrorTower$Face" "setPowers" "[I"]
def wsX4_init_r3 : List Cond := [Cond.arrayClass .boolean, Cond.fieldLink RX0 46 "MirrorTower$Face" "fits" "[Z", Cond.methodLink RX0 19 yJ7_fill_53178, Cond.static yJ7_fill_53178, Cond.initialized RJ7, Cond.code yJ7_fill_53178 cJ7_fill_53178 4 none, Cond.methodLink RX4 27 yX3_init, Cond.instanceMethod yX3_init, Cond.code yX3_init cX3_init 3 none, Cond.methodLink RX3 3 objectInit, Cond.fieldLink RX3 9 "MirrorTower$Store" "field" "LMirrorTower$Field;", Cond.fieldLink RX3 15 "MirrorTower$Store" "cells" "LMirrorTower$Face;", Cond.fieldLink RX3 19 "MirrorTower$Store" "prices" "[I", Cond.fieldLink RX3 29 "MirrorTower$Store" "gains" "[I", Cond.fieldLink RX3 32 "MirrorTower$Store" "laterGains" "[I", Cond.fieldLink RX3 35 "MirrorTower$Store" "choices" "[I", Cond.fieldLink RX3 38 "MirrorTower$Store" "unitsIn" "[I", Cond.fieldLink RX3 41 "MirrorTower$Store" "mostHeld" "[I", Cond.fieldLink RX3 44 "MirrorTower$Store" "plannedFrom" "I", Cond.methodLink RX3 23 yJ7_fill_53178, Cond.methodLink RX4 36 yX2_init, Cond.instanceMethod yX2_init, Cond.code yX2_init cX2_init 1 none, Cond.methodLink RX2 3 objectInit]
def wsX4_init_r4 : List Cond := [Cond.fieldLink RX2 9 "MirrorTower$Shots" "marks" "[I", Cond.fieldLink RX2 15 "MirrorTower$Shots" "setsWith" "[I"]
def wsX4_init : List Cond := .code yX4_init cX4_init 1 none :: ((wsX4_init_r1 ++ (wsX4_init_r2 ++ (wsX4_init_r3 ++ wsX4_init_r4))) ++ wsX10 ++ wsX40 ++ wsX00 ++ wsX30 ++ wsX20)
def wsX4_isWithin : List Cond := .code yX4_isWithin cX4_isWithin 3 (some .boolean) :: ([])
def wsX4_refused : List Cond := .code yX4_refused cX4_refused 2 (some .int) :: ([.fieldLink RX4 41 "MirrorTower" "trouble" "I"] ++ wsX40)
def wsX4_granted : List Cond := .code yX4_granted cX4_granted 2 (some .int) :: ([.fieldLink RX4 41 "MirrorTower" "trouble" "I"] ++ wsX40)
def wsX4_mirror_r1 : List Cond := [Cond.fieldLink RX4 10 "MirrorTower" "field" "LMirrorTower$Field;", Cond.methodLink RX4 45 yX4_isWithin, Cond.static yX4_isWithin, Cond.initialized RX4, Cond.code yX4_isWithin cX4_isWithin 3 (some .boolean), Cond.methodLink RX4 49 yX4_refused, Cond.instanceMethod yX4_refused, Cond.selects RX4 yX4_refused yX4_refused, Cond.code yX4_refused cX4_refused 2 (some .int), Cond.fieldLink RX4 41 "MirrorTower" "trouble" "I", Cond.methodLink RX4 53 yX1_isTaken, Cond.instanceMethod yX1_isTaken, Cond.selects RX1 yX1_isTaken yX1_isTaken, Cond.initialized RX1, Cond.code yX1_isTaken cX1_isTaken 3 (some .boolean), Cond.fieldLink RX1 9 "MirrorTower$Field" "taken" "[I", Cond.methodLink RX4 57 yX1_size, Cond.instanceMethod yX1_size, Cond.selects RX1 yX1_size yX1_size, Cond.code yX1_size cX1_size 1 (some .int), Cond.fieldLink RX1 43 "MirrorTower$Field" "size" "I", Cond.methodLink RX4 61 yX1_place, Cond.instanceMethod yX1_place, Cond.selects RX1 yX1_place yX1_place]
def wsX4_mirror_r2 : List Cond := [Cond.code yX1_place cX1_place 5 (some .int), Cond.fieldLink RX1 15 "MirrorTower$Field" "xs" "[I", Cond.fieldLink RX1 18 "MirrorTower$Field" "ys" "[I", Cond.fieldLink RX1 21 "MirrorTower$Field" "blockers" "[I", Cond.methodLink RX1 46 yX1_isBetween, Cond.instanceMethod yX1_isBetween, Cond.selects RX1 yX1_isBetween yX1_isBetween, Cond.code yX1_isBetween cX1_isBetween 8 (some .boolean), Cond.methodLink RX4 65 yX4_granted, Cond.instanceMethod yX4_granted, Cond.selects RX4 yX4_granted yX4_granted, Cond.code yX4_granted cX4_granted 2 (some .int)]
def wsX4_mirror : List Cond := .code yX4_mirror cX4_mirror 4 (some .int) :: ((wsX4_mirror_r1 ++ wsX4_mirror_r2) ++ wsX40 ++ wsX10)
def wsX4_isHour : List Cond := .code yX4_isHour cX4_isHour 1 (some .boolean) :: ([.methodLink RX4 45 yX4_isWithin, .static yX4_isWithin, .initialized RX4, .code yX4_isWithin cX4_isWithin 3 (some .boolean)])
def wsX4_denied : List Cond := .code yX4_denied cX4_denied 2 (some .boolean) :: ([.fieldLink RX4 41 "MirrorTower" "trouble" "I"] ++ wsX40)
def wsX4_allowed : List Cond := .code yX4_allowed cX4_allowed 1 (some .boolean) :: ([.fieldLink RX4 41 "MirrorTower" "trouble" "I"] ++ wsX40)
def wsX4_sun_r1 : List Cond := [Cond.fieldLink RX4 10 "MirrorTower" "field" "LMirrorTower$Field;", Cond.methodLink RX4 45 yX4_isWithin, Cond.static yX4_isWithin, Cond.initialized RX4, Cond.code yX4_isWithin cX4_isWithin 3 (some .boolean), Cond.methodLink RX4 68 yX4_isHour, Cond.static yX4_isHour, Cond.code yX4_isHour cX4_isHour 1 (some .boolean), Cond.methodLink RX4 72 yX4_denied, Cond.instanceMethod yX4_denied, Cond.selects RX4 yX4_denied yX4_denied, Cond.code yX4_denied cX4_denied 2 (some .boolean), Cond.fieldLink RX4 41 "MirrorTower" "trouble" "I", Cond.methodLink RX4 75 yX1_setSun, Cond.instanceMethod yX1_setSun, Cond.selects RX1 yX1_setSun yX1_setSun, Cond.initialized RX1, Cond.code yX1_setSun cX1_setSun 5 none, Cond.fieldLink RX1 27 "MirrorTower$Field" "stepsX" "[I", Cond.fieldLink RX1 30 "MirrorTower$Field" "stepsY" "[I", Cond.fieldLink RX1 33 "MirrorTower$Field" "heights" "[I", Cond.methodLink RX4 79 yX4_allowed, Cond.instanceMethod yX4_allowed, Cond.selects RX4 yX4_allowed yX4_allowed]
def wsX4_sun_r2 : List Cond := [Cond.code yX4_allowed cX4_allowed 1 (some .boolean)]
def wsX4_sun : List Cond := .code yX4_sun cX4_sun 6 (some .boolean) :: ((wsX4_sun_r1 ++ wsX4_sun_r2) ++ wsX40 ++ wsX10)
def wsX4_isCell : List Cond := .code yX4_isCell cX4_isCell 1 (some .boolean) :: ([.methodLink RX4 45 yX4_isWithin, .static yX4_isWithin, .initialized RX4, .code yX4_isWithin cX4_isWithin 3 (some .boolean)])
def wsX4_limit : List Cond := .code yX4_limit cX4_limit 3 (some .boolean) :: ([.fieldLink RX4 21 "MirrorTower" "cells" "LMirrorTower$Face;", .methodLink RX4 83 yX4_isCell, .static yX4_isCell, .initialized RX4, .code yX4_isCell cX4_isCell 1 (some .boolean), .methodLink RX4 45 yX4_isWithin, .static yX4_isWithin, .code yX4_isWithin cX4_isWithin 3 (some .boolean), .methodLink RX4 72 yX4_denied, .instanceMethod yX4_denied, .selects RX4 yX4_denied yX4_denied, .code yX4_denied cX4_denied 2 (some .boolean), .fieldLink RX4 41 "MirrorTower" "trouble" "I", .methodLink RX4 86 yX0_setLimit, .instanceMethod yX0_setLimit, .selects RX0 yX0_setLimit yX0_setLimit, .initialized RX0, .code yX0_setLimit cX0_setLimit 3 none, .fieldLink RX0 15 "MirrorTower$Face" "limits" "[I", .methodLink RX4 79 yX4_allowed, .instanceMethod yX4_allowed, .selects RX4 yX4_allowed yX4_allowed, .code yX4_allowed cX4_allowed 1 (some .boolean)] ++ wsX40 ++ wsX00)
def wsX4_wind : List Cond := .code yX4_wind cX4_wind 3 (some .boolean) :: ([.fieldLink RX4 10 "MirrorTower" "field" "LMirrorTower$Field;", .methodLink RX4 68 yX4_isHour, .static yX4_isHour, .initialized RX4, .code yX4_isHour cX4_isHour 1 (some .boolean), .methodLink RX4 45 yX4_isWithin, .static yX4_isWithin, .code yX4_isWithin cX4_isWithin 3 (some .boolean), .methodLink RX4 72 yX4_denied, .instanceMethod yX4_denied, .selects RX4 yX4_denied yX4_denied, .code yX4_denied cX4_denied 2 (some .boolean), .fieldLink RX4 41 "MirrorTower" "trouble" "I", .methodLink RX4 90 yX1_setWind, .instanceMethod yX1_setWind, .selects RX1 yX1_setWind yX1_setWind, .initialized RX1, .code yX1_setWind cX1_setWind 3 none, .fieldLink RX1 36 "MirrorTower$Field" "winds" "[I", .methodLink RX4 79 yX4_allowed, .instanceMethod yX4_allowed, .selects RX4 yX4_allowed yX4_allowed, .code yX4_allowed cX4_allowed 1 (some .boolean)] ++ wsX40 ++ wsX10)
def wsX4_price : List Cond := .code yX4_price cX4_price 3 (some .boolean) :: ([.fieldLink RX4 30 "MirrorTower" "store" "LMirrorTower$Store;", .methodLink RX4 68 yX4_isHour, .static yX4_isHour, .initialized RX4, .code yX4_isHour cX4_isHour 1 (some .boolean), .methodLink RX4 45 yX4_isWithin, .static yX4_isWithin, .code yX4_isWithin cX4_isWithin 3 (some .boolean), .methodLink RX4 72 yX4_denied, .instanceMethod yX4_denied, .selects RX4 yX4_denied yX4_denied, .code yX4_denied cX4_denied 2 (some .boolean), .fieldLink RX4 41 "MirrorTower" "trouble" "I", .methodLink RX4 93 yX3_setPrice, .instanceMethod yX3_setPrice, .selects RX3 yX3_setPrice yX3_setPrice, .initialized RX3, .code yX3_setPrice cX3_setPrice 3 none, .fieldLink RX3 19 "MirrorTower$Store" "prices" "[I", .methodLink RX4 79 yX4_allowed, .instanceMethod yX4_allowed, .selects RX4 yX4_allowed yX4_allowed, .code yX4_allowed cX4_allowed 1 (some .boolean)] ++ wsX40 ++ wsX30)
def wsX4_dust : List Cond := .code yX4_dust cX4_dust 2 (some .boolean) :: ([.fieldLink RX4 10 "MirrorTower" "field" "LMirrorTower$Field;", .methodLink RX4 45 yX4_isWithin, .static yX4_isWithin, .initialized RX4, .code yX4_isWithin cX4_isWithin 3 (some .boolean), .methodLink RX4 72 yX4_denied, .instanceMethod yX4_denied, .selects RX4 yX4_denied yX4_denied, .code yX4_denied cX4_denied 2 (some .boolean), .fieldLink RX4 41 "MirrorTower" "trouble" "I", .methodLink RX4 96 yX1_setDust, .instanceMethod yX1_setDust, .selects RX1 yX1_setDust yX1_setDust, .initialized RX1, .code yX1_setDust cX1_setDust 2 none, .fieldLink RX1 39 "MirrorTower$Field" "dustAnHour" "I", .methodLink RX4 79 yX4_allowed, .instanceMethod yX4_allowed, .selects RX4 yX4_allowed yX4_allowed, .code yX4_allowed cX4_allowed 1 (some .boolean)] ++ wsX40 ++ wsX10)
def wsX4_isMirror : List Cond := .code yX4_isMirror cX4_isMirror 2 (some .boolean) :: ([.fieldLink RX4 10 "MirrorTower" "field" "LMirrorTower$Field;", .methodLink RX4 57 yX1_size, .instanceMethod yX1_size, .selects RX1 yX1_size yX1_size, .initialized RX1, .code yX1_size cX1_size 1 (some .int), .fieldLink RX1 43 "MirrorTower$Field" "size" "I", .methodLink RX4 45 yX4_isWithin, .static yX4_isWithin, .initialized RX4, .code yX4_isWithin cX4_isWithin 3 (some .boolean)] ++ wsX40 ++ wsX10)
def wsX4_shaded_r1 : List Cond := [Cond.fieldLink RX4 10 "MirrorTower" "field" "LMirrorTower$Field;", Cond.methodLink RX4 100 yX4_isMirror, Cond.instanceMethod yX4_isMirror, Cond.selects RX4 yX4_isMirror yX4_isMirror, Cond.initialized RX4, Cond.code yX4_isMirror cX4_isMirror 2 (some .boolean), Cond.methodLink RX4 57 yX1_size, Cond.instanceMethod yX1_size, Cond.selects RX1 yX1_size yX1_size, Cond.initialized RX1, Cond.code yX1_size cX1_size 1 (some .int), Cond.fieldLink RX1 43 "MirrorTower$Field" "size" "I", Cond.methodLink RX4 45 yX4_isWithin, Cond.static yX4_isWithin, Cond.code yX4_isWithin cX4_isWithin 3 (some .boolean), Cond.methodLink RX4 68 yX4_isHour, Cond.static yX4_isHour, Cond.code yX4_isHour cX4_isHour 1 (some .boolean), Cond.methodLink RX4 103 yX1_blockersOf, Cond.instanceMethod yX1_blockersOf, Cond.selects RX1 yX1_blockersOf yX1_blockersOf, Cond.code yX1_blockersOf cX1_blockersOf 2 (some .int), Cond.fieldLink RX1 21 "MirrorTower$Field" "blockers" "[I", Cond.methodLink RX4 106 yX1_shadersOf]
def wsX4_shaded_r2 : List Cond := [Cond.instanceMethod yX1_shadersOf, Cond.selects RX1 yX1_shadersOf yX1_shadersOf, Cond.code yX1_shadersOf cX1_shadersOf 7 (some .int), Cond.fieldLink RX1 33 "MirrorTower$Field" "heights" "[I", Cond.fieldLink RX1 15 "MirrorTower$Field" "xs" "[I", Cond.fieldLink RX1 18 "MirrorTower$Field" "ys" "[I", Cond.fieldLink RX1 27 "MirrorTower$Field" "stepsX" "[I", Cond.fieldLink RX1 30 "MirrorTower$Field" "stepsY" "[I", Cond.fieldLink RX1 9 "MirrorTower$Field" "taken" "[I"]
def wsX4_shaded : List Cond := .code yX4_shaded cX4_shaded 4 (some .int) :: ((wsX4_shaded_r1 ++ wsX4_shaded_r2) ++ wsX40 ++ wsX10)
def wsX4_power_r1 : List Cond := [Cond.fieldLink RX4 10 "MirrorTower" "field" "LMirrorTower$Field;", Cond.methodLink RX4 100 yX4_isMirror, Cond.instanceMethod yX4_isMirror, Cond.selects RX4 yX4_isMirror yX4_isMirror, Cond.initialized RX4, Cond.code yX4_isMirror cX4_isMirror 2 (some .boolean), Cond.methodLink RX4 57 yX1_size, Cond.instanceMethod yX1_size, Cond.selects RX1 yX1_size yX1_size, Cond.initialized RX1, Cond.code yX1_size cX1_size 1 (some .int), Cond.fieldLink RX1 43 "MirrorTower$Field" "size" "I", Cond.methodLink RX4 45 yX4_isWithin, Cond.static yX4_isWithin, Cond.code yX4_isWithin cX4_isWithin 3 (some .boolean), Cond.methodLink RX4 68 yX4_isHour, Cond.static yX4_isHour, Cond.code yX4_isHour cX4_isHour 1 (some .boolean), Cond.methodLink RX4 109 yX1_powerOf, Cond.instanceMethod yX1_powerOf, Cond.selects RX1 yX1_powerOf yX1_powerOf, Cond.code yX1_powerOf cX1_powerOf 6 (some .int), Cond.fieldLink RX1 33 "MirrorTower$Field" "heights" "[I", Cond.methodLink RX1 58 Lib.Math.max.name]
def wsX4_power_r2 : List Cond := [Cond.static Lib.Math.max.name, Cond.initialized "java/lang/Math", Cond.code Lib.Math.max.name Lib.Math.max.code 2 (some .int), Cond.fieldLink RX1 21 "MirrorTower$Field" "blockers" "[I", Cond.methodLink RX1 50 yX1_isStowed, Cond.instanceMethod yX1_isStowed, Cond.selects RX1 yX1_isStowed yX1_isStowed, Cond.code yX1_isStowed cX1_isStowed 2 (some .boolean), Cond.fieldLink RX1 36 "MirrorTower$Field" "winds" "[I", Cond.methodLink RX1 54 yX1_soilOf, Cond.instanceMethod yX1_soilOf, Cond.selects RX1 yX1_soilOf yX1_soilOf, Cond.code yX1_soilOf cX1_soilOf 3 (some .int), Cond.fieldLink RX1 24 "MirrorTower$Field" "soils" "[I", Cond.fieldLink RX1 39 "MirrorTower$Field" "dustAnHour" "I", Cond.methodLink RX1 66 Lib.Math.min.name, Cond.static Lib.Math.min.name, Cond.code Lib.Math.min.name Lib.Math.min.code 2 (some .int), Cond.methodLink RX1 63 yX1_shadersOf, Cond.instanceMethod yX1_shadersOf, Cond.selects RX1 yX1_shadersOf yX1_shadersOf, Cond.code yX1_shadersOf cX1_shadersOf 7 (some .int), Cond.fieldLink RX1 15 "MirrorTower$Field" "xs" "[I", Cond.fieldLink RX1 18 "MirrorTower$Field" "ys" "[I"]
def wsX4_power_r3 : List Cond := [Cond.fieldLink RX1 27 "MirrorTower$Field" "stepsX" "[I", Cond.fieldLink RX1 30 "MirrorTower$Field" "stepsY" "[I", Cond.fieldLink RX1 9 "MirrorTower$Field" "taken" "[I"]
def wsX4_power : List Cond := .code yX4_power cX4_power 3 (some .int) :: ((wsX4_power_r1 ++ (wsX4_power_r2 ++ wsX4_power_r3)) ++ wsX40 ++ wsX10)
def wsX4_stowed : List Cond := .code yX4_stowed cX4_stowed 2 (some .int) :: ([.fieldLink RX4 10 "MirrorTower" "field" "LMirrorTower$Field;", .methodLink RX4 68 yX4_isHour, .static yX4_isHour, .initialized RX4, .code yX4_isHour cX4_isHour 1 (some .boolean), .methodLink RX4 45 yX4_isWithin, .static yX4_isWithin, .code yX4_isWithin cX4_isWithin 3 (some .boolean), .methodLink RX4 113 yX1_isStowed, .instanceMethod yX1_isStowed, .selects RX1 yX1_isStowed yX1_isStowed, .initialized RX1, .code yX1_isStowed cX1_isStowed 2 (some .boolean), .fieldLink RX1 36 "MirrorTower$Field" "winds" "[I"] ++ wsX40 ++ wsX10)
def wsX4_soil_r1 : List Cond := [Cond.fieldLink RX4 10 "MirrorTower" "field" "LMirrorTower$Field;", Cond.methodLink RX4 100 yX4_isMirror, Cond.instanceMethod yX4_isMirror, Cond.selects RX4 yX4_isMirror yX4_isMirror, Cond.initialized RX4, Cond.code yX4_isMirror cX4_isMirror 2 (some .boolean), Cond.methodLink RX4 57 yX1_size, Cond.instanceMethod yX1_size, Cond.selects RX1 yX1_size yX1_size, Cond.initialized RX1, Cond.code yX1_size cX1_size 1 (some .int), Cond.fieldLink RX1 43 "MirrorTower$Field" "size" "I", Cond.methodLink RX4 45 yX4_isWithin, Cond.static yX4_isWithin, Cond.code yX4_isWithin cX4_isWithin 3 (some .boolean), Cond.methodLink RX4 116 yX1_soilOf, Cond.instanceMethod yX1_soilOf, Cond.selects RX1 yX1_soilOf yX1_soilOf, Cond.code yX1_soilOf cX1_soilOf 3 (some .int), Cond.fieldLink RX1 24 "MirrorTower$Field" "soils" "[I", Cond.fieldLink RX1 39 "MirrorTower$Field" "dustAnHour" "I", Cond.methodLink RX1 66 Lib.Math.min.name, Cond.static Lib.Math.min.name, Cond.initialized "java/lang/Math"]
def wsX4_soil_r2 : List Cond := [Cond.code Lib.Math.min.name Lib.Math.min.code 2 (some .int)]
def wsX4_soil : List Cond := .code yX4_soil cX4_soil 2 (some .int) :: ((wsX4_soil_r1 ++ wsX4_soil_r2) ++ wsX40 ++ wsX10)
def wsX4_wash_r1 : List Cond := [Cond.fieldLink RX4 10 "MirrorTower" "field" "LMirrorTower$Field;", Cond.methodLink RX4 45 yX4_isWithin, Cond.static yX4_isWithin, Cond.initialized RX4, Cond.code yX4_isWithin cX4_isWithin 3 (some .boolean), Cond.methodLink RX4 49 yX4_refused, Cond.instanceMethod yX4_refused, Cond.selects RX4 yX4_refused yX4_refused, Cond.code yX4_refused cX4_refused 2 (some .int), Cond.fieldLink RX4 41 "MirrorTower" "trouble" "I", Cond.methodLink RX4 119 yX1_washMost, Cond.instanceMethod yX1_washMost, Cond.selects RX1 yX1_washMost yX1_washMost, Cond.initialized RX1, Cond.code yX1_washMost cX1_washMost 5 (some .int), Cond.fieldLink RX1 43 "MirrorTower$Field" "size" "I", Cond.methodLink RX1 66 Lib.Math.min.name, Cond.static Lib.Math.min.name, Cond.initialized "java/lang/Math", Cond.code Lib.Math.min.name Lib.Math.min.code 2 (some .int), Cond.fieldLink RX1 24 "MirrorTower$Field" "soils" "[I", Cond.methodLink RX1 69 yX1_mostSoiled, Cond.instanceMethod yX1_mostSoiled, Cond.selects RX1 yX1_mostSoiled yX1_mostSoiled]
def wsX4_wash_r2 : List Cond := [Cond.code yX1_mostSoiled cX1_mostSoiled 3 (some .int), Cond.methodLink RX4 65 yX4_granted, Cond.instanceMethod yX4_granted, Cond.selects RX4 yX4_granted yX4_granted, Cond.code yX4_granted cX4_granted 2 (some .int)]
def wsX4_wash : List Cond := .code yX4_wash cX4_wash 2 (some .int) :: ((wsX4_wash_r1 ++ wsX4_wash_r2) ++ wsX40 ++ wsX10)
def wsX4_aim_r1 : List Cond := [Cond.fieldLink RX4 21 "MirrorTower" "cells" "LMirrorTower$Face;", Cond.methodLink RX4 68 yX4_isHour, Cond.static yX4_isHour, Cond.initialized RX4, Cond.code yX4_isHour cX4_isHour 1 (some .boolean), Cond.methodLink RX4 45 yX4_isWithin, Cond.static yX4_isWithin, Cond.code yX4_isWithin cX4_isWithin 3 (some .boolean), Cond.methodLink RX4 49 yX4_refused, Cond.instanceMethod yX4_refused, Cond.selects RX4 yX4_refused yX4_refused, Cond.code yX4_refused cX4_refused 2 (some .int), Cond.fieldLink RX4 41 "MirrorTower" "trouble" "I", Cond.methodLink RX4 122 yX0_keepAims, Cond.instanceMethod yX0_keepAims, Cond.selects RX0 yX0_keepAims yX0_keepAims, Cond.initialized RX0, Cond.code yX0_keepAims cX0_keepAims 4 (some .int), Cond.fieldLink RX0 11 "MirrorTower$Face" "field" "LMirrorTower$Field;", Cond.fieldLink RX0 60 "MirrorTower$Face" "keptSize" "I", Cond.fieldLink RX0 31 "MirrorTower$Face" "cellOf" "[I", Cond.fieldLink RX0 37 "MirrorTower$Face" "keptCells" "[I", Cond.methodLink RX0 64 arraycopyName, Cond.native arraycopyName]
def wsX4_aim_r2 : List Cond := [Cond.static arraycopyName, Cond.initialized "java/lang/System", Cond.fieldLink RX0 40 "MirrorTower$Face" "keptPowers" "[I", Cond.fieldLink RX0 15 "MirrorTower$Face" "limits" "[I", Cond.fieldLink RX0 34 "MirrorTower$Face" "left" "[I", Cond.methodLink RX0 50 yX0_aimAll, Cond.instanceMethod yX0_aimAll, Cond.selects RX0 yX0_aimAll yX0_aimAll, Cond.code yX0_aimAll cX0_aimAll 7 (some .int), Cond.fieldLink RX0 25 "MirrorTower$Face" "order" "[I", Cond.fieldLink RX0 28 "MirrorTower$Face" "powers" "[I", Cond.methodLink RX0 70 yX0_readPowers, Cond.instanceMethod yX0_readPowers, Cond.selects RX0 yX0_readPowers yX0_readPowers, Cond.code yX0_readPowers cX0_readPowers 4 none, Cond.methodLink RX0 54 yX1_size, Cond.instanceMethod yX1_size, Cond.selects RX1 yX1_size yX1_size, Cond.initialized RX1, Cond.code yX1_size cX1_size 1 (some .int), Cond.fieldLink RX1 43 "MirrorTower$Field" "size" "I", Cond.methodLink RX0 80 yX1_powerOf, Cond.instanceMethod yX1_powerOf, Cond.selects RX1 yX1_powerOf yX1_powerOf]
def wsX4_aim_r3 : List Cond := [Cond.code yX1_powerOf cX1_powerOf 6 (some .int), Cond.fieldLink RX1 33 "MirrorTower$Field" "heights" "[I", Cond.methodLink RX1 58 Lib.Math.max.name, Cond.static Lib.Math.max.name, Cond.initialized "java/lang/Math", Cond.code Lib.Math.max.name Lib.Math.max.code 2 (some .int), Cond.fieldLink RX1 21 "MirrorTower$Field" "blockers" "[I", Cond.methodLink RX1 50 yX1_isStowed, Cond.instanceMethod yX1_isStowed, Cond.selects RX1 yX1_isStowed yX1_isStowed, Cond.code yX1_isStowed cX1_isStowed 2 (some .boolean), Cond.fieldLink RX1 36 "MirrorTower$Field" "winds" "[I", Cond.methodLink RX1 54 yX1_soilOf, Cond.instanceMethod yX1_soilOf, Cond.selects RX1 yX1_soilOf yX1_soilOf, Cond.code yX1_soilOf cX1_soilOf 3 (some .int), Cond.fieldLink RX1 24 "MirrorTower$Field" "soils" "[I", Cond.fieldLink RX1 39 "MirrorTower$Field" "dustAnHour" "I", Cond.methodLink RX1 66 Lib.Math.min.name, Cond.static Lib.Math.min.name, Cond.code Lib.Math.min.name Lib.Math.min.code 2 (some .int), Cond.methodLink RX1 63 yX1_shadersOf, Cond.instanceMethod yX1_shadersOf, Cond.selects RX1 yX1_shadersOf yX1_shadersOf]
def wsX4_aim_r4 : List Cond := [Cond.code yX1_shadersOf cX1_shadersOf 7 (some .int), Cond.fieldLink RX1 15 "MirrorTower$Field" "xs" "[I", Cond.fieldLink RX1 18 "MirrorTower$Field" "ys" "[I", Cond.fieldLink RX1 27 "MirrorTower$Field" "stepsX" "[I", Cond.fieldLink RX1 30 "MirrorTower$Field" "stepsY" "[I", Cond.fieldLink RX1 9 "MirrorTower$Field" "taken" "[I", Cond.methodLink RX0 74 yX0_rank, Cond.instanceMethod yX0_rank, Cond.selects RX0 yX0_rank yX0_rank, Cond.code yX0_rank cX0_rank 3 none, Cond.methodLink RX0 77 yX0_roomiestCell, Cond.instanceMethod yX0_roomiestCell, Cond.selects RX0 yX0_roomiestCell yX0_roomiestCell, Cond.code yX0_roomiestCell cX0_roomiestCell 3 (some .int), Cond.methodLink RX4 65 yX4_granted, Cond.instanceMethod yX4_granted, Cond.selects RX4 yX4_granted yX4_granted, Cond.code yX4_granted cX4_granted 2 (some .int)]
def wsX4_aim : List Cond := .code yX4_aim cX4_aim 2 (some .int) :: ((wsX4_aim_r1 ++ (wsX4_aim_r2 ++ (wsX4_aim_r3 ++ wsX4_aim_r4))) ++ wsX40 ++ wsX00 ++ wsX10)
def wsX4_aimed : List Cond := .code yX4_aimed cX4_aimed 2 (some .int) :: ([.fieldLink RX4 21 "MirrorTower" "cells" "LMirrorTower$Face;", .methodLink RX4 100 yX4_isMirror, .instanceMethod yX4_isMirror, .selects RX4 yX4_isMirror yX4_isMirror, .initialized RX4, .code yX4_isMirror cX4_isMirror 2 (some .boolean), .fieldLink RX4 10 "MirrorTower" "field" "LMirrorTower$Field;", .methodLink RX4 57 yX1_size, .instanceMethod yX1_size, .selects RX1 yX1_size yX1_size, .initialized RX1, .code yX1_size cX1_size 1 (some .int), .fieldLink RX1 43 "MirrorTower$Field" "size" "I", .methodLink RX4 45 yX4_isWithin, .static yX4_isWithin, .code yX4_isWithin cX4_isWithin 3 (some .boolean), .methodLink RX4 125 yX0_keptCellOf, .instanceMethod yX0_keptCellOf, .selects RX0 yX0_keptCellOf yX0_keptCellOf, .initialized RX0, .code yX0_keptCellOf cX0_keptCellOf 2 (some .int), .fieldLink RX0 60 "MirrorTower$Face" "keptSize" "I", .fieldLink RX0 37 "MirrorTower$Face" "keptCells" "[I"] ++ wsX40 ++ wsX10 ++ wsX00)
def wsX4_face : List Cond := .code yX4_face cX4_face 2 (some .int) :: ([.fieldLink RX4 21 "MirrorTower" "cells" "LMirrorTower$Face;", .methodLink RX4 83 yX4_isCell, .static yX4_isCell, .initialized RX4, .code yX4_isCell cX4_isCell 1 (some .boolean), .methodLink RX4 45 yX4_isWithin, .static yX4_isWithin, .code yX4_isWithin cX4_isWithin 3 (some .boolean), .methodLink RX4 128 yX0_keptPowerAt, .instanceMethod yX0_keptPowerAt, .selects RX0 yX0_keptPowerAt yX0_keptPowerAt, .initialized RX0, .code yX0_keptPowerAt cX0_keptPowerAt 2 (some .int), .fieldLink RX0 40 "MirrorTower$Face" "keptPowers" "[I"] ++ wsX40 ++ wsX00)
def wsX4_best_r1 : List Cond := [Cond.fieldLink RX4 21 "MirrorTower" "cells" "LMirrorTower$Face;", Cond.methodLink RX4 68 yX4_isHour, Cond.static yX4_isHour, Cond.initialized RX4, Cond.code yX4_isHour cX4_isHour 1 (some .boolean), Cond.methodLink RX4 45 yX4_isWithin, Cond.static yX4_isWithin, Cond.code yX4_isWithin cX4_isWithin 3 (some .boolean), Cond.methodLink RX4 49 yX4_refused, Cond.instanceMethod yX4_refused, Cond.selects RX4 yX4_refused yX4_refused, Cond.code yX4_refused cX4_refused 2 (some .int), Cond.fieldLink RX4 41 "MirrorTower" "trouble" "I", Cond.methodLink RX4 131 yX0_bestHeat, Cond.instanceMethod yX0_bestHeat, Cond.selects RX0 yX0_bestHeat yX0_bestHeat, Cond.initialized RX0, Cond.code yX0_bestHeat cX0_bestHeat 6 (some .int), Cond.fieldLink RX0 11 "MirrorTower$Face" "field" "LMirrorTower$Field;", Cond.methodLink RX0 84 Lib.Math.min.name, Cond.static Lib.Math.min.name, Cond.initialized "java/lang/Math", Cond.code Lib.Math.min.name Lib.Math.min.code 2 (some .int), Cond.fieldLink RX0 46 "MirrorTower$Face" "fits" "[Z"]
def wsX4_best_r2 : List Cond := [Cond.fieldLink RX0 15 "MirrorTower$Face" "limits" "[I", Cond.fieldLink RX0 43 "MirrorTower$Face" "setPowers" "[I", Cond.methodLink RX0 96 Lib.Math.max.name, Cond.static Lib.Math.max.name, Cond.code Lib.Math.max.name Lib.Math.max.code 2 (some .int), Cond.methodLink RX0 70 yX0_readPowers, Cond.instanceMethod yX0_readPowers, Cond.selects RX0 yX0_readPowers yX0_readPowers, Cond.code yX0_readPowers cX0_readPowers 4 none, Cond.fieldLink RX0 28 "MirrorTower$Face" "powers" "[I", Cond.methodLink RX0 54 yX1_size, Cond.instanceMethod yX1_size, Cond.selects RX1 yX1_size yX1_size, Cond.initialized RX1, Cond.code yX1_size cX1_size 1 (some .int), Cond.fieldLink RX1 43 "MirrorTower$Field" "size" "I", Cond.methodLink RX0 80 yX1_powerOf, Cond.instanceMethod yX1_powerOf, Cond.selects RX1 yX1_powerOf yX1_powerOf, Cond.code yX1_powerOf cX1_powerOf 6 (some .int), Cond.fieldLink RX1 33 "MirrorTower$Field" "heights" "[I", Cond.methodLink RX1 58 Lib.Math.max.name, Cond.fieldLink RX1 21 "MirrorTower$Field" "blockers" "[I", Cond.methodLink RX1 50 yX1_isStowed]
def wsX4_best_r3 : List Cond := [Cond.instanceMethod yX1_isStowed, Cond.selects RX1 yX1_isStowed yX1_isStowed, Cond.code yX1_isStowed cX1_isStowed 2 (some .boolean), Cond.fieldLink RX1 36 "MirrorTower$Field" "winds" "[I", Cond.methodLink RX1 54 yX1_soilOf, Cond.instanceMethod yX1_soilOf, Cond.selects RX1 yX1_soilOf yX1_soilOf, Cond.code yX1_soilOf cX1_soilOf 3 (some .int), Cond.fieldLink RX1 24 "MirrorTower$Field" "soils" "[I", Cond.fieldLink RX1 39 "MirrorTower$Field" "dustAnHour" "I", Cond.methodLink RX1 66 Lib.Math.min.name, Cond.methodLink RX1 63 yX1_shadersOf, Cond.instanceMethod yX1_shadersOf, Cond.selects RX1 yX1_shadersOf yX1_shadersOf, Cond.code yX1_shadersOf cX1_shadersOf 7 (some .int), Cond.fieldLink RX1 15 "MirrorTower$Field" "xs" "[I", Cond.fieldLink RX1 18 "MirrorTower$Field" "ys" "[I", Cond.fieldLink RX1 27 "MirrorTower$Field" "stepsX" "[I", Cond.fieldLink RX1 30 "MirrorTower$Field" "stepsY" "[I", Cond.fieldLink RX1 9 "MirrorTower$Field" "taken" "[I", Cond.methodLink RX0 74 yX0_rank, Cond.instanceMethod yX0_rank, Cond.selects RX0 yX0_rank yX0_rank, Cond.code yX0_rank cX0_rank 3 none]
def wsX4_best_r4 : List Cond := [Cond.fieldLink RX0 25 "MirrorTower$Face" "order" "[I", Cond.methodLink RX0 89 yX0_addUpSets, Cond.instanceMethod yX0_addUpSets, Cond.selects RX0 yX0_addUpSets yX0_addUpSets, Cond.code yX0_addUpSets cX0_addUpSets 5 none, Cond.methodLink RX0 93 yX0_widen, Cond.instanceMethod yX0_widen, Cond.selects RX0 yX0_widen yX0_widen, Cond.code yX0_widen cX0_widen 5 none, Cond.methodLink RX4 65 yX4_granted, Cond.instanceMethod yX4_granted, Cond.selects RX4 yX4_granted yX4_granted, Cond.code yX4_granted cX4_granted 2 (some .int)]
def wsX4_best : List Cond := .code yX4_best cX4_best 2 (some .int) :: ((wsX4_best_r1 ++ (wsX4_best_r2 ++ (wsX4_best_r3 ++ wsX4_best_r4))) ++ wsX40 ++ wsX00 ++ wsX10)
def wsX4_comes_r1 : List Cond := [Cond.fieldLink RX4 30 "MirrorTower" "store" "LMirrorTower$Store;", Cond.fieldLink RX4 21 "MirrorTower" "cells" "LMirrorTower$Face;", Cond.methodLink RX4 134 yX3_hourNow, Cond.instanceMethod yX3_hourNow, Cond.selects RX3 yX3_hourNow yX3_hourNow, Cond.initialized RX3, Cond.code yX3_hourNow cX3_hourNow 1 (some .int), Cond.fieldLink RX3 48 "MirrorTower$Store" "now" "I", Cond.methodLink RX4 45 yX4_isWithin, Cond.static yX4_isWithin, Cond.initialized RX4, Cond.code yX4_isWithin cX4_isWithin 3 (some .boolean), Cond.methodLink RX4 137 yX0_aimAll, Cond.instanceMethod yX0_aimAll, Cond.selects RX0 yX0_aimAll yX0_aimAll, Cond.initialized RX0, Cond.code yX0_aimAll cX0_aimAll 7 (some .int), Cond.fieldLink RX0 15 "MirrorTower$Face" "limits" "[I", Cond.fieldLink RX0 34 "MirrorTower$Face" "left" "[I", Cond.methodLink RX0 64 arraycopyName, Cond.native arraycopyName, Cond.static arraycopyName, Cond.initialized "java/lang/System", Cond.fieldLink RX0 11 "MirrorTower$Face" "field" "LMirrorTower$Field;"]
def wsX4_comes_r2 : List Cond := [Cond.fieldLink RX0 25 "MirrorTower$Face" "order" "[I", Cond.fieldLink RX0 28 "MirrorTower$Face" "powers" "[I", Cond.fieldLink RX0 31 "MirrorTower$Face" "cellOf" "[I", Cond.methodLink RX0 70 yX0_readPowers, Cond.instanceMethod yX0_readPowers, Cond.selects RX0 yX0_readPowers yX0_readPowers, Cond.code yX0_readPowers cX0_readPowers 4 none, Cond.methodLink RX0 54 yX1_size, Cond.instanceMethod yX1_size, Cond.selects RX1 yX1_size yX1_size, Cond.initialized RX1, Cond.code yX1_size cX1_size 1 (some .int), Cond.fieldLink RX1 43 "MirrorTower$Field" "size" "I", Cond.methodLink RX0 80 yX1_powerOf, Cond.instanceMethod yX1_powerOf, Cond.selects RX1 yX1_powerOf yX1_powerOf, Cond.code yX1_powerOf cX1_powerOf 6 (some .int), Cond.fieldLink RX1 33 "MirrorTower$Field" "heights" "[I", Cond.methodLink RX1 58 Lib.Math.max.name, Cond.static Lib.Math.max.name, Cond.initialized "java/lang/Math", Cond.code Lib.Math.max.name Lib.Math.max.code 2 (some .int), Cond.fieldLink RX1 21 "MirrorTower$Field" "blockers" "[I", Cond.methodLink RX1 50 yX1_isStowed]
def wsX4_comes_r3 : List Cond := [Cond.instanceMethod yX1_isStowed, Cond.selects RX1 yX1_isStowed yX1_isStowed, Cond.code yX1_isStowed cX1_isStowed 2 (some .boolean), Cond.fieldLink RX1 36 "MirrorTower$Field" "winds" "[I", Cond.methodLink RX1 54 yX1_soilOf, Cond.instanceMethod yX1_soilOf, Cond.selects RX1 yX1_soilOf yX1_soilOf, Cond.code yX1_soilOf cX1_soilOf 3 (some .int), Cond.fieldLink RX1 24 "MirrorTower$Field" "soils" "[I", Cond.fieldLink RX1 39 "MirrorTower$Field" "dustAnHour" "I", Cond.methodLink RX1 66 Lib.Math.min.name, Cond.static Lib.Math.min.name, Cond.code Lib.Math.min.name Lib.Math.min.code 2 (some .int), Cond.methodLink RX1 63 yX1_shadersOf, Cond.instanceMethod yX1_shadersOf, Cond.selects RX1 yX1_shadersOf yX1_shadersOf, Cond.code yX1_shadersOf cX1_shadersOf 7 (some .int), Cond.fieldLink RX1 15 "MirrorTower$Field" "xs" "[I", Cond.fieldLink RX1 18 "MirrorTower$Field" "ys" "[I", Cond.fieldLink RX1 27 "MirrorTower$Field" "stepsX" "[I", Cond.fieldLink RX1 30 "MirrorTower$Field" "stepsY" "[I", Cond.fieldLink RX1 9 "MirrorTower$Field" "taken" "[I", Cond.methodLink RX0 74 yX0_rank, Cond.instanceMethod yX0_rank]
def wsX4_comes_r4 : List Cond := [Cond.selects RX0 yX0_rank yX0_rank, Cond.code yX0_rank cX0_rank 3 none, Cond.methodLink RX0 77 yX0_roomiestCell, Cond.instanceMethod yX0_roomiestCell, Cond.selects RX0 yX0_roomiestCell yX0_roomiestCell, Cond.code yX0_roomiestCell cX0_roomiestCell 3 (some .int)]
def wsX4_comes : List Cond := .code yX4_comes cX4_comes 3 (some .int) :: ((wsX4_comes_r1 ++ (wsX4_comes_r2 ++ (wsX4_comes_r3 ++ wsX4_comes_r4))) ++ wsX40 ++ wsX30 ++ wsX00 ++ wsX10)
def wsX4_plan_r1 : List Cond := [Cond.fieldLink RX4 30 "MirrorTower" "store" "LMirrorTower$Store;", Cond.methodLink RX4 140 yX3_layPlan, Cond.instanceMethod yX3_layPlan, Cond.selects RX3 yX3_layPlan yX3_layPlan, Cond.initialized RX3, Cond.code yX3_layPlan cX3_layPlan 3 (some .int), Cond.fieldLink RX3 29 "MirrorTower$Store" "gains" "[I", Cond.fieldLink RX3 35 "MirrorTower$Store" "choices" "[I", Cond.fieldLink RX3 48 "MirrorTower$Store" "now" "I", Cond.fieldLink RX3 32 "MirrorTower$Store" "laterGains" "[I", Cond.fieldLink RX3 51 "MirrorTower$Store" "units" "I", Cond.fieldLink RX3 54 "MirrorTower$Store" "warm" "Z", Cond.methodLink RX3 91 yX3_lookAhead, Cond.instanceMethod yX3_lookAhead, Cond.selects RX3 yX3_lookAhead yX3_lookAhead, Cond.code yX3_lookAhead cX3_lookAhead 3 none, Cond.fieldLink RX3 41 "MirrorTower$Store" "mostHeld" "[I", Cond.fieldLink RX3 38 "MirrorTower$Store" "unitsIn" "[I", Cond.fieldLink RX3 15 "MirrorTower$Store" "cells" "LMirrorTower$Face;", Cond.methodLink RX3 61 yX0_aimAll, Cond.instanceMethod yX0_aimAll, Cond.selects RX0 yX0_aimAll yX0_aimAll, Cond.initialized RX0, Cond.code yX0_aimAll cX0_aimAll 7 (some .int)]
def wsX4_plan_r2 : List Cond := [Cond.fieldLink RX0 15 "MirrorTower$Face" "limits" "[I", Cond.fieldLink RX0 34 "MirrorTower$Face" "left" "[I", Cond.methodLink RX0 64 arraycopyName, Cond.native arraycopyName, Cond.static arraycopyName, Cond.initialized "java/lang/System", Cond.fieldLink RX0 11 "MirrorTower$Face" "field" "LMirrorTower$Field;", Cond.fieldLink RX0 25 "MirrorTower$Face" "order" "[I", Cond.fieldLink RX0 28 "MirrorTower$Face" "powers" "[I", Cond.fieldLink RX0 31 "MirrorTower$Face" "cellOf" "[I", Cond.methodLink RX0 70 yX0_readPowers, Cond.instanceMethod yX0_readPowers, Cond.selects RX0 yX0_readPowers yX0_readPowers, Cond.code yX0_readPowers cX0_readPowers 4 none, Cond.methodLink RX0 54 yX1_size, Cond.instanceMethod yX1_size, Cond.selects RX1 yX1_size yX1_size, Cond.initialized RX1, Cond.code yX1_size cX1_size 1 (some .int), Cond.fieldLink RX1 43 "MirrorTower$Field" "size" "I", Cond.methodLink RX0 80 yX1_powerOf, Cond.instanceMethod yX1_powerOf, Cond.selects RX1 yX1_powerOf yX1_powerOf, Cond.code yX1_powerOf cX1_powerOf 6 (some .int)]
def wsX4_plan_r3 : List Cond := [Cond.fieldLink RX1 33 "MirrorTower$Field" "heights" "[I", Cond.methodLink RX1 58 Lib.Math.max.name, Cond.static Lib.Math.max.name, Cond.initialized "java/lang/Math", Cond.code Lib.Math.max.name Lib.Math.max.code 2 (some .int), Cond.fieldLink RX1 21 "MirrorTower$Field" "blockers" "[I", Cond.methodLink RX1 50 yX1_isStowed, Cond.instanceMethod yX1_isStowed, Cond.selects RX1 yX1_isStowed yX1_isStowed, Cond.code yX1_isStowed cX1_isStowed 2 (some .boolean), Cond.fieldLink RX1 36 "MirrorTower$Field" "winds" "[I", Cond.methodLink RX1 54 yX1_soilOf, Cond.instanceMethod yX1_soilOf, Cond.selects RX1 yX1_soilOf yX1_soilOf, Cond.code yX1_soilOf cX1_soilOf 3 (some .int), Cond.fieldLink RX1 24 "MirrorTower$Field" "soils" "[I", Cond.fieldLink RX1 39 "MirrorTower$Field" "dustAnHour" "I", Cond.methodLink RX1 66 Lib.Math.min.name, Cond.static Lib.Math.min.name, Cond.code Lib.Math.min.name Lib.Math.min.code 2 (some .int), Cond.methodLink RX1 63 yX1_shadersOf, Cond.instanceMethod yX1_shadersOf, Cond.selects RX1 yX1_shadersOf yX1_shadersOf, Cond.code yX1_shadersOf cX1_shadersOf 7 (some .int)]
def wsX4_plan_r4 : List Cond := [Cond.fieldLink RX1 15 "MirrorTower$Field" "xs" "[I", Cond.fieldLink RX1 18 "MirrorTower$Field" "ys" "[I", Cond.fieldLink RX1 27 "MirrorTower$Field" "stepsX" "[I", Cond.fieldLink RX1 30 "MirrorTower$Field" "stepsY" "[I", Cond.fieldLink RX1 9 "MirrorTower$Field" "taken" "[I", Cond.methodLink RX0 74 yX0_rank, Cond.instanceMethod yX0_rank, Cond.selects RX0 yX0_rank yX0_rank, Cond.code yX0_rank cX0_rank 3 none, Cond.methodLink RX0 77 yX0_roomiestCell, Cond.instanceMethod yX0_roomiestCell, Cond.selects RX0 yX0_roomiestCell yX0_roomiestCell, Cond.code yX0_roomiestCell cX0_roomiestCell 3 (some .int), Cond.methodLink RX3 67 yX3_filled, Cond.static yX3_filled, Cond.code yX3_filled cX3_filled 2 (some .int), Cond.methodLink RX3 83 Lib.Math.min.name, Cond.methodLink RX3 23 yJ7_fill_53178, Cond.static yJ7_fill_53178, Cond.initialized RJ7, Cond.code yJ7_fill_53178 cJ7_fill_53178 4 none, Cond.methodLink RX3 94 yX3_weighHour, Cond.instanceMethod yX3_weighHour, Cond.selects RX3 yX3_weighHour yX3_weighHour]
def wsX4_plan_r5 : List Cond := [Cond.code yX3_weighHour cX3_weighHour 3 none, Cond.methodLink RX3 105 yX3_weigh, Cond.instanceMethod yX3_weigh, Cond.selects RX3 yX3_weigh yX3_weigh, Cond.code yX3_weigh cX3_weigh 8 none, Cond.methodLink RX3 101 yX3_stateOf, Cond.static yX3_stateOf, Cond.code yX3_stateOf cX3_stateOf 2 (some .int), Cond.methodLink RX3 70 yX3_needed, Cond.static yX3_needed, Cond.code yX3_needed cX3_needed 1 (some .int), Cond.methodLink RX3 74 yX3_gainOf, Cond.instanceMethod yX3_gainOf, Cond.selects RX3 yX3_gainOf yX3_gainOf, Cond.code yX3_gainOf cX3_gainOf 2 (some .int), Cond.fieldLink RX3 19 "MirrorTower$Store" "prices" "[I", Cond.methodLink RX3 98 yX3_followChoices, Cond.instanceMethod yX3_followChoices, Cond.selects RX3 yX3_followChoices yX3_followChoices, Cond.code yX3_followChoices cX3_followChoices 5 none, Cond.fieldLink RX3 88 "MirrorTower$Store" "planned" "I", Cond.fieldLink RX3 44 "MirrorTower$Store" "plannedFrom" "I"]
def wsX4_plan : List Cond := .code yX4_plan cX4_plan 1 (some .int) :: ((wsX4_plan_r1 ++ (wsX4_plan_r2 ++ (wsX4_plan_r3 ++ (wsX4_plan_r4 ++ wsX4_plan_r5)))) ++ wsX40 ++ wsX30 ++ wsX00 ++ wsX10)
def wsX4_runs : List Cond := .code yX4_runs cX4_runs 2 (some .int) :: ([.fieldLink RX4 30 "MirrorTower" "store" "LMirrorTower$Store;", .methodLink RX4 68 yX4_isHour, .static yX4_isHour, .initialized RX4, .code yX4_isHour cX4_isHour 1 (some .boolean), .methodLink RX4 45 yX4_isWithin, .static yX4_isWithin, .code yX4_isWithin cX4_isWithin 3 (some .boolean), .methodLink RX4 143 yX3_plannedRun, .instanceMethod yX3_plannedRun, .selects RX3 yX3_plannedRun yX3_plannedRun, .initialized RX3, .code yX3_plannedRun cX3_plannedRun 2 (some .int), .fieldLink RX3 44 "MirrorTower$Store" "plannedFrom" "I", .fieldLink RX3 88 "MirrorTower$Store" "planned" "I"] ++ wsX40 ++ wsX30)
def wsX4_step_r1 : List Cond := [Cond.fieldLink RX4 30 "MirrorTower" "store" "LMirrorTower$Store;", Cond.methodLink RX4 146 yX3_passHour, Cond.instanceMethod yX3_passHour, Cond.selects RX3 yX3_passHour yX3_passHour, Cond.initialized RX3, Cond.code yX3_passHour cX3_passHour 5 (some .int), Cond.fieldLink RX3 51 "MirrorTower$Store" "units" "I", Cond.fieldLink RX3 15 "MirrorTower$Store" "cells" "LMirrorTower$Face;", Cond.fieldLink RX3 48 "MirrorTower$Store" "now" "I", Cond.fieldLink RX3 54 "MirrorTower$Store" "warm" "Z", Cond.fieldLink RX3 58 "MirrorTower$Store" "earnings" "I", Cond.fieldLink RX3 9 "MirrorTower$Store" "field" "LMirrorTower$Field;", Cond.methodLink RX3 61 yX0_aimAll, Cond.instanceMethod yX0_aimAll, Cond.selects RX0 yX0_aimAll yX0_aimAll, Cond.initialized RX0, Cond.code yX0_aimAll cX0_aimAll 7 (some .int), Cond.fieldLink RX0 15 "MirrorTower$Face" "limits" "[I", Cond.fieldLink RX0 34 "MirrorTower$Face" "left" "[I", Cond.methodLink RX0 64 arraycopyName, Cond.native arraycopyName, Cond.static arraycopyName, Cond.initialized "java/lang/System", Cond.fieldLink RX0 11 "MirrorTower$Face" "field" "LMirrorTower$Field;"]
def wsX4_step_r2 : List Cond := [Cond.fieldLink RX0 25 "MirrorTower$Face" "order" "[I", Cond.fieldLink RX0 28 "MirrorTower$Face" "powers" "[I", Cond.fieldLink RX0 31 "MirrorTower$Face" "cellOf" "[I", Cond.methodLink RX0 70 yX0_readPowers, Cond.instanceMethod yX0_readPowers, Cond.selects RX0 yX0_readPowers yX0_readPowers, Cond.code yX0_readPowers cX0_readPowers 4 none, Cond.methodLink RX0 54 yX1_size, Cond.instanceMethod yX1_size, Cond.selects RX1 yX1_size yX1_size, Cond.initialized RX1, Cond.code yX1_size cX1_size 1 (some .int), Cond.fieldLink RX1 43 "MirrorTower$Field" "size" "I", Cond.methodLink RX0 80 yX1_powerOf, Cond.instanceMethod yX1_powerOf, Cond.selects RX1 yX1_powerOf yX1_powerOf, Cond.code yX1_powerOf cX1_powerOf 6 (some .int), Cond.fieldLink RX1 33 "MirrorTower$Field" "heights" "[I", Cond.methodLink RX1 58 Lib.Math.max.name, Cond.static Lib.Math.max.name, Cond.initialized "java/lang/Math", Cond.code Lib.Math.max.name Lib.Math.max.code 2 (some .int), Cond.fieldLink RX1 21 "MirrorTower$Field" "blockers" "[I", Cond.methodLink RX1 50 yX1_isStowed]
def wsX4_step_r3 : List Cond := [Cond.instanceMethod yX1_isStowed, Cond.selects RX1 yX1_isStowed yX1_isStowed, Cond.code yX1_isStowed cX1_isStowed 2 (some .boolean), Cond.fieldLink RX1 36 "MirrorTower$Field" "winds" "[I", Cond.methodLink RX1 54 yX1_soilOf, Cond.instanceMethod yX1_soilOf, Cond.selects RX1 yX1_soilOf yX1_soilOf, Cond.code yX1_soilOf cX1_soilOf 3 (some .int), Cond.fieldLink RX1 24 "MirrorTower$Field" "soils" "[I", Cond.fieldLink RX1 39 "MirrorTower$Field" "dustAnHour" "I", Cond.methodLink RX1 66 Lib.Math.min.name, Cond.static Lib.Math.min.name, Cond.code Lib.Math.min.name Lib.Math.min.code 2 (some .int), Cond.methodLink RX1 63 yX1_shadersOf, Cond.instanceMethod yX1_shadersOf, Cond.selects RX1 yX1_shadersOf yX1_shadersOf, Cond.code yX1_shadersOf cX1_shadersOf 7 (some .int), Cond.fieldLink RX1 15 "MirrorTower$Field" "xs" "[I", Cond.fieldLink RX1 18 "MirrorTower$Field" "ys" "[I", Cond.fieldLink RX1 27 "MirrorTower$Field" "stepsX" "[I", Cond.fieldLink RX1 30 "MirrorTower$Field" "stepsY" "[I", Cond.fieldLink RX1 9 "MirrorTower$Field" "taken" "[I", Cond.methodLink RX0 74 yX0_rank, Cond.instanceMethod yX0_rank]
def wsX4_step_r4 : List Cond := [Cond.selects RX0 yX0_rank yX0_rank, Cond.code yX0_rank cX0_rank 3 none, Cond.methodLink RX0 77 yX0_roomiestCell, Cond.instanceMethod yX0_roomiestCell, Cond.selects RX0 yX0_roomiestCell yX0_roomiestCell, Cond.code yX0_roomiestCell cX0_roomiestCell 3 (some .int), Cond.methodLink RX3 67 yX3_filled, Cond.static yX3_filled, Cond.code yX3_filled cX3_filled 2 (some .int), Cond.methodLink RX3 83 Lib.Math.min.name, Cond.methodLink RX3 70 yX3_needed, Cond.static yX3_needed, Cond.code yX3_needed cX3_needed 1 (some .int), Cond.methodLink RX3 74 yX3_gainOf, Cond.instanceMethod yX3_gainOf, Cond.selects RX3 yX3_gainOf yX3_gainOf, Cond.code yX3_gainOf cX3_gainOf 2 (some .int), Cond.fieldLink RX3 19 "MirrorTower$Store" "prices" "[I", Cond.methodLink RX3 78 yX1_growSoil, Cond.instanceMethod yX1_growSoil, Cond.selects RX1 yX1_growSoil yX1_growSoil, Cond.code yX1_growSoil cX1_growSoil 2 none, Cond.methodLink RX4 49 yX4_refused, Cond.instanceMethod yX4_refused]
def wsX4_step_r5 : List Cond := [Cond.selects RX4 yX4_refused yX4_refused, Cond.initialized RX4, Cond.code yX4_refused cX4_refused 2 (some .int), Cond.fieldLink RX4 41 "MirrorTower" "trouble" "I", Cond.methodLink RX4 65 yX4_granted, Cond.instanceMethod yX4_granted, Cond.selects RX4 yX4_granted yX4_granted, Cond.code yX4_granted cX4_granted 2 (some .int)]
def wsX4_step : List Cond := .code yX4_step cX4_step 3 (some .int) :: ((wsX4_step_r1 ++ (wsX4_step_r2 ++ (wsX4_step_r3 ++ (wsX4_step_r4 ++ wsX4_step_r5)))) ++ wsX40 ++ wsX30 ++ wsX00 ++ wsX10)
def wsX4_earned : List Cond := .code yX4_earned cX4_earned 1 (some .int) :: ([.fieldLink RX4 30 "MirrorTower" "store" "LMirrorTower$Store;", .methodLink RX4 150 yX3_earnedInAll, .instanceMethod yX3_earnedInAll, .selects RX3 yX3_earnedInAll yX3_earnedInAll, .initialized RX3, .code yX3_earnedInAll cX3_earnedInAll 1 (some .int), .fieldLink RX3 58 "MirrorTower$Store" "earnings" "I"] ++ wsX40 ++ wsX30)
def wsX4_shot_r1 : List Cond := [Cond.constantLong RX4 153 (4294967295), Cond.methodLink RX4 161 Lib.Math.min.name, Cond.static Lib.Math.min.name, Cond.initialized "java/lang/Math", Cond.code Lib.Math.min.name Lib.Math.min.code 2 (some .int), Cond.fieldLink RX4 10 "MirrorTower" "field" "LMirrorTower$Field;", Cond.fieldLink RX4 37 "MirrorTower" "shots" "LMirrorTower$Shots;", Cond.methodLink RX4 155 yJ13_bitCount_95d88, Cond.static yJ13_bitCount_95d88, Cond.initialized RJ13, Cond.code yJ13_bitCount_95d88 cJ13_bitCount_95d88 2 (some .int), Cond.constantLong RJ13 314 (6148914691236517205), Cond.constantLong RJ13 316 (3689348814741910323), Cond.constantLong RJ13 318 (1085102592571150095), Cond.methodLink RX4 45 yX4_isWithin, Cond.static yX4_isWithin, Cond.initialized RX4, Cond.code yX4_isWithin cX4_isWithin 3 (some .boolean), Cond.methodLink RX4 49 yX4_refused, Cond.instanceMethod yX4_refused, Cond.selects RX4 yX4_refused yX4_refused, Cond.code yX4_refused cX4_refused 2 (some .int), Cond.fieldLink RX4 41 "MirrorTower" "trouble" "I", Cond.methodLink RX4 57 yX1_size]
def wsX4_shot_r2 : List Cond := [Cond.instanceMethod yX1_size, Cond.selects RX1 yX1_size yX1_size, Cond.initialized RX1, Cond.code yX1_size cX1_size 1 (some .int), Cond.fieldLink RX1 43 "MirrorTower$Field" "size" "I", Cond.methodLink RX4 166 yX2_size, Cond.instanceMethod yX2_size, Cond.selects RX2 yX2_size yX2_size, Cond.initialized RX2, Cond.code yX2_size cX2_size 1 (some .int), Cond.fieldLink RX2 18 "MirrorTower$Shots" "size" "I", Cond.methodLink RX4 167 yX2_note, Cond.instanceMethod yX2_note, Cond.selects RX2 yX2_note yX2_note, Cond.code yX2_note cX2_note 6 (some .int), Cond.fieldLink RX2 9 "MirrorTower$Shots" "marks" "[I", Cond.fieldLink RX2 22 "MirrorTower$Shots" "missing" "I", Cond.methodLink RX2 31 Lib.Math.min.name, Cond.methodLink RX2 25 yJ13_bitCount_95d88, Cond.methodLink RX4 65 yX4_granted, Cond.instanceMethod yX4_granted, Cond.selects RX4 yX4_granted yX4_granted, Cond.code yX4_granted cX4_granted 2 (some .int)]
def wsX4_shot : List Cond := .code yX4_shot cX4_shot 6 (some .int) :: ((wsX4_shot_r1 ++ wsX4_shot_r2) ++ wsX40 ++ wsX10 ++ wsX20)
def wsX4_forget : List Cond := .code yX4_forget cX4_forget 1 (some .int) :: ([.fieldLink RX4 37 "MirrorTower" "shots" "LMirrorTower$Shots;", .methodLink RX4 171 yX2_drop, .instanceMethod yX2_drop, .selects RX2 yX2_drop yX2_drop, .initialized RX2, .code yX2_drop cX2_drop 2 (some .int), .fieldLink RX2 18 "MirrorTower$Shots" "size" "I", .fieldLink RX2 9 "MirrorTower$Shots" "marks" "[I", .fieldLink RX2 22 "MirrorTower$Shots" "missing" "I", .methodLink RX2 37 yJ7_fill_53178, .static yJ7_fill_53178, .initialized RJ7, .code yJ7_fill_53178 cJ7_fill_53178 4 none] ++ wsX40 ++ wsX20)
def wsX4_agree_r1 : List Cond := [Cond.fieldLink RX4 37 "MirrorTower" "shots" "LMirrorTower$Shots;", Cond.fieldLink RX4 10 "MirrorTower" "field" "LMirrorTower$Field;", Cond.methodLink RX4 57 yX1_size, Cond.instanceMethod yX1_size, Cond.selects RX1 yX1_size yX1_size, Cond.initialized RX1, Cond.code yX1_size cX1_size 1 (some .int), Cond.fieldLink RX1 43 "MirrorTower$Field" "size" "I", Cond.methodLink RX4 174 yX2_setsOf, Cond.instanceMethod yX2_setsOf, Cond.selects RX2 yX2_setsOf yX2_setsOf, Cond.initialized RX2, Cond.code yX2_setsOf cX2_setsOf 2 (some .int), Cond.fieldLink RX2 47 "MirrorTower$Shots" "sets" "I", Cond.methodLink RX2 43 yX2_tally, Cond.instanceMethod yX2_tally, Cond.selects RX2 yX2_tally yX2_tally, Cond.code yX2_tally cX2_tally 4 none, Cond.fieldLink RX2 15 "MirrorTower$Shots" "setsWith" "[I", Cond.fieldLink RX2 22 "MirrorTower$Shots" "missing" "I", Cond.fieldLink RX2 9 "MirrorTower$Shots" "marks" "[I", Cond.methodLink RX2 37 yJ7_fill_53178, Cond.static yJ7_fill_53178, Cond.initialized RJ7]
def wsX4_agree_r2 : List Cond := [Cond.code yJ7_fill_53178 cJ7_fill_53178 4 none]
def wsX4_agree : List Cond := .code yX4_agree cX4_agree 1 (some .int) :: ((wsX4_agree_r1 ++ wsX4_agree_r2) ++ wsX40 ++ wsX10 ++ wsX20)
def wsX4_stuck_r1 : List Cond := [Cond.fieldLink RX4 37 "MirrorTower" "shots" "LMirrorTower$Shots;", Cond.fieldLink RX4 10 "MirrorTower" "field" "LMirrorTower$Field;", Cond.methodLink RX4 100 yX4_isMirror, Cond.instanceMethod yX4_isMirror, Cond.selects RX4 yX4_isMirror yX4_isMirror, Cond.initialized RX4, Cond.code yX4_isMirror cX4_isMirror 2 (some .boolean), Cond.methodLink RX4 57 yX1_size, Cond.instanceMethod yX1_size, Cond.selects RX1 yX1_size yX1_size, Cond.initialized RX1, Cond.code yX1_size cX1_size 1 (some .int), Cond.fieldLink RX1 43 "MirrorTower$Field" "size" "I", Cond.methodLink RX4 45 yX4_isWithin, Cond.static yX4_isWithin, Cond.code yX4_isWithin cX4_isWithin 3 (some .boolean), Cond.methodLink RX4 177 yX2_verdictOn, Cond.instanceMethod yX2_verdictOn, Cond.selects RX2 yX2_verdictOn yX2_verdictOn, Cond.initialized RX2, Cond.code yX2_verdictOn cX2_verdictOn 3 (some .int), Cond.fieldLink RX2 15 "MirrorTower$Shots" "setsWith" "[I", Cond.methodLink RX2 43 yX2_tally, Cond.instanceMethod yX2_tally]
def wsX4_stuck_r2 : List Cond := [Cond.selects RX2 yX2_tally yX2_tally, Cond.code yX2_tally cX2_tally 4 none, Cond.fieldLink RX2 22 "MirrorTower$Shots" "missing" "I", Cond.fieldLink RX2 47 "MirrorTower$Shots" "sets" "I", Cond.fieldLink RX2 9 "MirrorTower$Shots" "marks" "[I", Cond.methodLink RX2 37 yJ7_fill_53178, Cond.static yJ7_fill_53178, Cond.initialized RJ7, Cond.code yJ7_fill_53178 cJ7_fill_53178 4 none, Cond.methodLink RX2 50 yX2_isSure, Cond.instanceMethod yX2_isSure, Cond.selects RX2 yX2_isSure yX2_isSure, Cond.code yX2_isSure cX2_isSure 2 (some .boolean)]
def wsX4_stuck : List Cond := .code yX4_stuck cX4_stuck 2 (some .int) :: ((wsX4_stuck_r1 ++ wsX4_stuck_r2) ++ wsX40 ++ wsX10 ++ wsX20)
def wsX4_unsure_r1 : List Cond := [Cond.fieldLink RX4 37 "MirrorTower" "shots" "LMirrorTower$Shots;", Cond.fieldLink RX4 10 "MirrorTower" "field" "LMirrorTower$Field;", Cond.methodLink RX4 57 yX1_size, Cond.instanceMethod yX1_size, Cond.selects RX1 yX1_size yX1_size, Cond.initialized RX1, Cond.code yX1_size cX1_size 1 (some .int), Cond.fieldLink RX1 43 "MirrorTower$Field" "size" "I", Cond.methodLink RX4 180 yX2_unsureOf, Cond.instanceMethod yX2_unsureOf, Cond.selects RX2 yX2_unsureOf yX2_unsureOf, Cond.initialized RX2, Cond.code yX2_unsureOf cX2_unsureOf 4 (some .int), Cond.methodLink RX2 43 yX2_tally, Cond.instanceMethod yX2_tally, Cond.selects RX2 yX2_tally yX2_tally, Cond.code yX2_tally cX2_tally 4 none, Cond.fieldLink RX2 15 "MirrorTower$Shots" "setsWith" "[I", Cond.fieldLink RX2 22 "MirrorTower$Shots" "missing" "I", Cond.fieldLink RX2 47 "MirrorTower$Shots" "sets" "I", Cond.fieldLink RX2 9 "MirrorTower$Shots" "marks" "[I", Cond.methodLink RX2 37 yJ7_fill_53178, Cond.static yJ7_fill_53178, Cond.initialized RJ7]
def wsX4_unsure_r2 : List Cond := [Cond.code yJ7_fill_53178 cJ7_fill_53178 4 none, Cond.methodLink RX2 50 yX2_isSure, Cond.instanceMethod yX2_isSure, Cond.selects RX2 yX2_isSure yX2_isSure, Cond.code yX2_isSure cX2_isSure 2 (some .boolean)]
def wsX4_unsure : List Cond := .code yX4_unsure cX4_unsure 1 (some .int) :: ((wsX4_unsure_r1 ++ wsX4_unsure_r2) ++ wsX40 ++ wsX10 ++ wsX20)
def wsX4_count_r1 : List Cond := [Cond.fieldLink RX4 10 "MirrorTower" "field" "LMirrorTower$Field;", Cond.fieldLink RX4 30 "MirrorTower" "store" "LMirrorTower$Store;", Cond.fieldLink RX4 37 "MirrorTower" "shots" "LMirrorTower$Shots;", Cond.methodLink RX4 57 yX1_size, Cond.instanceMethod yX1_size, Cond.selects RX1 yX1_size yX1_size, Cond.initialized RX1, Cond.code yX1_size cX1_size 1 (some .int), Cond.fieldLink RX1 43 "MirrorTower$Field" "size" "I", Cond.methodLink RX4 134 yX3_hourNow, Cond.instanceMethod yX3_hourNow, Cond.selects RX3 yX3_hourNow yX3_hourNow, Cond.initialized RX3, Cond.code yX3_hourNow cX3_hourNow 1 (some .int), Cond.fieldLink RX3 48 "MirrorTower$Store" "now" "I", Cond.methodLink RX4 183 yX3_unitsHeld, Cond.instanceMethod yX3_unitsHeld, Cond.selects RX3 yX3_unitsHeld yX3_unitsHeld, Cond.code yX3_unitsHeld cX3_unitsHeld 1 (some .int), Cond.fieldLink RX3 51 "MirrorTower$Store" "units" "I", Cond.methodLink RX4 186 yX3_isWarm, Cond.instanceMethod yX3_isWarm, Cond.selects RX3 yX3_isWarm yX3_isWarm, Cond.code yX3_isWarm cX3_isWarm 1 (some .boolean)]
def wsX4_count_r2 : List Cond := [Cond.fieldLink RX3 54 "MirrorTower$Store" "warm" "Z", Cond.methodLink RX4 166 yX2_size, Cond.instanceMethod yX2_size, Cond.selects RX2 yX2_size yX2_size, Cond.initialized RX2, Cond.code yX2_size cX2_size 1 (some .int), Cond.fieldLink RX2 18 "MirrorTower$Shots" "size" "I", Cond.methodLink RX4 189 yX1_soilInAll, Cond.instanceMethod yX1_soilInAll, Cond.selects RX1 yX1_soilInAll yX1_soilInAll, Cond.code yX1_soilInAll cX1_soilInAll 3 (some .int), Cond.fieldLink RX1 24 "MirrorTower$Field" "soils" "[I"]
def wsX4_count : List Cond := .code yX4_count cX4_count 2 (some .int) :: ((wsX4_count_r1 ++ wsX4_count_r2) ++ wsX40 ++ wsX10 ++ wsX30 ++ wsX20)
def wsX4_trouble : List Cond := .code yX4_trouble cX4_trouble 1 (some .int) :: ([.fieldLink RX4 41 "MirrorTower" "trouble" "I"] ++ wsX40)
def wsX5_refused : List Cond := .code yX5_refused cX5_refused 2 (some .int) :: ([.fieldLink RX5 7 "MirrorTowerModel" "trouble" "I"] ++ wsX50)
end
section
def wsX5_denied : List Cond := .code yX5_denied cX5_denied 2 (some .boolean) :: ([.fieldLink RX5 7 "MirrorTowerModel" "trouble" "I"] ++ wsX50)
def wsX5_done : List Cond := .code yX5_done cX5_done 2 (some .int) :: ([.fieldLink RX5 7 "MirrorTowerModel" "trouble" "I"] ++ wsX50)
def wsX5_granted : List Cond := .code yX5_granted cX5_granted 1 (some .boolean) :: ([.fieldLink RX5 7 "MirrorTowerModel" "trouble" "I"] ++ wsX50)
def wsX5_in : List Cond := .code yX5_in cX5_in 3 (some .boolean) :: ([])
def wsX5_init_r1 : List Cond := [Cond.methodLink RX5 10 objectInit, Cond.instanceMethod objectInit, Cond.code objectInit ⟨#[0xb1]⟩ 1 none, Cond.fieldLink RX5 16 "MirrorTowerModel" "dust" "I", Cond.arrayClass .int, Cond.fieldLink RX5 19 "MirrorTowerModel" "x" "[I", Cond.fieldLink RX5 23 "MirrorTowerModel" "y" "[I", Cond.fieldLink RX5 26 "MirrorTowerModel" "soil" "[I", Cond.fieldLink RX5 29 "MirrorTowerModel" "limit" "[I", Cond.fieldLink RX5 32 "MirrorTowerModel" "sunX" "[I", Cond.fieldLink RX5 35 "MirrorTowerModel" "sunY" "[I", Cond.fieldLink RX5 38 "MirrorTowerModel" "height" "[I", Cond.fieldLink RX5 41 "MirrorTowerModel" "wind" "[I", Cond.fieldLink RX5 44 "MirrorTowerModel" "price" "[I", Cond.fieldLink RX5 47 "MirrorTowerModel" "order" "[I", Cond.fieldLink RX5 50 "MirrorTowerModel" "power" "[I", Cond.fieldLink RX5 53 "MirrorTowerModel" "left" "[I", Cond.fieldLink RX5 56 "MirrorTowerModel" "aimed" "[I", Cond.fieldLink RX5 59 "MirrorTowerModel" "at" "[I", Cond.fieldLink RX5 62 "MirrorTowerModel" "atFace" "[I", Cond.fieldLink RX5 65 "MirrorTowerModel" "aimedMirrors" "I", Cond.fieldLink RX5 68 "MirrorTowerModel" "worth" "[I", Cond.arrayClass .boolean, Cond.fieldLink RX5 71 "MirrorTowerModel" "isRun" "[Z"]
def wsX5_init_r2 : List Cond := [Cond.fieldLink RX5 75 "MirrorTowerModel" "planFrom" "I", Cond.fieldLink RX5 78 "MirrorTowerModel" "comeUnits" "[I", Cond.arrayClass .long, Cond.fieldLink RX5 81 "MirrorTowerModel" "shot" "[J", Cond.fieldLink RX5 85 "MirrorTowerModel" "hits" "[I", Cond.fieldLink RX5 88 "MirrorTowerModel" "inSets" "[I"]
def wsX5_init : List Cond := .code yX5_init cX5_init 2 none :: ((wsX5_init_r1 ++ wsX5_init_r2) ++ wsX50)
def wsX5_isMirror : List Cond := .code yX5_isMirror cX5_isMirror 2 (some .boolean) :: ([.fieldLink RX5 91 "MirrorTowerModel" "mirrors" "I"] ++ wsX50)
def wsX5_isHour : List Cond := .code yX5_isHour cX5_isHour 1 (some .boolean) :: ([])
def wsX5_mirror : List Cond := .code yX5_mirror cX5_mirror 5 (some .int) :: ([.fieldLink RX5 1 "MirrorTowerModel" "thrown" "I", .fieldLink RX5 91 "MirrorTowerModel" "mirrors" "I", .fieldLink RX5 19 "MirrorTowerModel" "x" "[I", .fieldLink RX5 23 "MirrorTowerModel" "y" "[I", .methodLink RX5 94 yX5_in, .static yX5_in, .initialized RX5, .code yX5_in cX5_in 3 (some .boolean), .methodLink RX5 98 yX5_refused, .instanceMethod yX5_refused, .selects RX5 yX5_refused yX5_refused, .code yX5_refused cX5_refused 2 (some .int), .fieldLink RX5 7 "MirrorTowerModel" "trouble" "I", .methodLink RX5 102 yX5_done, .instanceMethod yX5_done, .selects RX5 yX5_done yX5_done, .code yX5_done cX5_done 2 (some .int)] ++ wsX50)
def wsX5_sun : List Cond := .code yX5_sun cX5_sun 5 (some .boolean) :: ([.fieldLink RX5 1 "MirrorTowerModel" "thrown" "I", .fieldLink RX5 32 "MirrorTowerModel" "sunX" "[I", .fieldLink RX5 35 "MirrorTowerModel" "sunY" "[I", .fieldLink RX5 38 "MirrorTowerModel" "height" "[I", .methodLink RX5 105 yX5_isHour, .static yX5_isHour, .initialized RX5, .code yX5_isHour cX5_isHour 1 (some .boolean), .methodLink RX5 94 yX5_in, .static yX5_in, .code yX5_in cX5_in 3 (some .boolean), .methodLink RX5 109 yX5_denied, .instanceMethod yX5_denied, .selects RX5 yX5_denied yX5_denied, .code yX5_denied cX5_denied 2 (some .boolean), .fieldLink RX5 7 "MirrorTowerModel" "trouble" "I", .methodLink RX5 112 yX5_granted, .instanceMethod yX5_granted, .selects RX5 yX5_granted yX5_granted, .code yX5_granted cX5_granted 1 (some .boolean)] ++ wsX50)
def wsX5_limit : List Cond := .code yX5_limit cX5_limit 3 (some .boolean) :: ([.fieldLink RX5 1 "MirrorTowerModel" "thrown" "I", .fieldLink RX5 29 "MirrorTowerModel" "limit" "[I", .methodLink RX5 94 yX5_in, .static yX5_in, .initialized RX5, .code yX5_in cX5_in 3 (some .boolean), .methodLink RX5 109 yX5_denied, .instanceMethod yX5_denied, .selects RX5 yX5_denied yX5_denied, .code yX5_denied cX5_denied 2 (some .boolean), .fieldLink RX5 7 "MirrorTowerModel" "trouble" "I", .methodLink RX5 112 yX5_granted, .instanceMethod yX5_granted, .selects RX5 yX5_granted yX5_granted, .code yX5_granted cX5_granted 1 (some .boolean)] ++ wsX50)
def wsX5_wind : List Cond := .code yX5_wind cX5_wind 3 (some .boolean) :: ([.fieldLink RX5 1 "MirrorTowerModel" "thrown" "I", .fieldLink RX5 41 "MirrorTowerModel" "wind" "[I", .methodLink RX5 105 yX5_isHour, .static yX5_isHour, .initialized RX5, .code yX5_isHour cX5_isHour 1 (some .boolean), .methodLink RX5 94 yX5_in, .static yX5_in, .code yX5_in cX5_in 3 (some .boolean), .methodLink RX5 109 yX5_denied, .instanceMethod yX5_denied, .selects RX5 yX5_denied yX5_denied, .code yX5_denied cX5_denied 2 (some .boolean), .fieldLink RX5 7 "MirrorTowerModel" "trouble" "I", .methodLink RX5 112 yX5_granted, .instanceMethod yX5_granted, .selects RX5 yX5_granted yX5_granted, .code yX5_granted cX5_granted 1 (some .boolean)] ++ wsX50)
def wsX5_price : List Cond := .code yX5_price cX5_price 3 (some .boolean) :: ([.fieldLink RX5 1 "MirrorTowerModel" "thrown" "I", .fieldLink RX5 44 "MirrorTowerModel" "price" "[I", .methodLink RX5 105 yX5_isHour, .static yX5_isHour, .initialized RX5, .code yX5_isHour cX5_isHour 1 (some .boolean), .methodLink RX5 94 yX5_in, .static yX5_in, .code yX5_in cX5_in 3 (some .boolean), .methodLink RX5 109 yX5_denied, .instanceMethod yX5_denied, .selects RX5 yX5_denied yX5_denied, .code yX5_denied cX5_denied 2 (some .boolean), .fieldLink RX5 7 "MirrorTowerModel" "trouble" "I", .methodLink RX5 112 yX5_granted, .instanceMethod yX5_granted, .selects RX5 yX5_granted yX5_granted, .code yX5_granted cX5_granted 1 (some .boolean)] ++ wsX50)
def wsX5_dust : List Cond := .code yX5_dust cX5_dust 2 (some .boolean) :: ([.fieldLink RX5 1 "MirrorTowerModel" "thrown" "I", .fieldLink RX5 16 "MirrorTowerModel" "dust" "I", .methodLink RX5 94 yX5_in, .static yX5_in, .initialized RX5, .code yX5_in cX5_in 3 (some .boolean), .methodLink RX5 109 yX5_denied, .instanceMethod yX5_denied, .selects RX5 yX5_denied yX5_denied, .code yX5_denied cX5_denied 2 (some .boolean), .fieldLink RX5 7 "MirrorTowerModel" "trouble" "I", .methodLink RX5 112 yX5_granted, .instanceMethod yX5_granted, .selects RX5 yX5_granted yX5_granted, .code yX5_granted cX5_granted 1 (some .boolean)] ++ wsX50)
def wsX5_shades : List Cond := .code yX5_shades cX5_shades 6 (some .int) :: ([.fieldLink RX5 38 "MirrorTowerModel" "height" "[I", .fieldLink RX5 91 "MirrorTowerModel" "mirrors" "I", .fieldLink RX5 19 "MirrorTowerModel" "x" "[I", .fieldLink RX5 32 "MirrorTowerModel" "sunX" "[I", .fieldLink RX5 23 "MirrorTowerModel" "y" "[I", .fieldLink RX5 35 "MirrorTowerModel" "sunY" "[I"] ++ wsX50)
def wsX5_blocks : List Cond := .code yX5_blocks cX5_blocks 9 (some .int) :: ([.fieldLink RX5 19 "MirrorTowerModel" "x" "[I", .fieldLink RX5 23 "MirrorTowerModel" "y" "[I", .fieldLink RX5 91 "MirrorTowerModel" "mirrors" "I"] ++ wsX50)
def wsX5_shaded : List Cond := .code yX5_shaded cX5_shaded 4 (some .int) :: ([.fieldLink RX5 1 "MirrorTowerModel" "thrown" "I", .methodLink RX5 116 yX5_isMirror, .instanceMethod yX5_isMirror, .selects RX5 yX5_isMirror yX5_isMirror, .initialized RX5, .code yX5_isMirror cX5_isMirror 2 (some .boolean), .fieldLink RX5 91 "MirrorTowerModel" "mirrors" "I", .methodLink RX5 105 yX5_isHour, .static yX5_isHour, .code yX5_isHour cX5_isHour 1 (some .boolean), .methodLink RX5 119 yX5_blocks, .instanceMethod yX5_blocks, .selects RX5 yX5_blocks yX5_blocks, .code yX5_blocks cX5_blocks 9 (some .int), .fieldLink RX5 19 "MirrorTowerModel" "x" "[I", .fieldLink RX5 23 "MirrorTowerModel" "y" "[I", .methodLink RX5 122 yX5_shades, .instanceMethod yX5_shades, .selects RX5 yX5_shades yX5_shades, .code yX5_shades cX5_shades 6 (some .int), .fieldLink RX5 38 "MirrorTowerModel" "height" "[I", .fieldLink RX5 32 "MirrorTowerModel" "sunX" "[I", .fieldLink RX5 35 "MirrorTowerModel" "sunY" "[I"] ++ wsX50)
def wsX5_isStowed : List Cond := .code yX5_isStowed cX5_isStowed 2 (some .boolean) :: ([.fieldLink RX5 41 "MirrorTowerModel" "wind" "[I"] ++ wsX50)
def wsX5_powerOf_r1 : List Cond := [Cond.fieldLink RX5 38 "MirrorTowerModel" "height" "[I", Cond.fieldLink RX5 26 "MirrorTowerModel" "soil" "[I", Cond.methodLink RX5 129 Lib.Math.min.name, Cond.static Lib.Math.min.name, Cond.initialized "java/lang/Math", Cond.code Lib.Math.min.name Lib.Math.min.code 2 (some .int), Cond.methodLink RX5 134 Lib.Math.max.name, Cond.static Lib.Math.max.name, Cond.code Lib.Math.max.name Lib.Math.max.code 2 (some .int), Cond.methodLink RX5 126 yX5_isStowed, Cond.instanceMethod yX5_isStowed, Cond.selects RX5 yX5_isStowed yX5_isStowed, Cond.initialized RX5, Cond.code yX5_isStowed cX5_isStowed 2 (some .boolean), Cond.fieldLink RX5 41 "MirrorTowerModel" "wind" "[I", Cond.methodLink RX5 122 yX5_shades, Cond.instanceMethod yX5_shades, Cond.selects RX5 yX5_shades yX5_shades, Cond.code yX5_shades cX5_shades 6 (some .int), Cond.fieldLink RX5 91 "MirrorTowerModel" "mirrors" "I", Cond.fieldLink RX5 19 "MirrorTowerModel" "x" "[I", Cond.fieldLink RX5 32 "MirrorTowerModel" "sunX" "[I", Cond.fieldLink RX5 23 "MirrorTowerModel" "y" "[I", Cond.fieldLink RX5 35 "MirrorTowerModel" "sunY" "[I"]
def wsX5_powerOf_r2 : List Cond := [Cond.methodLink RX5 119 yX5_blocks, Cond.instanceMethod yX5_blocks, Cond.selects RX5 yX5_blocks yX5_blocks, Cond.code yX5_blocks cX5_blocks 9 (some .int)]
def wsX5_powerOf : List Cond := .code yX5_powerOf cX5_powerOf 6 (some .int) :: ((wsX5_powerOf_r1 ++ wsX5_powerOf_r2) ++ wsX50)
def wsX5_power_r1 : List Cond := [Cond.fieldLink RX5 1 "MirrorTowerModel" "thrown" "I", Cond.methodLink RX5 116 yX5_isMirror, Cond.instanceMethod yX5_isMirror, Cond.selects RX5 yX5_isMirror yX5_isMirror, Cond.initialized RX5, Cond.code yX5_isMirror cX5_isMirror 2 (some .boolean), Cond.fieldLink RX5 91 "MirrorTowerModel" "mirrors" "I", Cond.methodLink RX5 105 yX5_isHour, Cond.static yX5_isHour, Cond.code yX5_isHour cX5_isHour 1 (some .boolean), Cond.methodLink RX5 137 yX5_powerOf, Cond.instanceMethod yX5_powerOf, Cond.selects RX5 yX5_powerOf yX5_powerOf, Cond.code yX5_powerOf cX5_powerOf 6 (some .int), Cond.fieldLink RX5 38 "MirrorTowerModel" "height" "[I", Cond.fieldLink RX5 26 "MirrorTowerModel" "soil" "[I", Cond.methodLink RX5 129 Lib.Math.min.name, Cond.static Lib.Math.min.name, Cond.initialized "java/lang/Math", Cond.code Lib.Math.min.name Lib.Math.min.code 2 (some .int), Cond.methodLink RX5 134 Lib.Math.max.name, Cond.static Lib.Math.max.name, Cond.code Lib.Math.max.name Lib.Math.max.code 2 (some .int), Cond.methodLink RX5 126 yX5_isStowed]
def wsX5_power_r2 : List Cond := [Cond.instanceMethod yX5_isStowed, Cond.selects RX5 yX5_isStowed yX5_isStowed, Cond.code yX5_isStowed cX5_isStowed 2 (some .boolean), Cond.fieldLink RX5 41 "MirrorTowerModel" "wind" "[I", Cond.methodLink RX5 122 yX5_shades, Cond.instanceMethod yX5_shades, Cond.selects RX5 yX5_shades yX5_shades, Cond.code yX5_shades cX5_shades 6 (some .int), Cond.fieldLink RX5 19 "MirrorTowerModel" "x" "[I", Cond.fieldLink RX5 32 "MirrorTowerModel" "sunX" "[I", Cond.fieldLink RX5 23 "MirrorTowerModel" "y" "[I", Cond.fieldLink RX5 35 "MirrorTowerModel" "sunY" "[I", Cond.methodLink RX5 119 yX5_blocks, Cond.instanceMethod yX5_blocks, Cond.selects RX5 yX5_blocks yX5_blocks, Cond.code yX5_blocks cX5_blocks 9 (some .int)]
def wsX5_power : List Cond := .code yX5_power cX5_power 3 (some .int) :: ((wsX5_power_r1 ++ wsX5_power_r2) ++ wsX50)
def wsX5_stowed : List Cond := .code yX5_stowed cX5_stowed 2 (some .int) :: ([.fieldLink RX5 1 "MirrorTowerModel" "thrown" "I", .methodLink RX5 105 yX5_isHour, .static yX5_isHour, .initialized RX5, .code yX5_isHour cX5_isHour 1 (some .boolean), .methodLink RX5 126 yX5_isStowed, .instanceMethod yX5_isStowed, .selects RX5 yX5_isStowed yX5_isStowed, .code yX5_isStowed cX5_isStowed 2 (some .boolean), .fieldLink RX5 41 "MirrorTowerModel" "wind" "[I"] ++ wsX50)
def wsX5_soil : List Cond := .code yX5_soil cX5_soil 2 (some .int) :: ([.fieldLink RX5 1 "MirrorTowerModel" "thrown" "I", .fieldLink RX5 26 "MirrorTowerModel" "soil" "[I", .methodLink RX5 116 yX5_isMirror, .instanceMethod yX5_isMirror, .selects RX5 yX5_isMirror yX5_isMirror, .initialized RX5, .code yX5_isMirror cX5_isMirror 2 (some .boolean), .fieldLink RX5 91 "MirrorTowerModel" "mirrors" "I"] ++ wsX50)
def wsX5_wash : List Cond := .code yX5_wash cX5_wash 6 (some .int) :: ([.fieldLink RX5 1 "MirrorTowerModel" "thrown" "I", .fieldLink RX5 91 "MirrorTowerModel" "mirrors" "I", .fieldLink RX5 26 "MirrorTowerModel" "soil" "[I", .methodLink RX5 94 yX5_in, .static yX5_in, .initialized RX5, .code yX5_in cX5_in 3 (some .boolean), .methodLink RX5 98 yX5_refused, .instanceMethod yX5_refused, .selects RX5 yX5_refused yX5_refused, .code yX5_refused cX5_refused 2 (some .int), .fieldLink RX5 7 "MirrorTowerModel" "trouble" "I", .methodLink RX5 102 yX5_done, .instanceMethod yX5_done, .selects RX5 yX5_done yX5_done, .code yX5_done cX5_done 2 (some .int)] ++ wsX50)
def wsX5_orders_r1 : List Cond := [Cond.fieldLink RX5 91 "MirrorTowerModel" "mirrors" "I", Cond.fieldLink RX5 50 "MirrorTowerModel" "power" "[I", Cond.fieldLink RX5 47 "MirrorTowerModel" "order" "[I", Cond.methodLink RX5 137 yX5_powerOf, Cond.instanceMethod yX5_powerOf, Cond.selects RX5 yX5_powerOf yX5_powerOf, Cond.initialized RX5, Cond.code yX5_powerOf cX5_powerOf 6 (some .int), Cond.fieldLink RX5 38 "MirrorTowerModel" "height" "[I", Cond.fieldLink RX5 26 "MirrorTowerModel" "soil" "[I", Cond.methodLink RX5 129 Lib.Math.min.name, Cond.static Lib.Math.min.name, Cond.initialized "java/lang/Math", Cond.code Lib.Math.min.name Lib.Math.min.code 2 (some .int), Cond.methodLink RX5 134 Lib.Math.max.name, Cond.static Lib.Math.max.name, Cond.code Lib.Math.max.name Lib.Math.max.code 2 (some .int), Cond.methodLink RX5 126 yX5_isStowed, Cond.instanceMethod yX5_isStowed, Cond.selects RX5 yX5_isStowed yX5_isStowed, Cond.code yX5_isStowed cX5_isStowed 2 (some .boolean), Cond.fieldLink RX5 41 "MirrorTowerModel" "wind" "[I", Cond.methodLink RX5 122 yX5_shades, Cond.instanceMethod yX5_shades]
def wsX5_orders_r2 : List Cond := [Cond.selects RX5 yX5_shades yX5_shades, Cond.code yX5_shades cX5_shades 6 (some .int), Cond.fieldLink RX5 19 "MirrorTowerModel" "x" "[I", Cond.fieldLink RX5 32 "MirrorTowerModel" "sunX" "[I", Cond.fieldLink RX5 23 "MirrorTowerModel" "y" "[I", Cond.fieldLink RX5 35 "MirrorTowerModel" "sunY" "[I", Cond.methodLink RX5 119 yX5_blocks, Cond.instanceMethod yX5_blocks, Cond.selects RX5 yX5_blocks yX5_blocks, Cond.code yX5_blocks cX5_blocks 9 (some .int)]
def wsX5_orders : List Cond := .code yX5_orders cX5_orders 5 none :: ((wsX5_orders_r1 ++ wsX5_orders_r2) ++ wsX50)
def wsX5_aims_r1 : List Cond := [Cond.fieldLink RX5 53 "MirrorTowerModel" "left" "[I", Cond.fieldLink RX5 29 "MirrorTowerModel" "limit" "[I", Cond.fieldLink RX5 91 "MirrorTowerModel" "mirrors" "I", Cond.fieldLink RX5 47 "MirrorTowerModel" "order" "[I", Cond.fieldLink RX5 59 "MirrorTowerModel" "at" "[I", Cond.fieldLink RX5 50 "MirrorTowerModel" "power" "[I", Cond.methodLink RX5 141 yX5_orders, Cond.instanceMethod yX5_orders, Cond.selects RX5 yX5_orders yX5_orders, Cond.initialized RX5, Cond.code yX5_orders cX5_orders 5 none, Cond.methodLink RX5 137 yX5_powerOf, Cond.instanceMethod yX5_powerOf, Cond.selects RX5 yX5_powerOf yX5_powerOf, Cond.code yX5_powerOf cX5_powerOf 6 (some .int), Cond.fieldLink RX5 38 "MirrorTowerModel" "height" "[I", Cond.fieldLink RX5 26 "MirrorTowerModel" "soil" "[I", Cond.methodLink RX5 129 Lib.Math.min.name, Cond.static Lib.Math.min.name, Cond.initialized "java/lang/Math", Cond.code Lib.Math.min.name Lib.Math.min.code 2 (some .int), Cond.methodLink RX5 134 Lib.Math.max.name, Cond.static Lib.Math.max.name, Cond.code Lib.Math.max.name Lib.Math.max.code 2 (some .int)]
def wsX5_aims_r2 : List Cond := [Cond.methodLink RX5 126 yX5_isStowed, Cond.instanceMethod yX5_isStowed, Cond.selects RX5 yX5_isStowed yX5_isStowed, Cond.code yX5_isStowed cX5_isStowed 2 (some .boolean), Cond.fieldLink RX5 41 "MirrorTowerModel" "wind" "[I", Cond.methodLink RX5 122 yX5_shades, Cond.instanceMethod yX5_shades, Cond.selects RX5 yX5_shades yX5_shades, Cond.code yX5_shades cX5_shades 6 (some .int), Cond.fieldLink RX5 19 "MirrorTowerModel" "x" "[I", Cond.fieldLink RX5 32 "MirrorTowerModel" "sunX" "[I", Cond.fieldLink RX5 23 "MirrorTowerModel" "y" "[I", Cond.fieldLink RX5 35 "MirrorTowerModel" "sunY" "[I", Cond.methodLink RX5 119 yX5_blocks, Cond.instanceMethod yX5_blocks, Cond.selects RX5 yX5_blocks yX5_blocks, Cond.code yX5_blocks cX5_blocks 9 (some .int)]
def wsX5_aims : List Cond := .code yX5_aims cX5_aims 8 (some .int) :: ((wsX5_aims_r1 ++ wsX5_aims_r2) ++ wsX50)
def wsX5_aim_r1 : List Cond := [Cond.fieldLink RX5 1 "MirrorTowerModel" "thrown" "I", Cond.fieldLink RX5 91 "MirrorTowerModel" "mirrors" "I", Cond.fieldLink RX5 65 "MirrorTowerModel" "aimedMirrors" "I", Cond.fieldLink RX5 56 "MirrorTowerModel" "aimed" "[I", Cond.fieldLink RX5 59 "MirrorTowerModel" "at" "[I", Cond.fieldLink RX5 62 "MirrorTowerModel" "atFace" "[I", Cond.fieldLink RX5 29 "MirrorTowerModel" "limit" "[I", Cond.fieldLink RX5 53 "MirrorTowerModel" "left" "[I", Cond.methodLink RX5 105 yX5_isHour, Cond.static yX5_isHour, Cond.initialized RX5, Cond.code yX5_isHour cX5_isHour 1 (some .boolean), Cond.methodLink RX5 98 yX5_refused, Cond.instanceMethod yX5_refused, Cond.selects RX5 yX5_refused yX5_refused, Cond.code yX5_refused cX5_refused 2 (some .int), Cond.fieldLink RX5 7 "MirrorTowerModel" "trouble" "I", Cond.methodLink RX5 145 yX5_aims, Cond.instanceMethod yX5_aims, Cond.selects RX5 yX5_aims yX5_aims, Cond.code yX5_aims cX5_aims 8 (some .int), Cond.fieldLink RX5 47 "MirrorTowerModel" "order" "[I", Cond.fieldLink RX5 50 "MirrorTowerModel" "power" "[I", Cond.methodLink RX5 141 yX5_orders]
def wsX5_aim_r2 : List Cond := [Cond.instanceMethod yX5_orders, Cond.selects RX5 yX5_orders yX5_orders, Cond.code yX5_orders cX5_orders 5 none, Cond.methodLink RX5 137 yX5_powerOf, Cond.instanceMethod yX5_powerOf, Cond.selects RX5 yX5_powerOf yX5_powerOf, Cond.code yX5_powerOf cX5_powerOf 6 (some .int), Cond.fieldLink RX5 38 "MirrorTowerModel" "height" "[I", Cond.fieldLink RX5 26 "MirrorTowerModel" "soil" "[I", Cond.methodLink RX5 129 Lib.Math.min.name, Cond.static Lib.Math.min.name, Cond.initialized "java/lang/Math", Cond.code Lib.Math.min.name Lib.Math.min.code 2 (some .int), Cond.methodLink RX5 134 Lib.Math.max.name, Cond.static Lib.Math.max.name, Cond.code Lib.Math.max.name Lib.Math.max.code 2 (some .int), Cond.methodLink RX5 126 yX5_isStowed, Cond.instanceMethod yX5_isStowed, Cond.selects RX5 yX5_isStowed yX5_isStowed, Cond.code yX5_isStowed cX5_isStowed 2 (some .boolean), Cond.fieldLink RX5 41 "MirrorTowerModel" "wind" "[I", Cond.methodLink RX5 122 yX5_shades, Cond.instanceMethod yX5_shades, Cond.selects RX5 yX5_shades yX5_shades]
def wsX5_aim_r3 : List Cond := [Cond.code yX5_shades cX5_shades 6 (some .int), Cond.fieldLink RX5 19 "MirrorTowerModel" "x" "[I", Cond.fieldLink RX5 32 "MirrorTowerModel" "sunX" "[I", Cond.fieldLink RX5 23 "MirrorTowerModel" "y" "[I", Cond.fieldLink RX5 35 "MirrorTowerModel" "sunY" "[I", Cond.methodLink RX5 119 yX5_blocks, Cond.instanceMethod yX5_blocks, Cond.selects RX5 yX5_blocks yX5_blocks, Cond.code yX5_blocks cX5_blocks 9 (some .int), Cond.methodLink RX5 102 yX5_done, Cond.instanceMethod yX5_done, Cond.selects RX5 yX5_done yX5_done, Cond.code yX5_done cX5_done 2 (some .int)]
def wsX5_aim : List Cond := .code yX5_aim cX5_aim 4 (some .int) :: ((wsX5_aim_r1 ++ (wsX5_aim_r2 ++ wsX5_aim_r3)) ++ wsX50)
def wsX5_aimed : List Cond := .code yX5_aimed cX5_aimed 2 (some .int) :: ([.fieldLink RX5 1 "MirrorTowerModel" "thrown" "I", .fieldLink RX5 65 "MirrorTowerModel" "aimedMirrors" "I", .fieldLink RX5 56 "MirrorTowerModel" "aimed" "[I"] ++ wsX50)
def wsX5_face : List Cond := .code yX5_face cX5_face 2 (some .int) :: ([.fieldLink RX5 1 "MirrorTowerModel" "thrown" "I", .fieldLink RX5 62 "MirrorTowerModel" "atFace" "[I", .methodLink RX5 94 yX5_in, .static yX5_in, .initialized RX5, .code yX5_in cX5_in 3 (some .boolean)] ++ wsX50)
def wsX5_tries : List Cond := .code yX5_tries cX5_tries 5 none :: ([.fieldLink RX5 91 "MirrorTowerModel" "mirrors" "I", .fieldLink RX5 148 "MirrorTowerModel" "most" "I", .methodLink RX5 134 Lib.Math.max.name, .static Lib.Math.max.name, .initialized "java/lang/Math", .code Lib.Math.max.name Lib.Math.max.code 2 (some .int), .fieldLink RX5 50 "MirrorTowerModel" "power" "[I", .fieldLink RX5 47 "MirrorTowerModel" "order" "[I", .fieldLink RX5 53 "MirrorTowerModel" "left" "[I", .methodLink RX5 151 yX5_tries, .instanceMethod yX5_tries, .selects RX5 yX5_tries yX5_tries, .initialized RX5] ++ wsX50)
def wsX5_best_r1 : List Cond := [Cond.fieldLink RX5 1 "MirrorTowerModel" "thrown" "I", Cond.fieldLink RX5 53 "MirrorTowerModel" "left" "[I", Cond.fieldLink RX5 29 "MirrorTowerModel" "limit" "[I", Cond.fieldLink RX5 148 "MirrorTowerModel" "most" "I", Cond.methodLink RX5 105 yX5_isHour, Cond.static yX5_isHour, Cond.initialized RX5, Cond.code yX5_isHour cX5_isHour 1 (some .boolean), Cond.methodLink RX5 98 yX5_refused, Cond.instanceMethod yX5_refused, Cond.selects RX5 yX5_refused yX5_refused, Cond.code yX5_refused cX5_refused 2 (some .int), Cond.fieldLink RX5 7 "MirrorTowerModel" "trouble" "I", Cond.methodLink RX5 141 yX5_orders, Cond.instanceMethod yX5_orders, Cond.selects RX5 yX5_orders yX5_orders, Cond.code yX5_orders cX5_orders 5 none, Cond.fieldLink RX5 91 "MirrorTowerModel" "mirrors" "I", Cond.fieldLink RX5 50 "MirrorTowerModel" "power" "[I", Cond.fieldLink RX5 47 "MirrorTowerModel" "order" "[I", Cond.methodLink RX5 137 yX5_powerOf, Cond.instanceMethod yX5_powerOf, Cond.selects RX5 yX5_powerOf yX5_powerOf, Cond.code yX5_powerOf cX5_powerOf 6 (some .int)]
def wsX5_best_r2 : List Cond := [Cond.fieldLink RX5 38 "MirrorTowerModel" "height" "[I", Cond.fieldLink RX5 26 "MirrorTowerModel" "soil" "[I", Cond.methodLink RX5 129 Lib.Math.min.name, Cond.static Lib.Math.min.name, Cond.initialized "java/lang/Math", Cond.code Lib.Math.min.name Lib.Math.min.code 2 (some .int), Cond.methodLink RX5 134 Lib.Math.max.name, Cond.static Lib.Math.max.name, Cond.code Lib.Math.max.name Lib.Math.max.code 2 (some .int), Cond.methodLink RX5 126 yX5_isStowed, Cond.instanceMethod yX5_isStowed, Cond.selects RX5 yX5_isStowed yX5_isStowed, Cond.code yX5_isStowed cX5_isStowed 2 (some .boolean), Cond.fieldLink RX5 41 "MirrorTowerModel" "wind" "[I", Cond.methodLink RX5 122 yX5_shades, Cond.instanceMethod yX5_shades, Cond.selects RX5 yX5_shades yX5_shades, Cond.code yX5_shades cX5_shades 6 (some .int), Cond.fieldLink RX5 19 "MirrorTowerModel" "x" "[I", Cond.fieldLink RX5 32 "MirrorTowerModel" "sunX" "[I", Cond.fieldLink RX5 23 "MirrorTowerModel" "y" "[I", Cond.fieldLink RX5 35 "MirrorTowerModel" "sunY" "[I", Cond.methodLink RX5 119 yX5_blocks, Cond.instanceMethod yX5_blocks]
def wsX5_best_r3 : List Cond := [Cond.selects RX5 yX5_blocks yX5_blocks, Cond.code yX5_blocks cX5_blocks 9 (some .int), Cond.methodLink RX5 151 yX5_tries, Cond.instanceMethod yX5_tries, Cond.selects RX5 yX5_tries yX5_tries, Cond.code yX5_tries cX5_tries 5 none, Cond.methodLink RX5 102 yX5_done, Cond.instanceMethod yX5_done, Cond.selects RX5 yX5_done yX5_done, Cond.code yX5_done cX5_done 2 (some .int)]
def wsX5_best : List Cond := .code yX5_best cX5_best 3 (some .int) :: ((wsX5_best_r1 ++ (wsX5_best_r2 ++ wsX5_best_r3)) ++ wsX50)
def wsX5_comes_r1 : List Cond := [Cond.fieldLink RX5 1 "MirrorTowerModel" "thrown" "I", Cond.fieldLink RX5 154 "MirrorTowerModel" "now" "I", Cond.fieldLink RX5 16 "MirrorTowerModel" "dust" "I", Cond.methodLink RX5 94 yX5_in, Cond.static yX5_in, Cond.initialized RX5, Cond.code yX5_in cX5_in 3 (some .boolean), Cond.methodLink RX5 145 yX5_aims, Cond.instanceMethod yX5_aims, Cond.selects RX5 yX5_aims yX5_aims, Cond.code yX5_aims cX5_aims 8 (some .int), Cond.fieldLink RX5 53 "MirrorTowerModel" "left" "[I", Cond.fieldLink RX5 29 "MirrorTowerModel" "limit" "[I", Cond.fieldLink RX5 91 "MirrorTowerModel" "mirrors" "I", Cond.fieldLink RX5 47 "MirrorTowerModel" "order" "[I", Cond.fieldLink RX5 59 "MirrorTowerModel" "at" "[I", Cond.fieldLink RX5 50 "MirrorTowerModel" "power" "[I", Cond.methodLink RX5 141 yX5_orders, Cond.instanceMethod yX5_orders, Cond.selects RX5 yX5_orders yX5_orders, Cond.code yX5_orders cX5_orders 5 none, Cond.methodLink RX5 137 yX5_powerOf, Cond.instanceMethod yX5_powerOf, Cond.selects RX5 yX5_powerOf yX5_powerOf]
def wsX5_comes_r2 : List Cond := [Cond.code yX5_powerOf cX5_powerOf 6 (some .int), Cond.fieldLink RX5 38 "MirrorTowerModel" "height" "[I", Cond.fieldLink RX5 26 "MirrorTowerModel" "soil" "[I", Cond.methodLink RX5 129 Lib.Math.min.name, Cond.static Lib.Math.min.name, Cond.initialized "java/lang/Math", Cond.code Lib.Math.min.name Lib.Math.min.code 2 (some .int), Cond.methodLink RX5 134 Lib.Math.max.name, Cond.static Lib.Math.max.name, Cond.code Lib.Math.max.name Lib.Math.max.code 2 (some .int), Cond.methodLink RX5 126 yX5_isStowed, Cond.instanceMethod yX5_isStowed, Cond.selects RX5 yX5_isStowed yX5_isStowed, Cond.code yX5_isStowed cX5_isStowed 2 (some .boolean), Cond.fieldLink RX5 41 "MirrorTowerModel" "wind" "[I", Cond.methodLink RX5 122 yX5_shades, Cond.instanceMethod yX5_shades, Cond.selects RX5 yX5_shades yX5_shades, Cond.code yX5_shades cX5_shades 6 (some .int), Cond.fieldLink RX5 19 "MirrorTowerModel" "x" "[I", Cond.fieldLink RX5 32 "MirrorTowerModel" "sunX" "[I", Cond.fieldLink RX5 23 "MirrorTowerModel" "y" "[I", Cond.fieldLink RX5 35 "MirrorTowerModel" "sunY" "[I", Cond.methodLink RX5 119 yX5_blocks]
def wsX5_comes_r3 : List Cond := [Cond.instanceMethod yX5_blocks, Cond.selects RX5 yX5_blocks yX5_blocks, Cond.code yX5_blocks cX5_blocks 9 (some .int)]
def wsX5_comes : List Cond := .code yX5_comes cX5_comes 2 (some .int) :: ((wsX5_comes_r1 ++ (wsX5_comes_r2 ++ wsX5_comes_r3)) ++ wsX50)
def wsX5_state : List Cond := .code yX5_state cX5_state 3 (some .int) :: ([])
def wsX5_takes : List Cond := .code yX5_takes cX5_takes 1 (some .int) :: ([])
def wsX5_filled : List Cond := .code yX5_filled cX5_filled 2 (some .int) :: ([.methodLink RX5 129 Lib.Math.min.name, .static Lib.Math.min.name, .initialized "java/lang/Math", .code Lib.Math.min.name Lib.Math.min.code 2 (some .int)])
def wsX5_plan_r1 : List Cond := [Cond.fieldLink RX5 1 "MirrorTowerModel" "thrown" "I", Cond.fieldLink RX5 78 "MirrorTowerModel" "comeUnits" "[I", Cond.fieldLink RX5 154 "MirrorTowerModel" "now" "I", Cond.fieldLink RX5 16 "MirrorTowerModel" "dust" "I", Cond.fieldLink RX5 68 "MirrorTowerModel" "worth" "[I", Cond.fieldLink RX5 44 "MirrorTowerModel" "price" "[I", Cond.methodLink RX5 134 Lib.Math.max.name, Cond.static Lib.Math.max.name, Cond.initialized "java/lang/Math", Cond.code Lib.Math.max.name Lib.Math.max.code 2 (some .int), Cond.fieldLink RX5 75 "MirrorTowerModel" "planFrom" "I", Cond.fieldLink RX5 168 "MirrorTowerModel" "store" "I", Cond.fieldLink RX5 171 "MirrorTowerModel" "isWarm" "Z", Cond.fieldLink RX5 71 "MirrorTowerModel" "isRun" "[Z", Cond.methodLink RX5 145 yX5_aims, Cond.instanceMethod yX5_aims, Cond.selects RX5 yX5_aims yX5_aims, Cond.initialized RX5, Cond.code yX5_aims cX5_aims 8 (some .int), Cond.fieldLink RX5 53 "MirrorTowerModel" "left" "[I", Cond.fieldLink RX5 29 "MirrorTowerModel" "limit" "[I", Cond.fieldLink RX5 91 "MirrorTowerModel" "mirrors" "I", Cond.fieldLink RX5 47 "MirrorTowerModel" "order" "[I", Cond.fieldLink RX5 59 "MirrorTowerModel" "at" "[I"]
def wsX5_plan_r2 : List Cond := [Cond.fieldLink RX5 50 "MirrorTowerModel" "power" "[I", Cond.methodLink RX5 141 yX5_orders, Cond.instanceMethod yX5_orders, Cond.selects RX5 yX5_orders yX5_orders, Cond.code yX5_orders cX5_orders 5 none, Cond.methodLink RX5 137 yX5_powerOf, Cond.instanceMethod yX5_powerOf, Cond.selects RX5 yX5_powerOf yX5_powerOf, Cond.code yX5_powerOf cX5_powerOf 6 (some .int), Cond.fieldLink RX5 38 "MirrorTowerModel" "height" "[I", Cond.fieldLink RX5 26 "MirrorTowerModel" "soil" "[I", Cond.methodLink RX5 129 Lib.Math.min.name, Cond.static Lib.Math.min.name, Cond.code Lib.Math.min.name Lib.Math.min.code 2 (some .int), Cond.methodLink RX5 126 yX5_isStowed, Cond.instanceMethod yX5_isStowed, Cond.selects RX5 yX5_isStowed yX5_isStowed, Cond.code yX5_isStowed cX5_isStowed 2 (some .boolean), Cond.fieldLink RX5 41 "MirrorTowerModel" "wind" "[I", Cond.methodLink RX5 122 yX5_shades, Cond.instanceMethod yX5_shades, Cond.selects RX5 yX5_shades yX5_shades, Cond.code yX5_shades cX5_shades 6 (some .int), Cond.fieldLink RX5 19 "MirrorTowerModel" "x" "[I"]
def wsX5_plan_r3 : List Cond := [Cond.fieldLink RX5 32 "MirrorTowerModel" "sunX" "[I", Cond.fieldLink RX5 23 "MirrorTowerModel" "y" "[I", Cond.fieldLink RX5 35 "MirrorTowerModel" "sunY" "[I", Cond.methodLink RX5 119 yX5_blocks, Cond.instanceMethod yX5_blocks, Cond.selects RX5 yX5_blocks yX5_blocks, Cond.code yX5_blocks cX5_blocks 9 (some .int), Cond.methodLink RX5 157 yX5_state, Cond.static yX5_state, Cond.code yX5_state cX5_state 3 (some .int), Cond.methodLink RX5 161 yX5_filled, Cond.static yX5_filled, Cond.code yX5_filled cX5_filled 2 (some .int), Cond.methodLink RX5 164 yX5_takes, Cond.static yX5_takes, Cond.code yX5_takes cX5_takes 1 (some .int)]
def wsX5_plan : List Cond := .code yX5_plan cX5_plan 8 (some .int) :: ((wsX5_plan_r1 ++ (wsX5_plan_r2 ++ wsX5_plan_r3)) ++ wsX50)
def wsX5_runs : List Cond := .code yX5_runs cX5_runs 2 (some .int) :: ([.fieldLink RX5 1 "MirrorTowerModel" "thrown" "I", .fieldLink RX5 75 "MirrorTowerModel" "planFrom" "I", .fieldLink RX5 71 "MirrorTowerModel" "isRun" "[Z", .methodLink RX5 94 yX5_in, .static yX5_in, .initialized RX5, .code yX5_in cX5_in 3 (some .boolean)] ++ wsX50)
def wsX5_step_r1 : List Cond := [Cond.fieldLink RX5 1 "MirrorTowerModel" "thrown" "I", Cond.fieldLink RX5 168 "MirrorTowerModel" "store" "I", Cond.fieldLink RX5 154 "MirrorTowerModel" "now" "I", Cond.fieldLink RX5 171 "MirrorTowerModel" "isWarm" "Z", Cond.fieldLink RX5 44 "MirrorTowerModel" "price" "[I", Cond.fieldLink RX5 175 "MirrorTowerModel" "earned" "I", Cond.fieldLink RX5 91 "MirrorTowerModel" "mirrors" "I", Cond.fieldLink RX5 26 "MirrorTowerModel" "soil" "[I", Cond.fieldLink RX5 16 "MirrorTowerModel" "dust" "I", Cond.methodLink RX5 129 Lib.Math.min.name, Cond.static Lib.Math.min.name, Cond.initialized "java/lang/Math", Cond.code Lib.Math.min.name Lib.Math.min.code 2 (some .int), Cond.methodLink RX5 145 yX5_aims, Cond.instanceMethod yX5_aims, Cond.selects RX5 yX5_aims yX5_aims, Cond.initialized RX5, Cond.code yX5_aims cX5_aims 8 (some .int), Cond.fieldLink RX5 53 "MirrorTowerModel" "left" "[I", Cond.fieldLink RX5 29 "MirrorTowerModel" "limit" "[I", Cond.fieldLink RX5 47 "MirrorTowerModel" "order" "[I", Cond.fieldLink RX5 59 "MirrorTowerModel" "at" "[I", Cond.fieldLink RX5 50 "MirrorTowerModel" "power" "[I", Cond.methodLink RX5 141 yX5_orders]
def wsX5_step_r2 : List Cond := [Cond.instanceMethod yX5_orders, Cond.selects RX5 yX5_orders yX5_orders, Cond.code yX5_orders cX5_orders 5 none, Cond.methodLink RX5 137 yX5_powerOf, Cond.instanceMethod yX5_powerOf, Cond.selects RX5 yX5_powerOf yX5_powerOf, Cond.code yX5_powerOf cX5_powerOf 6 (some .int), Cond.fieldLink RX5 38 "MirrorTowerModel" "height" "[I", Cond.methodLink RX5 134 Lib.Math.max.name, Cond.static Lib.Math.max.name, Cond.code Lib.Math.max.name Lib.Math.max.code 2 (some .int), Cond.methodLink RX5 126 yX5_isStowed, Cond.instanceMethod yX5_isStowed, Cond.selects RX5 yX5_isStowed yX5_isStowed, Cond.code yX5_isStowed cX5_isStowed 2 (some .boolean), Cond.fieldLink RX5 41 "MirrorTowerModel" "wind" "[I", Cond.methodLink RX5 122 yX5_shades, Cond.instanceMethod yX5_shades, Cond.selects RX5 yX5_shades yX5_shades, Cond.code yX5_shades cX5_shades 6 (some .int), Cond.fieldLink RX5 19 "MirrorTowerModel" "x" "[I", Cond.fieldLink RX5 32 "MirrorTowerModel" "sunX" "[I", Cond.fieldLink RX5 23 "MirrorTowerModel" "y" "[I", Cond.fieldLink RX5 35 "MirrorTowerModel" "sunY" "[I"]
def wsX5_step_r3 : List Cond := [Cond.methodLink RX5 119 yX5_blocks, Cond.instanceMethod yX5_blocks, Cond.selects RX5 yX5_blocks yX5_blocks, Cond.code yX5_blocks cX5_blocks 9 (some .int), Cond.methodLink RX5 161 yX5_filled, Cond.static yX5_filled, Cond.code yX5_filled cX5_filled 2 (some .int), Cond.methodLink RX5 164 yX5_takes, Cond.static yX5_takes, Cond.code yX5_takes cX5_takes 1 (some .int), Cond.methodLink RX5 98 yX5_refused, Cond.instanceMethod yX5_refused, Cond.selects RX5 yX5_refused yX5_refused, Cond.code yX5_refused cX5_refused 2 (some .int), Cond.fieldLink RX5 7 "MirrorTowerModel" "trouble" "I", Cond.methodLink RX5 102 yX5_done, Cond.instanceMethod yX5_done, Cond.selects RX5 yX5_done yX5_done, Cond.code yX5_done cX5_done 2 (some .int)]
def wsX5_step : List Cond := .code yX5_step cX5_step 5 (some .int) :: ((wsX5_step_r1 ++ (wsX5_step_r2 ++ wsX5_step_r3)) ++ wsX50)
def wsX5_earned : List Cond := .code yX5_earned cX5_earned 1 (some .int) :: ([.fieldLink RX5 1 "MirrorTowerModel" "thrown" "I", .fieldLink RX5 175 "MirrorTowerModel" "earned" "I"] ++ wsX50)
def wsX5_bits : List Cond := .code yX5_bits cX5_bits 5 (some .int) :: ([])
def wsX5_shot : List Cond := .code yX5_shot cX5_shot 6 (some .int) :: ([.fieldLink RX5 1 "MirrorTowerModel" "thrown" "I", .constantLong RX5 178 (4294967295), .fieldLink RX5 91 "MirrorTowerModel" "mirrors" "I", .constantLong RX5 184 (-1), .fieldLink RX5 186 "MirrorTowerModel" "shots" "I", .fieldLink RX5 81 "MirrorTowerModel" "shot" "[J", .fieldLink RX5 85 "MirrorTowerModel" "hits" "[I", .methodLink RX5 180 yX5_bits, .static yX5_bits, .initialized RX5, .code yX5_bits cX5_bits 5 (some .int), .methodLink RX5 98 yX5_refused, .instanceMethod yX5_refused, .selects RX5 yX5_refused yX5_refused, .code yX5_refused cX5_refused 2 (some .int), .fieldLink RX5 7 "MirrorTowerModel" "trouble" "I", .methodLink RX5 102 yX5_done, .instanceMethod yX5_done, .selects RX5 yX5_done yX5_done, .code yX5_done cX5_done 2 (some .int)] ++ wsX50)
def wsX5_forget : List Cond := .code yX5_forget cX5_forget 2 (some .int) :: ([.fieldLink RX5 1 "MirrorTowerModel" "thrown" "I", .fieldLink RX5 186 "MirrorTowerModel" "shots" "I"] ++ wsX50)
def wsX5_agrees : List Cond := .code yX5_agrees cX5_agrees 5 (some .boolean) :: ([.fieldLink RX5 186 "MirrorTowerModel" "shots" "I", .fieldLink RX5 81 "MirrorTowerModel" "shot" "[J", .constantLong RX5 184 (-1), .fieldLink RX5 85 "MirrorTowerModel" "hits" "[I", .methodLink RX5 180 yX5_bits, .static yX5_bits, .initialized RX5, .code yX5_bits cX5_bits 5 (some .int)] ++ wsX50)
def wsX5_agreeing : List Cond := .code yX5_agreeing cX5_agreeing 4 (some .int) :: ([.fieldLink RX5 88 "MirrorTowerModel" "inSets" "[I", .fieldLink RX5 91 "MirrorTowerModel" "mirrors" "I", .methodLink RX5 189 yX5_agrees, .instanceMethod yX5_agrees, .selects RX5 yX5_agrees yX5_agrees, .initialized RX5, .code yX5_agrees cX5_agrees 5 (some .boolean), .fieldLink RX5 186 "MirrorTowerModel" "shots" "I", .fieldLink RX5 81 "MirrorTowerModel" "shot" "[J", .constantLong RX5 184 (-1), .fieldLink RX5 85 "MirrorTowerModel" "hits" "[I", .methodLink RX5 180 yX5_bits, .static yX5_bits, .code yX5_bits cX5_bits 5 (some .int)] ++ wsX50)
def wsX5_agree : List Cond := .code yX5_agree cX5_agree 1 (some .int) :: ([.fieldLink RX5 1 "MirrorTowerModel" "thrown" "I", .methodLink RX5 193 yX5_agreeing, .instanceMethod yX5_agreeing, .selects RX5 yX5_agreeing yX5_agreeing, .initialized RX5, .code yX5_agreeing cX5_agreeing 4 (some .int), .fieldLink RX5 88 "MirrorTowerModel" "inSets" "[I", .fieldLink RX5 91 "MirrorTowerModel" "mirrors" "I", .methodLink RX5 189 yX5_agrees, .instanceMethod yX5_agrees, .selects RX5 yX5_agrees yX5_agrees, .code yX5_agrees cX5_agrees 5 (some .boolean), .fieldLink RX5 186 "MirrorTowerModel" "shots" "I", .fieldLink RX5 81 "MirrorTowerModel" "shot" "[J", .constantLong RX5 184 (-1), .fieldLink RX5 85 "MirrorTowerModel" "hits" "[I", .methodLink RX5 180 yX5_bits, .static yX5_bits, .code yX5_bits cX5_bits 5 (some .int)] ++ wsX50)
def wsX5_stuck : List Cond := .code yX5_stuck cX5_stuck 3 (some .int) :: ([.fieldLink RX5 1 "MirrorTowerModel" "thrown" "I", .fieldLink RX5 88 "MirrorTowerModel" "inSets" "[I", .methodLink RX5 116 yX5_isMirror, .instanceMethod yX5_isMirror, .selects RX5 yX5_isMirror yX5_isMirror, .initialized RX5, .code yX5_isMirror cX5_isMirror 2 (some .boolean), .fieldLink RX5 91 "MirrorTowerModel" "mirrors" "I", .methodLink RX5 193 yX5_agreeing, .instanceMethod yX5_agreeing, .selects RX5 yX5_agreeing yX5_agreeing, .code yX5_agreeing cX5_agreeing 4 (some .int), .methodLink RX5 189 yX5_agrees, .instanceMethod yX5_agrees, .selects RX5 yX5_agrees yX5_agrees, .code yX5_agrees cX5_agrees 5 (some .boolean), .fieldLink RX5 186 "MirrorTowerModel" "shots" "I", .fieldLink RX5 81 "MirrorTowerModel" "shot" "[J", .constantLong RX5 184 (-1), .fieldLink RX5 85 "MirrorTowerModel" "hits" "[I", .methodLink RX5 180 yX5_bits, .static yX5_bits, .code yX5_bits cX5_bits 5 (some .int)] ++ wsX50)
def wsX5_unsure : List Cond := .code yX5_unsure cX5_unsure 4 (some .int) :: ([.fieldLink RX5 1 "MirrorTowerModel" "thrown" "I", .fieldLink RX5 91 "MirrorTowerModel" "mirrors" "I", .fieldLink RX5 88 "MirrorTowerModel" "inSets" "[I", .methodLink RX5 193 yX5_agreeing, .instanceMethod yX5_agreeing, .selects RX5 yX5_agreeing yX5_agreeing, .initialized RX5, .code yX5_agreeing cX5_agreeing 4 (some .int), .methodLink RX5 189 yX5_agrees, .instanceMethod yX5_agrees, .selects RX5 yX5_agrees yX5_agrees, .code yX5_agrees cX5_agrees 5 (some .boolean), .fieldLink RX5 186 "MirrorTowerModel" "shots" "I", .fieldLink RX5 81 "MirrorTowerModel" "shot" "[J", .constantLong RX5 184 (-1), .fieldLink RX5 85 "MirrorTowerModel" "hits" "[I", .methodLink RX5 180 yX5_bits, .static yX5_bits, .code yX5_bits cX5_bits 5 (some .int)] ++ wsX50)
def wsX5_count : List Cond := .code yX5_count cX5_count 4 (some .int) :: ([.fieldLink RX5 1 "MirrorTowerModel" "thrown" "I", .fieldLink RX5 91 "MirrorTowerModel" "mirrors" "I", .fieldLink RX5 154 "MirrorTowerModel" "now" "I", .fieldLink RX5 168 "MirrorTowerModel" "store" "I", .fieldLink RX5 171 "MirrorTowerModel" "isWarm" "Z", .fieldLink RX5 186 "MirrorTowerModel" "shots" "I", .fieldLink RX5 26 "MirrorTowerModel" "soil" "[I"] ++ wsX50)
def wsX5_trouble : List Cond := .code yX5_trouble cX5_trouble 1 (some .int) :: ([.fieldLink RX5 1 "MirrorTowerModel" "thrown" "I", .fieldLink RX5 7 "MirrorTowerModel" "trouble" "I"] ++ wsX50)
def wsJ9_max_7cf53 : List Cond := .code yJ9_max_7cf53 cJ9_max_7cf53 2 (some .int) :: ([])
def wsJ9_min_7cf53 : List Cond := .code yJ9_min_7cf53 cJ9_min_7cf53 2 (some .int) :: ([])
def wsL_law_r1 : List Cond := [Cond.classLink RL 7 RX4, Cond.instantiable RX4 5, Cond.initialized RX4, Cond.classLink RL 10 RX5, Cond.instantiable RX5 33, Cond.initialized RX5, Cond.methodLink RL 9 yX4_init, Cond.instanceMethod yX4_init, Cond.code yX4_init cX4_init 1 none, Cond.methodLink RX4 1 objectInit, Cond.instanceMethod objectInit, Cond.code objectInit ⟨#[0xb1]⟩ 1 none, Cond.classLink RX4 7 RX1, Cond.instantiable RX1 11, Cond.initialized RX1, Cond.fieldLink RX4 10 "MirrorTower" "field" "LMirrorTower$Field;", Cond.classLink RX4 16 RX0, Cond.instantiable RX0 11, Cond.initialized RX0, Cond.fieldLink RX4 21 "MirrorTower" "cells" "LMirrorTower$Face;", Cond.classLink RX4 25 RX3, Cond.instantiable RX3 14, Cond.initialized RX3, Cond.fieldLink RX4 30 "MirrorTower" "store" "LMirrorTower$Store;"]
def wsL_law_r2 : List Cond := [Cond.classLink RX4 34 RX2, Cond.instantiable RX2 5, Cond.initialized RX2, Cond.fieldLink RX4 37 "MirrorTower" "shots" "LMirrorTower$Shots;", Cond.fieldLink RX4 41 "MirrorTower" "trouble" "I", Cond.methodLink RX4 9 yX1_init, Cond.instanceMethod yX1_init, Cond.code yX1_init cX1_init 1 none, Cond.methodLink RX1 3 objectInit, Cond.arrayClass .int, Cond.fieldLink RX1 9 "MirrorTower$Field" "taken" "[I", Cond.fieldLink RX1 15 "MirrorTower$Field" "xs" "[I", Cond.fieldLink RX1 18 "MirrorTower$Field" "ys" "[I", Cond.fieldLink RX1 21 "MirrorTower$Field" "blockers" "[I", Cond.fieldLink RX1 24 "MirrorTower$Field" "soils" "[I", Cond.fieldLink RX1 27 "MirrorTower$Field" "stepsX" "[I", Cond.fieldLink RX1 30 "MirrorTower$Field" "stepsY" "[I", Cond.fieldLink RX1 33 "MirrorTower$Field" "heights" "[I", Cond.fieldLink RX1 36 "MirrorTower$Field" "winds" "[I", Cond.fieldLink RX1 39 "MirrorTower$Field" "dustAnHour" "I", Cond.methodLink RX4 18 yX0_init, Cond.instanceMethod yX0_init, Cond.code yX0_init cX0_init 2 none, Cond.methodLink RX0 5 objectInit]
def wsL_law_r3 : List Cond := [Cond.fieldLink RX0 11 "MirrorTower$Face" "field" "LMirrorTower$Field;", Cond.fieldLink RX0 15 "MirrorTower$Face" "limits" "[I", Cond.fieldLink RX0 25 "MirrorTower$Face" "order" "[I", Cond.fieldLink RX0 28 "MirrorTower$Face" "powers" "[I", Cond.fieldLink RX0 31 "MirrorTower$Face" "cellOf" "[I", Cond.fieldLink RX0 34 "MirrorTower$Face" "left" "[I", Cond.fieldLink RX0 37 "MirrorTower$Face" "keptCells" "[I", Cond.fieldLink RX0 40 "MirrorTower$Face" "keptPowers" "[I", Cond.fieldLink RX0 43 "MirrorTower$Face" "setPowers" "[I", Cond.arrayClass .boolean, Cond.fieldLink RX0 46 "MirrorTower$Face" "fits" "[Z", Cond.methodLink RX0 19 yJ7_fill_53178, Cond.static yJ7_fill_53178, Cond.initialized RJ7, Cond.code yJ7_fill_53178 cJ7_fill_53178 4 none, Cond.methodLink RX4 27 yX3_init, Cond.instanceMethod yX3_init, Cond.code yX3_init cX3_init 3 none, Cond.methodLink RX3 3 objectInit, Cond.fieldLink RX3 9 "MirrorTower$Store" "field" "LMirrorTower$Field;", Cond.fieldLink RX3 15 "MirrorTower$Store" "cells" "LMirrorTower$Face;", Cond.fieldLink RX3 19 "MirrorTower$Store" "prices" "[I", Cond.fieldLink RX3 29 "MirrorTower$Store" "gains" "[I", Cond.fieldLink RX3 32 "MirrorTower$Store" "laterGains" "[I"]
def wsL_law_r4 : List Cond := [Cond.fieldLink RX3 35 "MirrorTower$Store" "choices" "[I", Cond.fieldLink RX3 38 "MirrorTower$Store" "unitsIn" "[I", Cond.fieldLink RX3 41 "MirrorTower$Store" "mostHeld" "[I", Cond.fieldLink RX3 44 "MirrorTower$Store" "plannedFrom" "I", Cond.methodLink RX3 23 yJ7_fill_53178, Cond.methodLink RX4 36 yX2_init, Cond.instanceMethod yX2_init, Cond.code yX2_init cX2_init 1 none, Cond.methodLink RX2 3 objectInit, Cond.fieldLink RX2 9 "MirrorTower$Shots" "marks" "[I", Cond.fieldLink RX2 15 "MirrorTower$Shots" "setsWith" "[I", Cond.methodLink RL 12 yX5_init, Cond.instanceMethod yX5_init, Cond.code yX5_init cX5_init 2 none, Cond.methodLink RX5 10 objectInit, Cond.fieldLink RX5 16 "MirrorTowerModel" "dust" "I", Cond.fieldLink RX5 19 "MirrorTowerModel" "x" "[I", Cond.fieldLink RX5 23 "MirrorTowerModel" "y" "[I", Cond.fieldLink RX5 26 "MirrorTowerModel" "soil" "[I", Cond.fieldLink RX5 29 "MirrorTowerModel" "limit" "[I", Cond.fieldLink RX5 32 "MirrorTowerModel" "sunX" "[I", Cond.fieldLink RX5 35 "MirrorTowerModel" "sunY" "[I", Cond.fieldLink RX5 38 "MirrorTowerModel" "height" "[I", Cond.fieldLink RX5 41 "MirrorTowerModel" "wind" "[I"]
def wsL_law_r5 : List Cond := [Cond.fieldLink RX5 44 "MirrorTowerModel" "price" "[I", Cond.fieldLink RX5 47 "MirrorTowerModel" "order" "[I", Cond.fieldLink RX5 50 "MirrorTowerModel" "power" "[I", Cond.fieldLink RX5 53 "MirrorTowerModel" "left" "[I", Cond.fieldLink RX5 56 "MirrorTowerModel" "aimed" "[I", Cond.fieldLink RX5 59 "MirrorTowerModel" "at" "[I", Cond.fieldLink RX5 62 "MirrorTowerModel" "atFace" "[I", Cond.fieldLink RX5 65 "MirrorTowerModel" "aimedMirrors" "I", Cond.fieldLink RX5 68 "MirrorTowerModel" "worth" "[I", Cond.fieldLink RX5 71 "MirrorTowerModel" "isRun" "[Z", Cond.fieldLink RX5 75 "MirrorTowerModel" "planFrom" "I", Cond.fieldLink RX5 78 "MirrorTowerModel" "comeUnits" "[I", Cond.arrayClass .long, Cond.fieldLink RX5 81 "MirrorTowerModel" "shot" "[J", Cond.fieldLink RX5 85 "MirrorTowerModel" "hits" "[I", Cond.fieldLink RX5 88 "MirrorTowerModel" "inSets" "[I", Cond.methodLink RL 13 yX4_mirror, Cond.instanceMethod yX4_mirror, Cond.selects RX4 yX4_mirror yX4_mirror, Cond.code yX4_mirror cX4_mirror 4 (some .int), Cond.methodLink RX4 45 yX4_isWithin, Cond.static yX4_isWithin, Cond.code yX4_isWithin cX4_isWithin 3 (some .boolean), Cond.methodLink RX4 49 yX4_refused]
def wsL_law_r6 : List Cond := [Cond.instanceMethod yX4_refused, Cond.selects RX4 yX4_refused yX4_refused, Cond.code yX4_refused cX4_refused 2 (some .int), Cond.methodLink RX4 53 yX1_isTaken, Cond.instanceMethod yX1_isTaken, Cond.selects RX1 yX1_isTaken yX1_isTaken, Cond.code yX1_isTaken cX1_isTaken 3 (some .boolean), Cond.methodLink RX4 57 yX1_size, Cond.instanceMethod yX1_size, Cond.selects RX1 yX1_size yX1_size, Cond.code yX1_size cX1_size 1 (some .int), Cond.fieldLink RX1 43 "MirrorTower$Field" "size" "I", Cond.methodLink RX4 61 yX1_place, Cond.instanceMethod yX1_place, Cond.selects RX1 yX1_place yX1_place, Cond.code yX1_place cX1_place 5 (some .int), Cond.methodLink RX1 46 yX1_isBetween, Cond.instanceMethod yX1_isBetween, Cond.selects RX1 yX1_isBetween yX1_isBetween, Cond.code yX1_isBetween cX1_isBetween 8 (some .boolean), Cond.methodLink RX4 65 yX4_granted, Cond.instanceMethod yX4_granted, Cond.selects RX4 yX4_granted yX4_granted, Cond.code yX4_granted cX4_granted 2 (some .int)]
def wsL_law_r7 : List Cond := [Cond.methodLink RL 17 yX5_mirror, Cond.instanceMethod yX5_mirror, Cond.selects RX5 yX5_mirror yX5_mirror, Cond.code yX5_mirror cX5_mirror 5 (some .int), Cond.fieldLink RX5 1 "MirrorTowerModel" "thrown" "I", Cond.fieldLink RX5 91 "MirrorTowerModel" "mirrors" "I", Cond.methodLink RX5 94 yX5_in, Cond.static yX5_in, Cond.code yX5_in cX5_in 3 (some .boolean), Cond.methodLink RX5 98 yX5_refused, Cond.instanceMethod yX5_refused, Cond.selects RX5 yX5_refused yX5_refused, Cond.code yX5_refused cX5_refused 2 (some .int), Cond.fieldLink RX5 7 "MirrorTowerModel" "trouble" "I", Cond.methodLink RX5 102 yX5_done, Cond.instanceMethod yX5_done, Cond.selects RX5 yX5_done yX5_done, Cond.code yX5_done cX5_done 2 (some .int), Cond.methodLink RL 18 yX4_sun, Cond.instanceMethod yX4_sun, Cond.selects RX4 yX4_sun yX4_sun, Cond.code yX4_sun cX4_sun 6 (some .boolean), Cond.methodLink RX4 68 yX4_isHour, Cond.static yX4_isHour]
def wsL_law_r8 : List Cond := [Cond.code yX4_isHour cX4_isHour 1 (some .boolean), Cond.methodLink RX4 72 yX4_denied, Cond.instanceMethod yX4_denied, Cond.selects RX4 yX4_denied yX4_denied, Cond.code yX4_denied cX4_denied 2 (some .boolean), Cond.methodLink RX4 75 yX1_setSun, Cond.instanceMethod yX1_setSun, Cond.selects RX1 yX1_setSun yX1_setSun, Cond.code yX1_setSun cX1_setSun 5 none, Cond.methodLink RX4 79 yX4_allowed, Cond.instanceMethod yX4_allowed, Cond.selects RX4 yX4_allowed yX4_allowed, Cond.code yX4_allowed cX4_allowed 1 (some .boolean), Cond.methodLink RL 22 yX5_sun, Cond.instanceMethod yX5_sun, Cond.selects RX5 yX5_sun yX5_sun, Cond.code yX5_sun cX5_sun 5 (some .boolean), Cond.methodLink RX5 105 yX5_isHour, Cond.static yX5_isHour, Cond.code yX5_isHour cX5_isHour 1 (some .boolean), Cond.methodLink RX5 109 yX5_denied, Cond.instanceMethod yX5_denied, Cond.selects RX5 yX5_denied yX5_denied, Cond.code yX5_denied cX5_denied 2 (some .boolean)]
def wsL_law_r9 : List Cond := [Cond.methodLink RX5 112 yX5_granted, Cond.instanceMethod yX5_granted, Cond.selects RX5 yX5_granted yX5_granted, Cond.code yX5_granted cX5_granted 1 (some .boolean), Cond.methodLink RL 23 yX4_limit, Cond.instanceMethod yX4_limit, Cond.selects RX4 yX4_limit yX4_limit, Cond.code yX4_limit cX4_limit 3 (some .boolean), Cond.methodLink RX4 83 yX4_isCell, Cond.static yX4_isCell, Cond.code yX4_isCell cX4_isCell 1 (some .boolean), Cond.methodLink RX4 86 yX0_setLimit, Cond.instanceMethod yX0_setLimit, Cond.selects RX0 yX0_setLimit yX0_setLimit, Cond.code yX0_setLimit cX0_setLimit 3 none, Cond.methodLink RL 27 yX5_limit, Cond.instanceMethod yX5_limit, Cond.selects RX5 yX5_limit yX5_limit, Cond.code yX5_limit cX5_limit 3 (some .boolean), Cond.methodLink RL 28 yX4_wind, Cond.instanceMethod yX4_wind, Cond.selects RX4 yX4_wind yX4_wind, Cond.code yX4_wind cX4_wind 3 (some .boolean), Cond.methodLink RX4 90 yX1_setWind]
def wsL_law_r10 : List Cond := [Cond.instanceMethod yX1_setWind, Cond.selects RX1 yX1_setWind yX1_setWind, Cond.code yX1_setWind cX1_setWind 3 none, Cond.methodLink RL 31 yX5_wind, Cond.instanceMethod yX5_wind, Cond.selects RX5 yX5_wind yX5_wind, Cond.code yX5_wind cX5_wind 3 (some .boolean), Cond.methodLink RL 32 yX4_price, Cond.instanceMethod yX4_price, Cond.selects RX4 yX4_price yX4_price, Cond.code yX4_price cX4_price 3 (some .boolean), Cond.methodLink RX4 93 yX3_setPrice, Cond.instanceMethod yX3_setPrice, Cond.selects RX3 yX3_setPrice yX3_setPrice, Cond.code yX3_setPrice cX3_setPrice 3 none, Cond.methodLink RL 35 yX5_price, Cond.instanceMethod yX5_price, Cond.selects RX5 yX5_price yX5_price, Cond.code yX5_price cX5_price 3 (some .boolean), Cond.methodLink RL 36 yX4_dust, Cond.instanceMethod yX4_dust, Cond.selects RX4 yX4_dust yX4_dust, Cond.code yX4_dust cX4_dust 2 (some .boolean), Cond.methodLink RX4 96 yX1_setDust]
def wsL_law_r11 : List Cond := [Cond.instanceMethod yX1_setDust, Cond.selects RX1 yX1_setDust yX1_setDust, Cond.code yX1_setDust cX1_setDust 2 none, Cond.methodLink RL 40 yX5_dust, Cond.instanceMethod yX5_dust, Cond.selects RX5 yX5_dust yX5_dust, Cond.code yX5_dust cX5_dust 2 (some .boolean), Cond.methodLink RL 41 yX4_shaded, Cond.instanceMethod yX4_shaded, Cond.selects RX4 yX4_shaded yX4_shaded, Cond.code yX4_shaded cX4_shaded 4 (some .int), Cond.methodLink RX4 100 yX4_isMirror, Cond.instanceMethod yX4_isMirror, Cond.selects RX4 yX4_isMirror yX4_isMirror, Cond.code yX4_isMirror cX4_isMirror 2 (some .boolean), Cond.methodLink RX4 103 yX1_blockersOf, Cond.instanceMethod yX1_blockersOf, Cond.selects RX1 yX1_blockersOf yX1_blockersOf, Cond.code yX1_blockersOf cX1_blockersOf 2 (some .int), Cond.methodLink RX4 106 yX1_shadersOf, Cond.instanceMethod yX1_shadersOf, Cond.selects RX1 yX1_shadersOf yX1_shadersOf, Cond.code yX1_shadersOf cX1_shadersOf 7 (some .int), Cond.methodLink RL 45 yX5_shaded]
def wsL_law_r12 : List Cond := [Cond.instanceMethod yX5_shaded, Cond.selects RX5 yX5_shaded yX5_shaded, Cond.code yX5_shaded cX5_shaded 4 (some .int), Cond.methodLink RX5 116 yX5_isMirror, Cond.instanceMethod yX5_isMirror, Cond.selects RX5 yX5_isMirror yX5_isMirror, Cond.code yX5_isMirror cX5_isMirror 2 (some .boolean), Cond.methodLink RX5 119 yX5_blocks, Cond.instanceMethod yX5_blocks, Cond.selects RX5 yX5_blocks yX5_blocks, Cond.code yX5_blocks cX5_blocks 9 (some .int), Cond.methodLink RX5 122 yX5_shades, Cond.instanceMethod yX5_shades, Cond.selects RX5 yX5_shades yX5_shades, Cond.code yX5_shades cX5_shades 6 (some .int), Cond.methodLink RL 46 yX4_power, Cond.instanceMethod yX4_power, Cond.selects RX4 yX4_power yX4_power, Cond.code yX4_power cX4_power 3 (some .int), Cond.methodLink RX4 109 yX1_powerOf, Cond.instanceMethod yX1_powerOf, Cond.selects RX1 yX1_powerOf yX1_powerOf, Cond.code yX1_powerOf cX1_powerOf 6 (some .int), Cond.methodLink RX1 58 Lib.Math.max.name]
def wsL_law_r13 : List Cond := [Cond.static Lib.Math.max.name, Cond.initialized "java/lang/Math", Cond.code Lib.Math.max.name Lib.Math.max.code 2 (some .int), Cond.methodLink RX1 50 yX1_isStowed, Cond.instanceMethod yX1_isStowed, Cond.selects RX1 yX1_isStowed yX1_isStowed, Cond.code yX1_isStowed cX1_isStowed 2 (some .boolean), Cond.methodLink RX1 54 yX1_soilOf, Cond.instanceMethod yX1_soilOf, Cond.selects RX1 yX1_soilOf yX1_soilOf, Cond.code yX1_soilOf cX1_soilOf 3 (some .int), Cond.methodLink RX1 66 Lib.Math.min.name, Cond.static Lib.Math.min.name, Cond.code Lib.Math.min.name Lib.Math.min.code 2 (some .int), Cond.methodLink RX1 63 yX1_shadersOf, Cond.methodLink RL 49 yX5_power, Cond.instanceMethod yX5_power, Cond.selects RX5 yX5_power yX5_power, Cond.code yX5_power cX5_power 3 (some .int), Cond.methodLink RX5 137 yX5_powerOf, Cond.instanceMethod yX5_powerOf, Cond.selects RX5 yX5_powerOf yX5_powerOf, Cond.code yX5_powerOf cX5_powerOf 6 (some .int), Cond.methodLink RX5 129 Lib.Math.min.name]
def wsL_law_r14 : List Cond := [Cond.methodLink RX5 134 Lib.Math.max.name, Cond.methodLink RX5 126 yX5_isStowed, Cond.instanceMethod yX5_isStowed, Cond.selects RX5 yX5_isStowed yX5_isStowed, Cond.code yX5_isStowed cX5_isStowed 2 (some .boolean), Cond.methodLink RL 50 yX4_stowed, Cond.instanceMethod yX4_stowed, Cond.selects RX4 yX4_stowed yX4_stowed, Cond.code yX4_stowed cX4_stowed 2 (some .int), Cond.methodLink RX4 113 yX1_isStowed, Cond.methodLink RL 54 yX5_stowed, Cond.instanceMethod yX5_stowed, Cond.selects RX5 yX5_stowed yX5_stowed, Cond.code yX5_stowed cX5_stowed 2 (some .int), Cond.methodLink RL 55 yX4_soil, Cond.instanceMethod yX4_soil, Cond.selects RX4 yX4_soil yX4_soil, Cond.code yX4_soil cX4_soil 2 (some .int), Cond.methodLink RX4 116 yX1_soilOf, Cond.methodLink RL 58 yX5_soil, Cond.instanceMethod yX5_soil, Cond.selects RX5 yX5_soil yX5_soil, Cond.code yX5_soil cX5_soil 2 (some .int), Cond.methodLink RL 59 yX4_wash]
def wsL_law_r15 : List Cond := [Cond.instanceMethod yX4_wash, Cond.selects RX4 yX4_wash yX4_wash, Cond.code yX4_wash cX4_wash 2 (some .int), Cond.methodLink RX4 119 yX1_washMost, Cond.instanceMethod yX1_washMost, Cond.selects RX1 yX1_washMost yX1_washMost, Cond.code yX1_washMost cX1_washMost 5 (some .int), Cond.methodLink RX1 69 yX1_mostSoiled, Cond.instanceMethod yX1_mostSoiled, Cond.selects RX1 yX1_mostSoiled yX1_mostSoiled, Cond.code yX1_mostSoiled cX1_mostSoiled 3 (some .int), Cond.methodLink RL 62 yX5_wash, Cond.instanceMethod yX5_wash, Cond.selects RX5 yX5_wash yX5_wash, Cond.code yX5_wash cX5_wash 6 (some .int), Cond.methodLink RL 63 yX4_aim, Cond.instanceMethod yX4_aim, Cond.selects RX4 yX4_aim yX4_aim, Cond.code yX4_aim cX4_aim 2 (some .int), Cond.methodLink RX4 122 yX0_keepAims, Cond.instanceMethod yX0_keepAims, Cond.selects RX0 yX0_keepAims yX0_keepAims, Cond.code yX0_keepAims cX0_keepAims 4 (some .int), Cond.fieldLink RX0 60 "MirrorTower$Face" "keptSize" "I"]
def wsL_law_r16 : List Cond := [Cond.methodLink RX0 64 arraycopyName, Cond.native arraycopyName, Cond.static arraycopyName, Cond.initialized "java/lang/System", Cond.methodLink RX0 50 yX0_aimAll, Cond.instanceMethod yX0_aimAll, Cond.selects RX0 yX0_aimAll yX0_aimAll, Cond.code yX0_aimAll cX0_aimAll 7 (some .int), Cond.methodLink RX0 70 yX0_readPowers, Cond.instanceMethod yX0_readPowers, Cond.selects RX0 yX0_readPowers yX0_readPowers, Cond.code yX0_readPowers cX0_readPowers 4 none, Cond.methodLink RX0 54 yX1_size, Cond.methodLink RX0 80 yX1_powerOf, Cond.methodLink RX0 74 yX0_rank, Cond.instanceMethod yX0_rank, Cond.selects RX0 yX0_rank yX0_rank, Cond.code yX0_rank cX0_rank 3 none, Cond.methodLink RX0 77 yX0_roomiestCell, Cond.instanceMethod yX0_roomiestCell, Cond.selects RX0 yX0_roomiestCell yX0_roomiestCell, Cond.code yX0_roomiestCell cX0_roomiestCell 3 (some .int), Cond.methodLink RL 66 yX5_aim, Cond.instanceMethod yX5_aim]
def wsL_law_r17 : List Cond := [Cond.selects RX5 yX5_aim yX5_aim, Cond.code yX5_aim cX5_aim 4 (some .int), Cond.methodLink RX5 145 yX5_aims, Cond.instanceMethod yX5_aims, Cond.selects RX5 yX5_aims yX5_aims, Cond.code yX5_aims cX5_aims 8 (some .int), Cond.methodLink RX5 141 yX5_orders, Cond.instanceMethod yX5_orders, Cond.selects RX5 yX5_orders yX5_orders, Cond.code yX5_orders cX5_orders 5 none, Cond.methodLink RL 67 yX4_aimed, Cond.instanceMethod yX4_aimed, Cond.selects RX4 yX4_aimed yX4_aimed, Cond.code yX4_aimed cX4_aimed 2 (some .int), Cond.methodLink RX4 125 yX0_keptCellOf, Cond.instanceMethod yX0_keptCellOf, Cond.selects RX0 yX0_keptCellOf yX0_keptCellOf, Cond.code yX0_keptCellOf cX0_keptCellOf 2 (some .int), Cond.methodLink RL 70 yX5_aimed, Cond.instanceMethod yX5_aimed, Cond.selects RX5 yX5_aimed yX5_aimed, Cond.code yX5_aimed cX5_aimed 2 (some .int), Cond.methodLink RL 71 yX4_face, Cond.instanceMethod yX4_face]
def wsL_law_r18 : List Cond := [Cond.selects RX4 yX4_face yX4_face, Cond.code yX4_face cX4_face 2 (some .int), Cond.methodLink RX4 128 yX0_keptPowerAt, Cond.instanceMethod yX0_keptPowerAt, Cond.selects RX0 yX0_keptPowerAt yX0_keptPowerAt, Cond.code yX0_keptPowerAt cX0_keptPowerAt 2 (some .int), Cond.methodLink RL 74 yX5_face, Cond.instanceMethod yX5_face, Cond.selects RX5 yX5_face yX5_face, Cond.code yX5_face cX5_face 2 (some .int), Cond.methodLink RL 75 yX4_best, Cond.instanceMethod yX4_best, Cond.selects RX4 yX4_best yX4_best, Cond.code yX4_best cX4_best 2 (some .int), Cond.methodLink RX4 131 yX0_bestHeat, Cond.instanceMethod yX0_bestHeat, Cond.selects RX0 yX0_bestHeat yX0_bestHeat, Cond.code yX0_bestHeat cX0_bestHeat 6 (some .int), Cond.methodLink RX0 84 Lib.Math.min.name, Cond.methodLink RX0 96 Lib.Math.max.name, Cond.methodLink RX0 89 yX0_addUpSets, Cond.instanceMethod yX0_addUpSets, Cond.selects RX0 yX0_addUpSets yX0_addUpSets, Cond.code yX0_addUpSets cX0_addUpSets 5 none]
def wsL_law_r19 : List Cond := [Cond.methodLink RX0 93 yX0_widen, Cond.instanceMethod yX0_widen, Cond.selects RX0 yX0_widen yX0_widen, Cond.code yX0_widen cX0_widen 5 none, Cond.methodLink RL 78 yX5_best, Cond.instanceMethod yX5_best, Cond.selects RX5 yX5_best yX5_best, Cond.code yX5_best cX5_best 3 (some .int), Cond.fieldLink RX5 148 "MirrorTowerModel" "most" "I", Cond.methodLink RX5 151 yX5_tries, Cond.instanceMethod yX5_tries, Cond.selects RX5 yX5_tries yX5_tries, Cond.code yX5_tries cX5_tries 5 none, Cond.methodLink RL 79 yX4_comes, Cond.instanceMethod yX4_comes, Cond.selects RX4 yX4_comes yX4_comes, Cond.code yX4_comes cX4_comes 3 (some .int), Cond.methodLink RX4 134 yX3_hourNow, Cond.instanceMethod yX3_hourNow, Cond.selects RX3 yX3_hourNow yX3_hourNow, Cond.code yX3_hourNow cX3_hourNow 1 (some .int), Cond.fieldLink RX3 48 "MirrorTower$Store" "now" "I", Cond.methodLink RX4 137 yX0_aimAll, Cond.methodLink RL 82 yX5_comes]
def wsL_law_r20 : List Cond := [Cond.instanceMethod yX5_comes, Cond.selects RX5 yX5_comes yX5_comes, Cond.code yX5_comes cX5_comes 2 (some .int), Cond.fieldLink RX5 154 "MirrorTowerModel" "now" "I", Cond.methodLink RL 83 yX4_plan, Cond.instanceMethod yX4_plan, Cond.selects RX4 yX4_plan yX4_plan, Cond.code yX4_plan cX4_plan 1 (some .int), Cond.methodLink RX4 140 yX3_layPlan, Cond.instanceMethod yX3_layPlan, Cond.selects RX3 yX3_layPlan yX3_layPlan, Cond.code yX3_layPlan cX3_layPlan 3 (some .int), Cond.fieldLink RX3 51 "MirrorTower$Store" "units" "I", Cond.fieldLink RX3 54 "MirrorTower$Store" "warm" "Z", Cond.methodLink RX3 91 yX3_lookAhead, Cond.instanceMethod yX3_lookAhead, Cond.selects RX3 yX3_lookAhead yX3_lookAhead, Cond.code yX3_lookAhead cX3_lookAhead 3 none, Cond.methodLink RX3 61 yX0_aimAll, Cond.methodLink RX3 67 yX3_filled, Cond.static yX3_filled, Cond.code yX3_filled cX3_filled 2 (some .int), Cond.methodLink RX3 83 Lib.Math.min.name, Cond.methodLink RX3 94 yX3_weighHour]
def wsL_law_r21 : List Cond := [Cond.instanceMethod yX3_weighHour, Cond.selects RX3 yX3_weighHour yX3_weighHour, Cond.code yX3_weighHour cX3_weighHour 3 none, Cond.methodLink RX3 105 yX3_weigh, Cond.instanceMethod yX3_weigh, Cond.selects RX3 yX3_weigh yX3_weigh, Cond.code yX3_weigh cX3_weigh 8 none, Cond.methodLink RX3 101 yX3_stateOf, Cond.static yX3_stateOf, Cond.code yX3_stateOf cX3_stateOf 2 (some .int), Cond.methodLink RX3 70 yX3_needed, Cond.static yX3_needed, Cond.code yX3_needed cX3_needed 1 (some .int), Cond.methodLink RX3 74 yX3_gainOf, Cond.instanceMethod yX3_gainOf, Cond.selects RX3 yX3_gainOf yX3_gainOf, Cond.code yX3_gainOf cX3_gainOf 2 (some .int), Cond.methodLink RX3 98 yX3_followChoices, Cond.instanceMethod yX3_followChoices, Cond.selects RX3 yX3_followChoices yX3_followChoices, Cond.code yX3_followChoices cX3_followChoices 5 none, Cond.fieldLink RX3 88 "MirrorTower$Store" "planned" "I", Cond.methodLink RL 87 yX5_plan, Cond.instanceMethod yX5_plan]
def wsL_law_r22 : List Cond := [Cond.selects RX5 yX5_plan yX5_plan, Cond.code yX5_plan cX5_plan 8 (some .int), Cond.fieldLink RX5 168 "MirrorTowerModel" "store" "I", Cond.fieldLink RX5 171 "MirrorTowerModel" "isWarm" "Z", Cond.methodLink RX5 157 yX5_state, Cond.static yX5_state, Cond.code yX5_state cX5_state 3 (some .int), Cond.methodLink RX5 161 yX5_filled, Cond.static yX5_filled, Cond.code yX5_filled cX5_filled 2 (some .int), Cond.methodLink RX5 164 yX5_takes, Cond.static yX5_takes, Cond.code yX5_takes cX5_takes 1 (some .int), Cond.methodLink RL 88 yX4_runs, Cond.instanceMethod yX4_runs, Cond.selects RX4 yX4_runs yX4_runs, Cond.code yX4_runs cX4_runs 2 (some .int), Cond.methodLink RX4 143 yX3_plannedRun, Cond.instanceMethod yX3_plannedRun, Cond.selects RX3 yX3_plannedRun yX3_plannedRun, Cond.code yX3_plannedRun cX3_plannedRun 2 (some .int), Cond.methodLink RL 91 yX5_runs, Cond.instanceMethod yX5_runs, Cond.selects RX5 yX5_runs yX5_runs]
def wsL_law_r23 : List Cond := [Cond.code yX5_runs cX5_runs 2 (some .int), Cond.methodLink RL 92 yX4_step, Cond.instanceMethod yX4_step, Cond.selects RX4 yX4_step yX4_step, Cond.code yX4_step cX4_step 3 (some .int), Cond.methodLink RX4 146 yX3_passHour, Cond.instanceMethod yX3_passHour, Cond.selects RX3 yX3_passHour yX3_passHour, Cond.code yX3_passHour cX3_passHour 5 (some .int), Cond.fieldLink RX3 58 "MirrorTower$Store" "earnings" "I", Cond.methodLink RX3 78 yX1_growSoil, Cond.instanceMethod yX1_growSoil, Cond.selects RX1 yX1_growSoil yX1_growSoil, Cond.code yX1_growSoil cX1_growSoil 2 none, Cond.methodLink RL 96 yX5_step, Cond.instanceMethod yX5_step, Cond.selects RX5 yX5_step yX5_step, Cond.code yX5_step cX5_step 5 (some .int), Cond.fieldLink RX5 175 "MirrorTowerModel" "earned" "I", Cond.methodLink RL 97 yX4_earned, Cond.instanceMethod yX4_earned, Cond.selects RX4 yX4_earned yX4_earned, Cond.code yX4_earned cX4_earned 1 (some .int), Cond.methodLink RX4 150 yX3_earnedInAll]
def wsL_law_r24 : List Cond := [Cond.instanceMethod yX3_earnedInAll, Cond.selects RX3 yX3_earnedInAll yX3_earnedInAll, Cond.code yX3_earnedInAll cX3_earnedInAll 1 (some .int), Cond.methodLink RL 100 yX5_earned, Cond.instanceMethod yX5_earned, Cond.selects RX5 yX5_earned yX5_earned, Cond.code yX5_earned cX5_earned 1 (some .int), Cond.methodLink RL 101 yX4_shot, Cond.instanceMethod yX4_shot, Cond.selects RX4 yX4_shot yX4_shot, Cond.code yX4_shot cX4_shot 6 (some .int), Cond.constantLong RX4 153 (4294967295), Cond.methodLink RX4 161 Lib.Math.min.name, Cond.methodLink RX4 155 yJ13_bitCount_95d88, Cond.static yJ13_bitCount_95d88, Cond.initialized RJ13, Cond.code yJ13_bitCount_95d88 cJ13_bitCount_95d88 2 (some .int), Cond.constantLong RJ13 314 (6148914691236517205), Cond.constantLong RJ13 316 (3689348814741910323), Cond.constantLong RJ13 318 (1085102592571150095), Cond.methodLink RX4 166 yX2_size, Cond.instanceMethod yX2_size, Cond.selects RX2 yX2_size yX2_size, Cond.code yX2_size cX2_size 1 (some .int)]
def wsL_law_r25 : List Cond := [Cond.fieldLink RX2 18 "MirrorTower$Shots" "size" "I", Cond.methodLink RX4 167 yX2_note, Cond.instanceMethod yX2_note, Cond.selects RX2 yX2_note yX2_note, Cond.code yX2_note cX2_note 6 (some .int), Cond.fieldLink RX2 22 "MirrorTower$Shots" "missing" "I", Cond.methodLink RX2 31 Lib.Math.min.name, Cond.methodLink RX2 25 yJ13_bitCount_95d88, Cond.methodLink RL 105 yX5_shot, Cond.instanceMethod yX5_shot, Cond.selects RX5 yX5_shot yX5_shot, Cond.code yX5_shot cX5_shot 6 (some .int), Cond.constantLong RX5 178 (4294967295), Cond.constantLong RX5 184 (-1), Cond.fieldLink RX5 186 "MirrorTowerModel" "shots" "I", Cond.methodLink RX5 180 yX5_bits, Cond.static yX5_bits, Cond.code yX5_bits cX5_bits 5 (some .int), Cond.methodLink RL 106 yX4_forget, Cond.instanceMethod yX4_forget, Cond.selects RX4 yX4_forget yX4_forget, Cond.code yX4_forget cX4_forget 1 (some .int), Cond.methodLink RX4 171 yX2_drop, Cond.instanceMethod yX2_drop]
def wsL_law_r26 : List Cond := [Cond.selects RX2 yX2_drop yX2_drop, Cond.code yX2_drop cX2_drop 2 (some .int), Cond.methodLink RX2 37 yJ7_fill_53178, Cond.methodLink RL 109 yX5_forget, Cond.instanceMethod yX5_forget, Cond.selects RX5 yX5_forget yX5_forget, Cond.code yX5_forget cX5_forget 2 (some .int), Cond.methodLink RL 110 yX4_agree, Cond.instanceMethod yX4_agree, Cond.selects RX4 yX4_agree yX4_agree, Cond.code yX4_agree cX4_agree 1 (some .int), Cond.methodLink RX4 174 yX2_setsOf, Cond.instanceMethod yX2_setsOf, Cond.selects RX2 yX2_setsOf yX2_setsOf, Cond.code yX2_setsOf cX2_setsOf 2 (some .int), Cond.fieldLink RX2 47 "MirrorTower$Shots" "sets" "I", Cond.methodLink RX2 43 yX2_tally, Cond.instanceMethod yX2_tally, Cond.selects RX2 yX2_tally yX2_tally, Cond.code yX2_tally cX2_tally 4 none, Cond.methodLink RL 113 yX5_agree, Cond.instanceMethod yX5_agree, Cond.selects RX5 yX5_agree yX5_agree, Cond.code yX5_agree cX5_agree 1 (some .int)]
def wsL_law_r27 : List Cond := [Cond.methodLink RX5 193 yX5_agreeing, Cond.instanceMethod yX5_agreeing, Cond.selects RX5 yX5_agreeing yX5_agreeing, Cond.code yX5_agreeing cX5_agreeing 4 (some .int), Cond.methodLink RX5 189 yX5_agrees, Cond.instanceMethod yX5_agrees, Cond.selects RX5 yX5_agrees yX5_agrees, Cond.code yX5_agrees cX5_agrees 5 (some .boolean), Cond.methodLink RL 114 yX4_stuck, Cond.instanceMethod yX4_stuck, Cond.selects RX4 yX4_stuck yX4_stuck, Cond.code yX4_stuck cX4_stuck 2 (some .int), Cond.methodLink RX4 177 yX2_verdictOn, Cond.instanceMethod yX2_verdictOn, Cond.selects RX2 yX2_verdictOn yX2_verdictOn, Cond.code yX2_verdictOn cX2_verdictOn 3 (some .int), Cond.methodLink RX2 50 yX2_isSure, Cond.instanceMethod yX2_isSure, Cond.selects RX2 yX2_isSure yX2_isSure, Cond.code yX2_isSure cX2_isSure 2 (some .boolean), Cond.methodLink RL 117 yX5_stuck, Cond.instanceMethod yX5_stuck, Cond.selects RX5 yX5_stuck yX5_stuck, Cond.code yX5_stuck cX5_stuck 3 (some .int)]
def wsL_law_r28 : List Cond := [Cond.methodLink RL 118 yX4_unsure, Cond.instanceMethod yX4_unsure, Cond.selects RX4 yX4_unsure yX4_unsure, Cond.code yX4_unsure cX4_unsure 1 (some .int), Cond.methodLink RX4 180 yX2_unsureOf, Cond.instanceMethod yX2_unsureOf, Cond.selects RX2 yX2_unsureOf yX2_unsureOf, Cond.code yX2_unsureOf cX2_unsureOf 4 (some .int), Cond.methodLink RL 121 yX5_unsure, Cond.instanceMethod yX5_unsure, Cond.selects RX5 yX5_unsure yX5_unsure, Cond.code yX5_unsure cX5_unsure 4 (some .int), Cond.methodLink RL 122 yX4_count, Cond.instanceMethod yX4_count, Cond.selects RX4 yX4_count yX4_count, Cond.code yX4_count cX4_count 2 (some .int), Cond.methodLink RX4 183 yX3_unitsHeld, Cond.instanceMethod yX3_unitsHeld, Cond.selects RX3 yX3_unitsHeld yX3_unitsHeld, Cond.code yX3_unitsHeld cX3_unitsHeld 1 (some .int), Cond.methodLink RX4 186 yX3_isWarm, Cond.instanceMethod yX3_isWarm, Cond.selects RX3 yX3_isWarm yX3_isWarm, Cond.code yX3_isWarm cX3_isWarm 1 (some .boolean)]
def wsL_law_r29 : List Cond := [Cond.methodLink RX4 189 yX1_soilInAll, Cond.instanceMethod yX1_soilInAll, Cond.selects RX1 yX1_soilInAll yX1_soilInAll, Cond.code yX1_soilInAll cX1_soilInAll 3 (some .int), Cond.methodLink RL 125 yX5_count, Cond.instanceMethod yX5_count, Cond.selects RX5 yX5_count yX5_count, Cond.code yX5_count cX5_count 4 (some .int), Cond.methodLink RL 126 yX4_trouble, Cond.instanceMethod yX4_trouble, Cond.selects RX4 yX4_trouble yX4_trouble, Cond.code yX4_trouble cX4_trouble 1 (some .int), Cond.methodLink RL 129 yX5_trouble, Cond.instanceMethod yX5_trouble, Cond.selects RX5 yX5_trouble yX5_trouble, Cond.code yX5_trouble cX5_trouble 1 (some .int)]
def wsL_law : List Cond := (wsL_law_r1 ++ (wsL_law_r2 ++ (wsL_law_r3 ++ (wsL_law_r4 ++ (wsL_law_r5 ++ (wsL_law_r6 ++ (wsL_law_r7 ++ (wsL_law_r8 ++ (wsL_law_r9 ++ (wsL_law_r10 ++ (wsL_law_r11 ++ (wsL_law_r12 ++ (wsL_law_r13 ++ (wsL_law_r14 ++ (wsL_law_r15 ++ (wsL_law_r16 ++ (wsL_law_r17 ++ (wsL_law_r18 ++ (wsL_law_r19 ++ (wsL_law_r20 ++ (wsL_law_r21 ++ (wsL_law_r22 ++ (wsL_law_r23 ++ (wsL_law_r24 ++ (wsL_law_r25 ++ (wsL_law_r26 ++ (wsL_law_r27 ++ (wsL_law_r28 ++ wsL_law_r29)))))))))))))))))))))))))))) ++ wsX40 ++ wsX50 ++ wsX10 ++ wsX00 ++ wsX30 ++ wsX20 ++ ([] : List Cond)
set_option maxRecDepth 20000 in
theorem mem_pl {big ws : List Cond} (ps : List Nat) (hp : ws = ps.filterMap (fun i => big[i]?)) : ∀ w ∈ ws, w ∈ big := by
  intro w hw
  rw [hp] at hw
  obtain ⟨i, -, hi⟩ := List.mem_filterMap.mp hw
  exact List.mem_of_getElem? hi
set_option maxRecDepth 100000 in
theorem p_wsL_law_r1 : ∀ w ∈ wsL_law_r1, w ∈ lw_tbl := mem_pl [44, 45, 34, 593, 594, 40, 46, 47, 48, 49, 50, 51, 52, 53, 35, 209, 93, 94, 36, 210, 137, 138, 38, 211] rfl
set_option maxRecDepth 100000 in
theorem p_wsL_law_r2 : ∀ w ∈ wsL_law_r2, w ∈ lw_tbl := mem_pl [187, 188, 39, 212, 213, 54, 55, 56, 57, 92, 58, 59, 60, 61, 62, 64, 65, 66, 67, 68, 95, 96, 97, 98] rfl
set_option maxRecDepth 100000 in
theorem p_wsL_law_r3 : ∀ w ∈ wsL_law_r3, w ∈ lw_tbl := mem_pl [102, 103, 104, 105, 106, 107, 108, 109, 111, 136, 112, 99, 100, 37, 101, 139, 140, 141, 142, 144, 145, 146, 151, 152] rfl
set_option maxRecDepth 100000 in
theorem p_wsL_law_r4 : ∀ w ∈ wsL_law_r4, w ∈ lw_tbl := mem_pl [153, 154, 155, 157, 143, 189, 190, 191, 192, 193, 197, 595, 596, 597, 598, 605, 607, 608, 609, 610, 611, 612, 613, 614] rfl
set_option maxRecDepth 100000 in
theorem p_wsL_law_r5 : ∀ w ∈ wsL_law_r5, w ∈ lw_tbl := mem_pl [615, 616, 617, 618, 619, 620, 621, 622, 624, 625, 626, 627, 699, 628, 629, 631, 225, 226, 227, 228, 229, 230, 231, 232] rfl
set_option maxRecDepth 100000 in
theorem p_wsL_law_r6 : ∀ w ∈ wsL_law_r6, w ∈ lw_tbl := mem_pl [234, 0, 235, 236, 237, 238, 239, 240, 241, 242, 243, 63, 244, 245, 246, 247, 248, 250, 1, 251, 252, 254, 2, 255] rfl
set_option maxRecDepth 100000 in
theorem p_wsL_law_r7 : ∀ w ∈ wsL_law_r7, w ∈ lw_tbl := mem_pl [700, 701, 702, 703, 599, 601, 704, 705, 706, 707, 709, 19, 710, 600, 711, 713, 20, 714, 256, 257, 258, 259, 260, 261] rfl
set_option maxRecDepth 100000 in
theorem p_wsL_law_r8 : ∀ w ∈ wsL_law_r8, w ∈ lw_tbl := mem_pl [262, 263, 265, 3, 266, 267, 268, 269, 270, 271, 273, 4, 274, 715, 716, 717, 718, 719, 720, 721, 722, 724, 21, 725] rfl
set_option maxRecDepth 100000 in
theorem p_wsL_law_r9 : ∀ w ∈ wsL_law_r9, w ∈ lw_tbl := mem_pl [726, 728, 22, 729, 275, 276, 277, 278, 279, 280, 281, 282, 283, 284, 285, 730, 731, 732, 733, 286, 287, 288, 289, 290] rfl
set_option maxRecDepth 100000 in
theorem p_wsL_law_r10 : ∀ w ∈ wsL_law_r10, w ∈ lw_tbl := mem_pl [291, 292, 293, 734, 735, 736, 737, 294, 295, 296, 297, 298, 299, 300, 301, 738, 739, 740, 741, 302, 303, 304, 305, 306] rfl
set_option maxRecDepth 100000 in
theorem p_wsL_law_r11 : ∀ w ∈ wsL_law_r11, w ∈ lw_tbl := mem_pl [307, 308, 309, 742, 743, 744, 745, 310, 311, 312, 313, 314, 316, 5, 317, 318, 319, 320, 321, 322, 323, 324, 325, 746] rfl
set_option maxRecDepth 100000 in
theorem p_wsL_law_r12 : ∀ w ∈ wsL_law_r12, w ∈ lw_tbl := mem_pl [747, 748, 749, 750, 752, 23, 753, 754, 756, 24, 757, 758, 760, 25, 761, 326, 327, 328, 329, 330, 331, 332, 333, 345] rfl
set_option maxRecDepth 100000 in
theorem p_wsL_law_r13 : ∀ w ∈ wsL_law_r13, w ∈ lw_tbl := mem_pl [346, 41, 347, 334, 335, 336, 337, 338, 339, 340, 341, 342, 343, 344, 348, 762, 763, 764, 765, 766, 768, 26, 769, 774] rfl
set_option maxRecDepth 100000 in
theorem p_wsL_law_r14 : ∀ w ∈ wsL_law_r14, w ∈ lw_tbl := mem_pl [775, 770, 772, 27, 773, 349, 350, 351, 352, 353, 776, 777, 778, 779, 354, 355, 356, 357, 358, 780, 781, 782, 783, 359] rfl
set_option maxRecDepth 100000 in
theorem p_wsL_law_r15 : ∀ w ∈ wsL_law_r15, w ∈ lw_tbl := mem_pl [360, 361, 362, 363, 364, 365, 366, 367, 369, 6, 370, 784, 785, 786, 787, 371, 372, 373, 374, 375, 376, 377, 378, 110] rfl
set_option maxRecDepth 100000 in
theorem p_wsL_law_r16 : ∀ w ∈ wsL_law_r16, w ∈ lw_tbl := mem_pl [393, 395, 394, 42, 379, 380, 381, 382, 383, 385, 7, 386, 387, 388, 389, 391, 8, 392, 396, 398, 9, 399, 788, 789] rfl
set_option maxRecDepth 100000 in
theorem p_wsL_law_r17 : ∀ w ∈ wsL_law_r17, w ∈ lw_tbl := mem_pl [790, 791, 792, 794, 28, 795, 796, 798, 29, 799, 400, 401, 402, 403, 404, 405, 406, 407, 800, 801, 802, 803, 408, 409] rfl
set_option maxRecDepth 100000 in
theorem p_wsL_law_r18 : ∀ w ∈ wsL_law_r18, w ∈ lw_tbl := mem_pl [410, 411, 412, 413, 414, 415, 804, 805, 806, 807, 416, 417, 418, 419, 420, 421, 422, 423, 424, 433, 425, 427, 10, 428] rfl
set_option maxRecDepth 100000 in
theorem p_wsL_law_r19 : ∀ w ∈ wsL_law_r19, w ∈ lw_tbl := mem_pl [429, 431, 11, 432, 808, 809, 810, 811, 623, 812, 814, 30, 815, 434, 435, 436, 437, 438, 439, 440, 441, 147, 442, 816] rfl
set_option maxRecDepth 100000 in
theorem p_wsL_law_r20 : ∀ w ∈ wsL_law_r20, w ∈ lw_tbl := mem_pl [817, 818, 819, 602, 443, 444, 445, 446, 447, 448, 449, 450, 148, 149, 451, 453, 12, 454, 455, 456, 457, 458, 459, 460] rfl
set_option maxRecDepth 100000 in
theorem p_wsL_law_r21 : ∀ w ∈ wsL_law_r21, w ∈ lw_tbl := mem_pl [462, 13, 463, 464, 466, 14, 467, 468, 469, 470, 471, 472, 473, 474, 476, 15, 477, 478, 480, 16, 481, 156, 820, 821] rfl
set_option maxRecDepth 100000 in
theorem p_wsL_law_r22 : ∀ w ∈ wsL_law_r22, w ∈ lw_tbl := mem_pl [822, 823, 603, 606, 824, 825, 826, 827, 828, 829, 830, 831, 832, 482, 483, 484, 485, 486, 487, 488, 489, 833, 834, 835] rfl
set_option maxRecDepth 100000 in
theorem p_wsL_law_r23 : ∀ w ∈ wsL_law_r23, w ∈ lw_tbl := mem_pl [836, 490, 491, 492, 493, 494, 495, 496, 497, 150, 498, 499, 500, 501, 837, 838, 839, 840, 604, 502, 503, 504, 505, 506] rfl
set_option maxRecDepth 100000 in
theorem p_wsL_law_r24 : ∀ w ∈ wsL_law_r24, w ∈ lw_tbl := mem_pl [507, 508, 509, 841, 842, 843, 844, 510, 511, 512, 513, 514, 521, 515, 516, 43, 517, 518, 519, 520, 522, 523, 524, 525] rfl
set_option maxRecDepth 100000 in
theorem p_wsL_law_r25 : ∀ w ∈ wsL_law_r25, w ∈ lw_tbl := mem_pl [195, 526, 527, 528, 529, 194, 531, 530, 845, 846, 847, 848, 849, 853, 630, 850, 851, 852, 532, 533, 534, 535, 536, 537] rfl
set_option maxRecDepth 100000 in
theorem p_wsL_law_r26 : ∀ w ∈ wsL_law_r26, w ∈ lw_tbl := mem_pl [538, 539, 540, 854, 855, 856, 857, 541, 542, 543, 544, 545, 546, 547, 548, 196, 549, 551, 17, 552, 858, 859, 860, 861] rfl
set_option maxRecDepth 100000 in
theorem p_wsL_law_r27 : ∀ w ∈ wsL_law_r27, w ∈ lw_tbl := mem_pl [862, 864, 31, 865, 866, 868, 32, 869, 553, 554, 555, 556, 557, 558, 559, 560, 561, 563, 18, 564, 870, 871, 872, 873] rfl
set_option maxRecDepth 100000 in
theorem p_wsL_law_r28 : ∀ w ∈ wsL_law_r28, w ∈ lw_tbl := mem_pl [565, 566, 567, 568, 569, 570, 571, 572, 874, 875, 876, 877, 573, 574, 575, 576, 577, 578, 579, 580, 581, 582, 583, 584] rfl
set_option maxRecDepth 100000 in
theorem p_wsL_law_r29 : ∀ w ∈ wsL_law_r29, w ∈ lw_tbl := mem_pl [585, 586, 587, 588, 878, 879, 880, 881, 589, 590, 591, 592, 882, 883, 884, 885] rfl
set_option maxRecDepth 100000 in
theorem p_wsX40 : ∀ w ∈ wsX40, w ∈ lw_tbl := by decide +kernel
set_option maxRecDepth 100000 in
theorem p_wsX50 : ∀ w ∈ wsX50, w ∈ lw_tbl := by decide +kernel
set_option maxRecDepth 100000 in
theorem p_wsX10 : ∀ w ∈ wsX10, w ∈ lw_tbl := by decide +kernel
set_option maxRecDepth 100000 in
theorem p_wsX00 : ∀ w ∈ wsX00, w ∈ lw_tbl := by decide +kernel
set_option maxRecDepth 100000 in
theorem p_wsX30 : ∀ w ∈ wsX30, w ∈ lw_tbl := by decide +kernel
set_option maxRecDepth 100000 in
theorem p_wsX20 : ∀ w ∈ wsX20, w ∈ lw_tbl := by decide +kernel
theorem wsL_law_in : ∀ w ∈ wsL_law, w ∈ lw_tbl := by
  show ∀ w ∈ (wsL_law_r1 ++ (wsL_law_r2 ++ (wsL_law_r3 ++ (wsL_law_r4 ++ (wsL_law_r5 ++ (wsL_law_r6 ++ (wsL_law_r7 ++ (wsL_law_r8 ++ (wsL_law_r9 ++ (wsL_law_r10 ++ (wsL_law_r11 ++ (wsL_law_r12 ++ (wsL_law_r13 ++ (wsL_law_r14 ++ (wsL_law_r15 ++ (wsL_law_r16 ++ (wsL_law_r17 ++ (wsL_law_r18 ++ (wsL_law_r19 ++ (wsL_law_r20 ++ (wsL_law_r21 ++ (wsL_law_r22 ++ (wsL_law_r23 ++ (wsL_law_r24 ++ (wsL_law_r25 ++ (wsL_law_r26 ++ (wsL_law_r27 ++ (wsL_law_r28 ++ wsL_law_r29)))))))))))))))))))))))))))) ++ wsX40 ++ wsX50 ++ wsX10 ++ wsX00 ++ wsX30 ++ wsX20 ++ ([] : List Cond), w ∈ lw_tbl
  exact (List.forall_mem_append.mpr ⟨(List.forall_mem_append.mpr ⟨(List.forall_mem_append.mpr ⟨(List.forall_mem_append.mpr ⟨(List.forall_mem_append.mpr ⟨(List.forall_mem_append.mpr ⟨(List.forall_mem_append.mpr ⟨(List.forall_mem_append.mpr ⟨p_wsL_law_r1, (List.forall_mem_append.mpr ⟨p_wsL_law_r2, (List.forall_mem_append.mpr ⟨p_wsL_law_r3, (List.forall_mem_append.mpr ⟨p_wsL_law_r4, (List.forall_mem_append.mpr ⟨p_wsL_law_r5, (List.forall_mem_append.mpr ⟨p_wsL_law_r6, (List.forall_mem_append.mpr ⟨p_wsL_law_r7, (List.forall_mem_append.mpr ⟨p_wsL_law_r8, (List.forall_mem_append.mpr ⟨p_wsL_law_r9, (List.forall_mem_append.mpr ⟨p_wsL_law_r10, (List.forall_mem_append.mpr ⟨p_wsL_law_r11, (List.forall_mem_append.mpr ⟨p_wsL_law_r12, (List.forall_mem_append.mpr ⟨p_wsL_law_r13, (List.forall_mem_append.mpr ⟨p_wsL_law_r14, (List.forall_mem_append.mpr ⟨p_wsL_law_r15, (List.forall_mem_append.mpr ⟨p_wsL_law_r16, (List.forall_mem_append.mpr ⟨p_wsL_law_r17, (List.forall_mem_append.mpr ⟨p_wsL_law_r18, (List.forall_mem_append.mpr ⟨p_wsL_law_r19, (List.forall_mem_append.mpr ⟨p_wsL_law_r20, (List.forall_mem_append.mpr ⟨p_wsL_law_r21, (List.forall_mem_append.mpr ⟨p_wsL_law_r22, (List.forall_mem_append.mpr ⟨p_wsL_law_r23, (List.forall_mem_append.mpr ⟨p_wsL_law_r24, (List.forall_mem_append.mpr ⟨p_wsL_law_r25, (List.forall_mem_append.mpr ⟨p_wsL_law_r26, (List.forall_mem_append.mpr ⟨p_wsL_law_r27, (List.forall_mem_append.mpr ⟨p_wsL_law_r28, p_wsL_law_r29⟩)⟩)⟩)⟩)⟩)⟩)⟩)⟩)⟩)⟩)⟩)⟩)⟩)⟩)⟩)⟩)⟩)⟩)⟩)⟩)⟩)⟩)⟩)⟩)⟩)⟩)⟩)⟩), p_wsX40⟩), p_wsX50⟩), p_wsX10⟩), p_wsX00⟩), p_wsX30⟩), p_wsX20⟩), (fun _ h => absurd h List.not_mem_nil)⟩)
theorem inlX0 : ∀ w ∈ wsX00, w ∈ wsL_law := fun _ h => List.mem_append_left _ (List.mem_append_left _ (List.mem_append_left _ (List.mem_append_right _ h)))
theorem inX0 : ∀ w ∈ wsX00, w ∈ lw_tbl := fun w h => wsL_law_in w (inlX0 w h)
theorem inlX1 : ∀ w ∈ wsX10, w ∈ wsL_law := fun _ h => List.mem_append_left _ (List.mem_append_left _ (List.mem_append_left _ (List.mem_append_left _ (List.mem_append_right _ h))))
theorem inX1 : ∀ w ∈ wsX10, w ∈ lw_tbl := fun w h => wsL_law_in w (inlX1 w h)
theorem inlX2 : ∀ w ∈ wsX20, w ∈ wsL_law := fun _ h => List.mem_append_left _ (List.mem_append_right _ h)
theorem inX2 : ∀ w ∈ wsX20, w ∈ lw_tbl := fun w h => wsL_law_in w (inlX2 w h)
theorem inlX3 : ∀ w ∈ wsX30, w ∈ wsL_law := fun _ h => List.mem_append_left _ (List.mem_append_left _ (List.mem_append_right _ h))
theorem inX3 : ∀ w ∈ wsX30, w ∈ lw_tbl := fun w h => wsL_law_in w (inlX3 w h)
theorem inlX4 : ∀ w ∈ wsX40, w ∈ wsL_law := fun _ h => List.mem_append_left _ (List.mem_append_left _ (List.mem_append_left _ (List.mem_append_left _ (List.mem_append_left _ (List.mem_append_left _ (List.mem_append_right _ h))))))
theorem inX4 : ∀ w ∈ wsX40, w ∈ lw_tbl := fun w h => wsL_law_in w (inlX4 w h)
theorem inlX5 : ∀ w ∈ wsX50, w ∈ wsL_law := fun _ h => List.mem_append_left _ (List.mem_append_left _ (List.mem_append_left _ (List.mem_append_left _ (List.mem_append_left _ (List.mem_append_right _ h)))))
theorem inX5 : ∀ w ∈ wsX50, w ∈ lw_tbl := fun w h => wsL_law_in w (inlX5 w h)
theorem inJ13 : ∀ w ∈ wsJ130, w ∈ lw_tbl := by decide +kernel
theorem inJ9 : ∀ w ∈ wsJ90, w ∈ lw_tbl := by decide +kernel
theorem inJ10 : ∀ w ∈ wsJ100, w ∈ lw_tbl := by decide +kernel
theorem inJ7 : ∀ w ∈ wsJ70, w ∈ lw_tbl := by decide +kernel
set_option maxRecDepth 20000 in
theorem ggX0_init_J7_fill_53178 : GoodIn wsX0_init wsJ7_fill_53178 := goodIn_r _ [19] rfl (by decide +kernel)
set_option maxRecDepth 20000 in
theorem gX0_init_J7_fill_53178 : GoodIn wsX0_init (va_wsS RX0 19 yJ7_fill_53178 wsJ7_fill_53178) := goodIn_app (goodIn_of _ (by decide +kernel)) ggX0_init_J7_fill_53178
theorem dX0_init_0 : decode cX0_init 0 = .ok (.aload_n 0, 1) := by decide +kernel
theorem dX0_init_1 : decode cX0_init 1 = .ok (.invokespecial 5, 3) := by decide +kernel
theorem dX0_init_4 : decode cX0_init 4 = .ok (.aload_n 0, 1) := by decide +kernel
theorem dX0_init_5 : decode cX0_init 5 = .ok (.aload_n 1, 1) := by decide +kernel
theorem dX0_init_6 : decode cX0_init 6 = .ok (.putfield 11, 3) := by decide +kernel
theorem dX0_init_9 : decode cX0_init 9 = .ok (.aload_n 0, 1) := by decide +kernel
theorem dX0_init_10 : decode cX0_init 10 = .ok (.iconst 4, 1) := by decide +kernel
theorem dX0_init_11 : decode cX0_init 11 = .ok (.newarray .int, 2) := by decide +kernel
theorem dX0_init_13 : decode cX0_init 13 = .ok (.putfield 15, 3) := by decide +kernel
theorem dX0_init_16 : decode cX0_init 16 = .ok (.aload_n 0, 1) := by decide +kernel
theorem dX0_init_17 : decode cX0_init 17 = .ok (.getfield 15, 3) := by decide +kernel
theorem dX0_init_20 : decode cX0_init 20 = .ok (.sipush 500, 3) := by decide +kernel
theorem dX0_init_23 : decode cX0_init 23 = .ok (.invokestatic 19, 3) := by decide +kernel
theorem dX0_init_26 : decode cX0_init 26 = .ok (.aload_n 0, 1) := by decide +kernel
theorem dX0_init_27 : decode cX0_init 27 = .ok (.bipush 40, 2) := by decide +kernel
theorem dX0_init_29 : decode cX0_init 29 = .ok (.newarray .int, 2) := by decide +kernel
theorem dX0_init_31 : decode cX0_init 31 = .ok (.putfield 25, 3) := by decide +kernel
theorem dX0_init_34 : decode cX0_init 34 = .ok (.aload_n 0, 1) := by decide +kernel
theorem dX0_init_35 : decode cX0_init 35 = .ok (.bipush 40, 2) := by decide +kernel
theorem dX0_init_37 : decode cX0_init 37 = .ok (.newarray .int, 2) := by decide +kernel
theorem dX0_init_39 : decode cX0_init 39 = .ok (.putfield 28, 3) := by decide +kernel
theorem dX0_init_42 : decode cX0_init 42 = .ok (.aload_n 0, 1) := by decide +kernel
theorem dX0_init_43 : decode cX0_init 43 = .ok (.bipush 40, 2) := by decide +kernel
theorem dX0_init_45 : decode cX0_init 45 = .ok (.newarray .int, 2) := by decide +kernel
theorem dX0_init_47 : decode cX0_init 47 = .ok (.putfield 31, 3) := by decide +kernel
theorem dX0_init_50 : decode cX0_init 50 = .ok (.aload_n 0, 1) := by decide +kernel
theorem dX0_init_51 : decode cX0_init 51 = .ok (.iconst 4, 1) := by decide +kernel
theorem dX0_init_52 : decode cX0_init 52 = .ok (.newarray .int, 2) := by decide +kernel
theorem dX0_init_54 : decode cX0_init 54 = .ok (.putfield 34, 3) := by decide +kernel
theorem dX0_init_57 : decode cX0_init 57 = .ok (.aload_n 0, 1) := by decide +kernel
theorem dX0_init_58 : decode cX0_init 58 = .ok (.bipush 40, 2) := by decide +kernel
theorem dX0_init_60 : decode cX0_init 60 = .ok (.newarray .int, 2) := by decide +kernel
theorem dX0_init_62 : decode cX0_init 62 = .ok (.putfield 37, 3) := by decide +kernel
theorem dX0_init_65 : decode cX0_init 65 = .ok (.aload_n 0, 1) := by decide +kernel
theorem dX0_init_66 : decode cX0_init 66 = .ok (.iconst 4, 1) := by decide +kernel
theorem dX0_init_67 : decode cX0_init 67 = .ok (.newarray .int, 2) := by decide +kernel
theorem dX0_init_69 : decode cX0_init 69 = .ok (.putfield 40, 3) := by decide +kernel
theorem dX0_init_72 : decode cX0_init 72 = .ok (.aload_n 0, 1) := by decide +kernel
theorem dX0_init_73 : decode cX0_init 73 = .ok (.sipush 128, 3) := by decide +kernel
theorem dX0_init_76 : decode cX0_init 76 = .ok (.newarray .int, 2) := by decide +kernel
theorem dX0_init_78 : decode cX0_init 78 = .ok (.putfield 43, 3) := by decide +kernel
theorem dX0_init_81 : decode cX0_init 81 = .ok (.aload_n 0, 1) := by decide +kernel
theorem dX0_init_82 : decode cX0_init 82 = .ok (.sipush 128, 3) := by decide +kernel
theorem dX0_init_85 : decode cX0_init 85 = .ok (.newarray .boolean, 2) := by decide +kernel
theorem dX0_init_87 : decode cX0_init 87 = .ok (.putfield 46, 3) := by decide +kernel
theorem dX0_init_90 : decode cX0_init 90 = .ok (.return_, 1) := by decide +kernel
theorem dX0_setLimit_0 : decode cX0_setLimit 0 = .ok (.aload_n 0, 1) := by decide +kernel
theorem dX0_setLimit_1 : decode cX0_setLimit 1 = .ok (.getfield 15, 3) := by decide +kernel
theorem dX0_setLimit_4 : decode cX0_setLimit 4 = .ok (.iload_n 1, 1) := by decide +kernel
theorem dX0_setLimit_5 : decode cX0_setLimit 5 = .ok (.iload_n 2, 1) := by decide +kernel
theorem dX0_setLimit_6 : decode cX0_setLimit 6 = .ok (.iastore, 1) := by decide +kernel
theorem dX0_setLimit_7 : decode cX0_setLimit 7 = .ok (.return_, 1) := by decide +kernel
set_option maxRecDepth 20000 in
theorem ggX0_keepAims_X0_aimAll : GoodIn wsX0_keepAims wsX0_aimAll := goodIn_r _ [16, 10, 11, 5, 6, 7, 8, 1, 17, 18, 3, 19, 20, 21, 15, 22, 23, 24, 25, 26, 27, 28, 29, 30, 31, 32, 33, 34, 35, 36, 37, 38, 39, 40, 41, 42, 43, 44, 45, 46, 47, 48, 49, 50, 51, 52, 53, 54, 55, 56, 57, 58, 59, 60, 61, 62, 63, 64, 65, 66, 67, 68, 69, 70, 71, 72, 73, 74, 75, 76, 77, 78, 79, 80, 81, 82, 83, 84, 85, 86, 87, 88, 89, 90, 91] rfl (by decide +kernel)
set_option maxRecDepth 20000 in
theorem gX0_keepAims_X0_aimAll : GoodIn wsX0_keepAims (wsV RX0 50 RX0 yX0_aimAll wsX0_aimAll) := goodIn_app (goodIn_of _ (by decide +kernel)) ggX0_keepAims_X0_aimAll
set_option maxRecDepth 20000 in
theorem ggX0_keepAims_X1_size : GoodIn wsX0_keepAims wsX1_size := goodIn_r _ [27, 28, 81, 82, 83, 84, 85, 86, 87, 88, 89, 90, 91] rfl (by decide +kernel)
set_option maxRecDepth 20000 in
theorem gX0_keepAims_X1_size : GoodIn wsX0_keepAims (wsV RX0 54 RX1 yX1_size wsX1_size) := goodIn_app (goodIn_of _ (by decide +kernel)) ggX0_keepAims_X1_size
theorem dX0_keepAims_0 : decode cX0_keepAims 0 = .ok (.aload_n 0, 1) := by decide +kernel
theorem dX0_keepAims_1 : decode cX0_keepAims 1 = .ok (.iload_n 1, 1) := by decide +kernel
theorem dX0_keepAims_2 : decode cX0_keepAims 2 = .ok (.iconst 0, 1) := by decide +kernel
theorem dX0_keepAims_3 : decode cX0_keepAims 3 = .ok (.invokevirtual 50, 3) := by decide +kernel
theorem dX0_keepAims_6 : decode cX0_keepAims 6 = .ok (.istore_n 2, 1) := by decide +kernel
theorem dX0_keepAims_7 : decode cX0_keepAims 7 = .ok (.aload_n 0, 1) := by decide +kernel
theorem dX0_keepAims_8 : decode cX0_keepAims 8 = .ok (.aload_n 0, 1) := by decide +kernel
theorem dX0_keepAims_9 : decode cX0_keepAims 9 = .ok (.getfield 11, 3) := by decide +kernel
theorem dX0_keepAims_12 : decode cX0_keepAims 12 = .ok (.invokevirtual 54, 3) := by decide +kernel
theorem dX0_keepAims_15 : decode cX0_keepAims 15 = .ok (.putfield 60, 3) := by decide +kernel
theorem dX0_keepAims_18 : decode cX0_keepAims 18 = .ok (.aload_n 0, 1) := by decide +kernel
theorem dX0_keepAims_19 : decode cX0_keepAims 19 = .ok (.getfield 31, 3) := by decide +kernel
theorem dX0_keepAims_22 : decode cX0_keepAims 22 = .ok (.iconst 0, 1) := by decide +kernel
theorem dX0_keepAims_23 : decode cX0_keepAims 23 = .ok (.aload_n 0, 1) := by decide +kernel
theorem dX0_keepAims_24 : decode cX0_keepAims 24 = .ok (.getfield 37, 3) := by decide +kernel
theorem dX0_keepAims_27 : decode cX0_keepAims 27 = .ok (.iconst 0, 1) := by decide +kernel
theorem dX0_keepAims_28 : decode cX0_keepAims 28 = .ok (.aload_n 0, 1) := by decide +kernel
theorem dX0_keepAims_29 : decode cX0_keepAims 29 = .ok (.getfield 60, 3) := by decide +kernel
theorem dX0_keepAims_32 : decode cX0_keepAims 32 = .ok (.invokestatic 64, 3) := by decide +kernel
theorem dX0_keepAims_35 : decode cX0_keepAims 35 = .ok (.iconst 0, 1) := by decide +kernel
theorem dX0_keepAims_36 : decode cX0_keepAims 36 = .ok (.istore_n 3, 1) := by decide +kernel
theorem dX0_keepAims_37 : decode cX0_keepAims 37 = .ok (.iload_n 3, 1) := by decide +kernel
theorem dX0_keepAims_38 : decode cX0_keepAims 38 = .ok (.iconst 4, 1) := by decide +kernel
theorem dX0_keepAims_39 : decode cX0_keepAims 39 = .ok (.if_icmp .ge 28, 3) := by decide +kernel
theorem dX0_keepAims_42 : decode cX0_keepAims 42 = .ok (.aload_n 0, 1) := by decide +kernel
theorem dX0_keepAims_43 : decode cX0_keepAims 43 = .ok (.getfield 40, 3) := by decide +kernel
theorem dX0_keepAims_46 : decode cX0_keepAims 46 = .ok (.iload_n 3, 1) := by decide +kernel
theorem dX0_keepAims_47 : decode cX0_keepAims 47 = .ok (.aload_n 0, 1) := by decide +kernel
theorem dX0_keepAims_48 : decode cX0_keepAims 48 = .ok (.getfield 15, 3) := by decide +kernel
theorem dX0_keepAims_51 : decode cX0_keepAims 51 = .ok (.iload_n 3, 1) := by decide +kernel
theorem dX0_keepAims_52 : decode cX0_keepAims 52 = .ok (.iaload, 1) := by decide +kernel
theorem dX0_keepAims_53 : decode cX0_keepAims 53 = .ok (.aload_n 0, 1) := by decide +kernel
theorem dX0_keepAims_54 : decode cX0_keepAims 54 = .ok (.getfield 34, 3) := by decide +kernel
theorem dX0_keepAims_57 : decode cX0_keepAims 57 = .ok (.iload_n 3, 1) := by decide +kernel
theorem dX0_keepAims_58 : decode cX0_keepAims 58 = .ok (.iaload, 1) := by decide +kernel
theorem dX0_keepAims_59 : decode cX0_keepAims 59 = .ok (.isub, 1) := by decide +kernel
theorem dX0_keepAims_60 : decode cX0_keepAims 60 = .ok (.iastore, 1) := by decide +kernel
theorem dX0_keepAims_61 : decode cX0_keepAims 61 = .ok (.iinc 3 1, 3) := by decide +kernel
theorem dX0_keepAims_64 : decode cX0_keepAims 64 = .ok (.goto (-27), 3) := by decide +kernel
theorem dX0_keepAims_67 : decode cX0_keepAims 67 = .ok (.iload_n 2, 1) := by decide +kernel
theorem dX0_keepAims_68 : decode cX0_keepAims 68 = .ok (.ireturn, 1) := by decide +kernel
theorem dX0_keptCellOf_0 : decode cX0_keptCellOf 0 = .ok (.iload_n 1, 1) := by decide +kernel
theorem dX0_keptCellOf_1 : decode cX0_keptCellOf 1 = .ok (.aload_n 0, 1) := by decide +kernel
theorem dX0_keptCellOf_2 : decode cX0_keptCellOf 2 = .ok (.getfield 60, 3) := by decide +kernel
theorem dX0_keptCellOf_5 : decode cX0_keptCellOf 5 = .ok (.if_icmp .ge 12, 3) := by decide +kernel
theorem dX0_keptCellOf_8 : decode cX0_keptCellOf 8 = .ok (.aload_n 0, 1) := by decide +kernel
theorem dX0_keptCellOf_9 : decode cX0_keptCellOf 9 = .ok (.getfield 37, 3) := by decide +kernel
theorem dX0_keptCellOf_12 : decode cX0_keptCellOf 12 = .ok (.iload_n 1, 1) := by decide +kernel
theorem dX0_keptCellOf_13 : decode cX0_keptCellOf 13 = .ok (.iaload, 1) := by decide +kernel
theorem dX0_keptCellOf_14 : decode cX0_keptCellOf 14 = .ok (.goto 4, 3) := by decide +kernel
theorem dX0_keptCellOf_17 : decode cX0_keptCellOf 17 = .ok (.iconst (-1), 1) := by decide +kernel
theorem dX0_keptCellOf_18 : decode cX0_keptCellOf 18 = .ok (.ireturn, 1) := by decide +kernel
theorem dX0_keptPowerAt_0 : decode cX0_keptPowerAt 0 = .ok (.aload_n 0, 1) := by decide +kernel
theorem dX0_keptPowerAt_1 : decode cX0_keptPowerAt 1 = .ok (.getfield 40, 3) := by decide +kernel
theorem dX0_keptPowerAt_4 : decode cX0_keptPowerAt 4 = .ok (.iload_n 1, 1) := by decide +kernel
theorem dX0_keptPowerAt_5 : decode cX0_keptPowerAt 5 = .ok (.iaload, 1) := by decide +kernel
theorem dX0_keptPowerAt_6 : decode cX0_keptPowerAt 6 = .ok (.ireturn, 1) := by decide +kernel
set_option maxRecDepth 20000 in
theorem ggX0_aimAll_X0_readPowers : GoodIn wsX0_aimAll wsX0_readPowers := goodIn_r _ [15, 7, 9, 16, 17, 18, 19, 20, 21, 22, 23, 24, 25, 26, 27, 28, 29, 30, 31, 32, 33, 34, 35, 36, 37, 38, 39, 40, 41, 42, 43, 44, 45, 46, 47, 48, 49, 50, 51, 52, 53, 54, 63, 64, 65, 66, 67, 68, 69, 70, 71, 72, 73, 74, 75, 76, 77, 78, 79, 80, 81, 82, 83, 84] rfl (by decide +kernel)
set_option maxRecDepth 20000 in
theorem gX0_aimAll_X0_readPowers : GoodIn wsX0_aimAll (wsV RX0 70 RX0 yX0_readPowers wsX0_readPowers) := goodIn_app (goodIn_of _ (by decide +kernel)) ggX0_aimAll_X0_readPowers
set_option maxRecDepth 20000 in
theorem ggX0_aimAll_X0_rank : GoodIn wsX0_aimAll wsX0_rank := goodIn_r _ [58, 7, 9, 8, 16, 17, 18, 19, 20, 21, 63, 64, 65, 66, 67, 68, 69, 70, 71, 72, 73, 74, 75, 76, 77, 78, 79, 80, 81, 82, 83, 84] rfl (by decide +kernel)
set_option maxRecDepth 20000 in
theorem gX0_aimAll_X0_rank : GoodIn wsX0_aimAll (wsV RX0 74 RX0 yX0_rank wsX0_rank) := goodIn_app (goodIn_of _ (by decide +kernel)) ggX0_aimAll_X0_rank
set_option maxRecDepth 20000 in
theorem ggX0_aimAll_X1_size : GoodIn wsX0_aimAll wsX1_size := goodIn_r _ [20, 21, 74, 75, 76, 77, 78, 79, 80, 81, 82, 83, 84] rfl (by decide +kernel)
set_option maxRecDepth 20000 in
theorem gX0_aimAll_X1_size : GoodIn wsX0_aimAll (wsV RX0 54 RX1 yX1_size wsX1_size) := goodIn_app (goodIn_of _ (by decide +kernel)) ggX0_aimAll_X1_size
set_option maxRecDepth 20000 in
theorem ggX0_aimAll_X0_roomiestCell : GoodIn wsX0_aimAll wsX0_roomiestCell := goodIn_r _ [62, 2, 63, 64, 65, 66, 67, 68, 69, 70, 71, 72, 73] rfl (by decide +kernel)
set_option maxRecDepth 20000 in
theorem gX0_aimAll_X0_roomiestCell : GoodIn wsX0_aimAll (wsV RX0 77 RX0 yX0_roomiestCell wsX0_roomiestCell) := goodIn_app (goodIn_of _ (by decide +kernel)) ggX0_aimAll_X0_roomiestCell
theorem dX0_aimAll_0 : decode cX0_aimAll 0 = .ok (.aload_n 0, 1) := by decide +kernel
theorem dX0_aimAll_1 : decode cX0_aimAll 1 = .ok (.iload_n 1, 1) := by decide +kernel
theorem dX0_aimAll_2 : decode cX0_aimAll 2 = .ok (.iload_n 2, 1) := by decide +kernel
theorem dX0_aimAll_3 : decode cX0_aimAll 3 = .ok (.invokevirtual 70, 3) := by decide +kernel
theorem dX0_aimAll_6 : decode cX0_aimAll 6 = .ok (.aload_n 0, 1) := by decide +kernel
theorem dX0_aimAll_7 : decode cX0_aimAll 7 = .ok (.invokevirtual 74, 3) := by decide +kernel
theorem dX0_aimAll_10 : decode cX0_aimAll 10 = .ok (.aload_n 0, 1) := by decide +kernel
theorem dX0_aimAll_11 : decode cX0_aimAll 11 = .ok (.getfield 15, 3) := by decide +kernel
theorem dX0_aimAll_14 : decode cX0_aimAll 14 = .ok (.iconst 0, 1) := by decide +kernel
theorem dX0_aimAll_15 : decode cX0_aimAll 15 = .ok (.aload_n 0, 1) := by decide +kernel
theorem dX0_aimAll_16 : decode cX0_aimAll 16 = .ok (.getfield 34, 3) := by decide +kernel
theorem dX0_aimAll_19 : decode cX0_aimAll 19 = .ok (.iconst 0, 1) := by decide +kernel
theorem dX0_aimAll_20 : decode cX0_aimAll 20 = .ok (.iconst 4, 1) := by decide +kernel
theorem dX0_aimAll_21 : decode cX0_aimAll 21 = .ok (.invokestatic 64, 3) := by decide +kernel
theorem dX0_aimAll_24 : decode cX0_aimAll 24 = .ok (.iconst 0, 1) := by decide +kernel
theorem dX0_aimAll_25 : decode cX0_aimAll 25 = .ok (.istore_n 3, 1) := by decide +kernel
theorem dX0_aimAll_26 : decode cX0_aimAll 26 = .ok (.iconst 0, 1) := by decide +kernel
theorem dX0_aimAll_27 : decode cX0_aimAll 27 = .ok (.istore 4, 2) := by decide +kernel
theorem dX0_aimAll_29 : decode cX0_aimAll 29 = .ok (.iload 4, 2) := by decide +kernel
theorem dX0_aimAll_31 : decode cX0_aimAll 31 = .ok (.aload_n 0, 1) := by decide +kernel
theorem dX0_aimAll_32 : decode cX0_aimAll 32 = .ok (.getfield 11, 3) := by decide +kernel
theorem dX0_aimAll_35 : decode cX0_aimAll 35 = .ok (.invokevirtual 54, 3) := by decide +kernel
theorem dX0_aimAll_38 : decode cX0_aimAll 38 = .ok (.if_icmp .ge 89, 3) := by decide +kernel
theorem dX0_aimAll_41 : decode cX0_aimAll 41 = .ok (.aload_n 0, 1) := by decide +kernel
theorem dX0_aimAll_42 : decode cX0_aimAll 42 = .ok (.getfield 25, 3) := by decide +kernel
theorem dX0_aimAll_45 : decode cX0_aimAll 45 = .ok (.iload 4, 2) := by decide +kernel
theorem dX0_aimAll_47 : decode cX0_aimAll 47 = .ok (.iaload, 1) := by decide +kernel
theorem dX0_aimAll_48 : decode cX0_aimAll 48 = .ok (.istore 5, 2) := by decide +kernel
theorem dX0_aimAll_50 : decode cX0_aimAll 50 = .ok (.aload_n 0, 1) := by decide +kernel
theorem dX0_aimAll_51 : decode cX0_aimAll 51 = .ok (.invokevirtual 77, 3) := by decide +kernel
theorem dX0_aimAll_54 : decode cX0_aimAll 54 = .ok (.istore 6, 2) := by decide +kernel
theorem dX0_aimAll_56 : decode cX0_aimAll 56 = .ok (.aload_n 0, 1) := by decide +kernel
theorem dX0_aimAll_57 : decode cX0_aimAll 57 = .ok (.getfield 28, 3) := by decide +kernel
theorem dX0_aimAll_60 : decode cX0_aimAll 60 = .ok (.iload 5, 2) := by decide +kernel
theorem dX0_aimAll_62 : decode cX0_aimAll 62 = .ok (.iaload, 1) := by decide +kernel
theorem dX0_aimAll_63 : decode cX0_aimAll 63 = .ok (.aload_n 0, 1) := by decide +kernel
theorem dX0_aimAll_64 : decode cX0_aimAll 64 = .ok (.getfield 34, 3) := by decide +kernel
theorem dX0_aimAll_67 : decode cX0_aimAll 67 = .ok (.iload 6, 2) := by decide +kernel
theorem dX0_aimAll_69 : decode cX0_aimAll 69 = .ok (.iaload, 1) := by decide +kernel
theorem dX0_aimAll_70 : decode cX0_aimAll 70 = .ok (.if_icmp .gt 42, 3) := by decide +kernel
theorem dX0_aimAll_73 : decode cX0_aimAll 73 = .ok (.aload_n 0, 1) := by decide +kernel
theorem dX0_aimAll_74 : decode cX0_aimAll 74 = .ok (.getfield 31, 3) := by decide +kernel
theorem dX0_aimAll_77 : decode cX0_aimAll 77 = .ok (.iload 5, 2) := by decide +kernel
theorem dX0_aimAll_79 : decode cX0_aimAll 79 = .ok (.iload 6, 2) := by decide +kernel
theorem dX0_aimAll_81 : decode cX0_aimAll 81 = .ok (.iastore, 1) := by decide +kernel
theorem dX0_aimAll_82 : decode cX0_aimAll 82 = .ok (.aload_n 0, 1) := by decide +kernel
theorem dX0_aimAll_83 : decode cX0_aimAll 83 = .ok (.getfield 34, 3) := by decide +kernel
theorem dX0_aimAll_86 : decode cX0_aimAll 86 = .ok (.iload 6, 2) := by decide +kernel
theorem dX0_aimAll_88 : decode cX0_aimAll 88 = .ok (.dup2, 1) := by decide +kernel
theorem dX0_aimAll_89 : decode cX0_aimAll 89 = .ok (.iaload, 1) := by decide +kernel
theorem dX0_aimAll_90 : decode cX0_aimAll 90 = .ok (.aload_n 0, 1) := by decide +kernel
theorem dX0_aimAll_91 : decode cX0_aimAll 91 = .ok (.getfield 28, 3) := by decide +kernel
theorem dX0_aimAll_94 : decode cX0_aimAll 94 = .ok (.iload 5, 2) := by decide +kernel
theorem dX0_aimAll_96 : decode cX0_aimAll 96 = .ok (.iaload, 1) := by decide +kernel
theorem dX0_aimAll_97 : decode cX0_aimAll 97 = .ok (.isub, 1) := by decide +kernel
theorem dX0_aimAll_98 : decode cX0_aimAll 98 = .ok (.iastore, 1) := by decide +kernel
theorem dX0_aimAll_99 : decode cX0_aimAll 99 = .ok (.iload_n 3, 1) := by decide +kernel
theorem dX0_aimAll_100 : decode cX0_aimAll 100 = .ok (.aload_n 0, 1) := by decide +kernel
theorem dX0_aimAll_101 : decode cX0_aimAll 101 = .ok (.getfield 28, 3) := by decide +kernel
theorem dX0_aimAll_104 : decode cX0_aimAll 104 = .ok (.iload 5, 2) := by decide +kernel
theorem dX0_aimAll_106 : decode cX0_aimAll 106 = .ok (.iaload, 1) := by decide +kernel
theorem dX0_aimAll_107 : decode cX0_aimAll 107 = .ok (.iadd, 1) := by decide +kernel
theorem dX0_aimAll_108 : decode cX0_aimAll 108 = .ok (.istore_n 3, 1) := by decide +kernel
theorem dX0_aimAll_109 : decode cX0_aimAll 109 = .ok (.goto 12, 3) := by decide +kernel
theorem dX0_aimAll_112 : decode cX0_aimAll 112 = .ok (.aload_n 0, 1) := by decide +kernel
theorem dX0_aimAll_113 : decode cX0_aimAll 113 = .ok (.getfield 31, 3) := by decide +kernel
theorem dX0_aimAll_116 : decode cX0_aimAll 116 = .ok (.iload 5, 2) := by decide +kernel
theorem dX0_aimAll_118 : decode cX0_aimAll 118 = .ok (.bipush (-2), 2) := by decide +kernel
theorem dX0_aimAll_120 : decode cX0_aimAll 120 = .ok (.iastore, 1) := by decide +kernel
theorem dX0_aimAll_121 : decode cX0_aimAll 121 = .ok (.iinc 4 1, 3) := by decide +kernel
theorem dX0_aimAll_124 : decode cX0_aimAll 124 = .ok (.goto (-95), 3) := by decide +kernel
theorem dX0_aimAll_127 : decode cX0_aimAll 127 = .ok (.iload_n 3, 1) := by decide +kernel
theorem dX0_aimAll_128 : decode cX0_aimAll 128 = .ok (.ireturn, 1) := by decide +kernel
theorem dX0_roomiestCell_0 : decode cX0_roomiestCell 0 = .ok (.iconst 0, 1) := by decide +kernel
theorem dX0_roomiestCell_1 : decode cX0_roomiestCell 1 = .ok (.istore_n 1, 1) := by decide +kernel
theorem dX0_roomiestCell_2 : decode cX0_roomiestCell 2 = .ok (.iconst 1, 1) := by decide +kernel
theorem dX0_roomiestCell_3 : decode cX0_roomiestCell 3 = .ok (.istore_n 2, 1) := by decide +kernel
theorem dX0_roomiestCell_4 : decode cX0_roomiestCell 4 = .ok (.iload_n 2, 1) := by decide +kernel
theorem dX0_roomiestCell_5 : decode cX0_roomiestCell 5 = .ok (.iconst 4, 1) := by decide +kernel
theorem dX0_roomiestCell_6 : decode cX0_roomiestCell 6 = .ok (.if_icmp .ge 26, 3) := by decide +kernel
theorem dX0_roomiestCell_9 : decode cX0_roomiestCell 9 = .ok (.aload_n 0, 1) := by decide +kernel
theorem dX0_roomiestCell_10 : decode cX0_roomiestCell 10 = .ok (.getfield 34, 3) := by decide +kernel
theorem dX0_roomiestCell_13 : decode cX0_roomiestCell 13 = .ok (.iload_n 2, 1) := by decide +kernel
theorem dX0_roomiestCell_14 : decode cX0_roomiestCell 14 = .ok (.iaload, 1) := by decide +kernel
theorem dX0_roomiestCell_15 : decode cX0_roomiestCell 15 = .ok (.aload_n 0, 1) := by decide +kernel
theorem dX0_roomiestCell_16 : decode cX0_roomiestCell 16 = .ok (.getfield 34, 3) := by decide +kernel
theorem dX0_roomiestCell_19 : decode cX0_roomiestCell 19 = .ok (.iload_n 1, 1) := by decide +kernel
theorem dX0_roomiestCell_20 : decode cX0_roomiestCell 20 = .ok (.iaload, 1) := by decide +kernel
theorem dX0_roomiestCell_21 : decode cX0_roomiestCell 21 = .ok (.if_icmp .le 5, 3) := by decide +kernel
theorem dX0_roomiestCell_24 : decode cX0_roomiestCell 24 = .ok (.iload_n 2, 1) := by decide +kernel
theorem dX0_roomiestCell_25 : decode cX0_roomiestCell 25 = .ok (.istore_n 1, 1) := by decide +kernel
theorem dX0_roomiestCell_26 : decode cX0_roomiestCell 26 = .ok (.iinc 2 1, 3) := by decide +kernel
theorem dX0_roomiestCell_29 : decode cX0_roomiestCell 29 = .ok (.goto (-25), 3) := by decide +kernel
theorem dX0_roomiestCell_32 : decode cX0_roomiestCell 32 = .ok (.iload_n 1, 1) := by decide +kernel
theorem dX0_roomiestCell_33 : decode cX0_roomiestCell 33 = .ok (.ireturn, 1) := by decide +kernel
set_option maxRecDepth 20000 in
theorem ggX0_readPowers_X1_size : GoodIn wsX0_readPowers wsX1_size := goodIn_r _ [7, 8, 53, 54, 55, 56, 57, 58, 59, 60, 61, 62, 63] rfl (by decide +kernel)
set_option maxRecDepth 20000 in
theorem gX0_readPowers_X1_size : GoodIn wsX0_readPowers (wsV RX0 54 RX1 yX1_size wsX1_size) := goodIn_app (goodIn_of _ (by decide +kernel)) ggX0_readPowers_X1_size
set_option maxRecDepth 20000 in
theorem ggX0_readPowers_X1_powerOf : GoodIn wsX0_readPowers wsX1_powerOf := goodIn_r _ [12, 13, 14, 15, 16, 17, 18, 19, 20, 21, 6, 22, 23, 24, 25, 26, 27, 28, 29, 30, 31, 32, 33, 34, 35, 36, 37, 38, 39, 40, 41, 53, 54, 55, 56, 57, 58, 59, 60, 61, 62, 63] rfl (by decide +kernel)
set_option maxRecDepth 20000 in
theorem gX0_readPowers_X1_powerOf : GoodIn wsX0_readPowers (wsV RX0 80 RX1 yX1_powerOf wsX1_powerOf) := goodIn_app (goodIn_of _ (by decide +kernel)) ggX0_readPowers_X1_powerOf
theorem dX0_readPowers_0 : decode cX0_readPowers 0 = .ok (.iconst 0, 1) := by decide +kernel
theorem dX0_readPowers_1 : decode cX0_readPowers 1 = .ok (.istore_n 3, 1) := by decide +kernel
theorem dX0_readPowers_2 : decode cX0_readPowers 2 = .ok (.iload_n 3, 1) := by decide +kernel
theorem dX0_readPowers_3 : decode cX0_readPowers 3 = .ok (.aload_n 0, 1) := by decide +kernel
theorem dX0_readPowers_4 : decode cX0_readPowers 4 = .ok (.getfield 11, 3) := by decide +kernel
theorem dX0_readPowers_7 : decode cX0_readPowers 7 = .ok (.invokevirtual 54, 3) := by decide +kernel
theorem dX0_readPowers_10 : decode cX0_readPowers 10 = .ok (.if_icmp .ge 25, 3) := by decide +kernel
theorem dX0_readPowers_13 : decode cX0_readPowers 13 = .ok (.aload_n 0, 1) := by decide +kernel
theorem dX0_readPowers_14 : decode cX0_readPowers 14 = .ok (.getfield 28, 3) := by decide +kernel
theorem dX0_readPowers_17 : decode cX0_readPowers 17 = .ok (.iload_n 3, 1) := by decide +kernel
theorem dX0_readPowers_18 : decode cX0_readPowers 18 = .ok (.aload_n 0, 1) := by decide +kernel
theorem dX0_readPowers_19 : decode cX0_readPowers 19 = .ok (.getfield 11, 3) := by decide +kernel
theorem dX0_readPowers_22 : decode cX0_readPowers 22 = .ok (.iload_n 3, 1) := by decide +kernel
theorem dX0_readPowers_23 : decode cX0_readPowers 23 = .ok (.iload_n 1, 1) := by decide +kernel
theorem dX0_readPowers_24 : decode cX0_readPowers 24 = .ok (.iload_n 2, 1) := by decide +kernel
theorem dX0_readPowers_25 : decode cX0_readPowers 25 = .ok (.invokevirtual 80, 3) := by decide +kernel
theorem dX0_readPowers_28 : decode cX0_readPowers 28 = .ok (.iastore, 1) := by decide +kernel
theorem dX0_readPowers_29 : decode cX0_readPowers 29 = .ok (.iinc 3 1, 3) := by decide +kernel
theorem dX0_readPowers_32 : decode cX0_readPowers 32 = .ok (.goto (-30), 3) := by decide +kernel
theorem dX0_readPowers_35 : decode cX0_readPowers 35 = .ok (.return_, 1) := by decide +kernel
set_option maxRecDepth 20000 in
theorem ggX0_rank_X1_size : GoodIn wsX0_rank wsX1_size := goodIn_r _ [8, 9, 21, 22, 23, 24, 25, 26, 27, 28, 29, 30, 31] rfl (by decide +kernel)
set_option maxRecDepth 20000 in
theorem gX0_rank_X1_size : GoodIn wsX0_rank (wsV RX0 54 RX1 yX1_size wsX1_size) := goodIn_app (goodIn_of _ (by decide +kernel)) ggX0_rank_X1_size
theorem dX0_rank_0 : decode cX0_rank 0 = .ok (.iconst 0, 1) := by decide +kernel
theorem dX0_rank_1 : decode cX0_rank 1 = .ok (.istore_n 1, 1) := by decide +kernel
theorem dX0_rank_2 : decode cX0_rank 2 = .ok (.iload_n 1, 1) := by decide +kernel
theorem dX0_rank_3 : decode cX0_rank 3 = .ok (.aload_n 0, 1) := by decide +kernel
theorem dX0_rank_4 : decode cX0_rank 4 = .ok (.getfield 11, 3) := by decide +kernel
theorem dX0_rank_7 : decode cX0_rank 7 = .ok (.invokevirtual 54, 3) := by decide +kernel
theorem dX0_rank_10 : decode cX0_rank 10 = .ok (.if_icmp .ge 64, 3) := by decide +kernel
theorem dX0_rank_13 : decode cX0_rank 13 = .ok (.iload_n 1, 1) := by decide +kernel
theorem dX0_rank_14 : decode cX0_rank 14 = .ok (.istore_n 2, 1) := by decide +kernel
theorem dX0_rank_15 : decode cX0_rank 15 = .ok (.iload_n 2, 1) := by decide +kernel
theorem dX0_rank_16 : decode cX0_rank 16 = .ok (.ifCond .le 45, 3) := by decide +kernel
theorem dX0_rank_19 : decode cX0_rank 19 = .ok (.aload_n 0, 1) := by decide +kernel
theorem dX0_rank_20 : decode cX0_rank 20 = .ok (.getfield 28, 3) := by decide +kernel
theorem dX0_rank_23 : decode cX0_rank 23 = .ok (.aload_n 0, 1) := by decide +kernel
theorem dX0_rank_24 : decode cX0_rank 24 = .ok (.getfield 25, 3) := by decide +kernel
theorem dX0_rank_27 : decode cX0_rank 27 = .ok (.iload_n 2, 1) := by decide +kernel
theorem dX0_rank_28 : decode cX0_rank 28 = .ok (.iconst 1, 1) := by decide +kernel
theorem dX0_rank_29 : decode cX0_rank 29 = .ok (.isub, 1) := by decide +kernel
theorem dX0_rank_30 : decode cX0_rank 30 = .ok (.iaload, 1) := by decide +kernel
theorem dX0_rank_31 : decode cX0_rank 31 = .ok (.iaload, 1) := by decide +kernel
theorem dX0_rank_32 : decode cX0_rank 32 = .ok (.aload_n 0, 1) := by decide +kernel
theorem dX0_rank_33 : decode cX0_rank 33 = .ok (.getfield 28, 3) := by decide +kernel
theorem dX0_rank_36 : decode cX0_rank 36 = .ok (.iload_n 1, 1) := by decide +kernel
theorem dX0_rank_37 : decode cX0_rank 37 = .ok (.iaload, 1) := by decide +kernel
theorem dX0_rank_38 : decode cX0_rank 38 = .ok (.if_icmp .ge 23, 3) := by decide +kernel
theorem dX0_rank_41 : decode cX0_rank 41 = .ok (.aload_n 0, 1) := by decide +kernel
theorem dX0_rank_42 : decode cX0_rank 42 = .ok (.getfield 25, 3) := by decide +kernel
theorem dX0_rank_45 : decode cX0_rank 45 = .ok (.iload_n 2, 1) := by decide +kernel
theorem dX0_rank_46 : decode cX0_rank 46 = .ok (.aload_n 0, 1) := by decide +kernel
theorem dX0_rank_47 : decode cX0_rank 47 = .ok (.getfield 25, 3) := by decide +kernel
theorem dX0_rank_50 : decode cX0_rank 50 = .ok (.iload_n 2, 1) := by decide +kernel
theorem dX0_rank_51 : decode cX0_rank 51 = .ok (.iconst 1, 1) := by decide +kernel
theorem dX0_rank_52 : decode cX0_rank 52 = .ok (.isub, 1) := by decide +kernel
theorem dX0_rank_53 : decode cX0_rank 53 = .ok (.iaload, 1) := by decide +kernel
theorem dX0_rank_54 : decode cX0_rank 54 = .ok (.iastore, 1) := by decide +kernel
theorem dX0_rank_55 : decode cX0_rank 55 = .ok (.iinc 2 (-1), 3) := by decide +kernel
theorem dX0_rank_58 : decode cX0_rank 58 = .ok (.goto (-43), 3) := by decide +kernel
theorem dX0_rank_61 : decode cX0_rank 61 = .ok (.aload_n 0, 1) := by decide +kernel
theorem dX0_rank_62 : decode cX0_rank 62 = .ok (.getfield 25, 3) := by decide +kernel
theorem dX0_rank_65 : decode cX0_rank 65 = .ok (.iload_n 2, 1) := by decide +kernel
theorem dX0_rank_66 : decode cX0_rank 66 = .ok (.iload_n 1, 1) := by decide +kernel
theorem dX0_rank_67 : decode cX0_rank 67 = .ok (.iastore, 1) := by decide +kernel
theorem dX0_rank_68 : decode cX0_rank 68 = .ok (.iinc 1 1, 3) := by decide +kernel
theorem dX0_rank_71 : decode cX0_rank 71 = .ok (.goto (-69), 3) := by decide +kernel
theorem dX0_rank_74 : decode cX0_rank 74 = .ok (.return_, 1) := by decide +kernel
set_option maxRecDepth 20000 in
theorem ggX0_bestHeat_X0_readPowers : GoodIn wsX0_bestHeat wsX0_readPowers := goodIn_r _ [16, 1, 17, 18, 19, 20, 21, 22, 23, 24, 25, 26, 27, 28, 29, 10, 4, 11, 30, 31, 32, 33, 34, 35, 36, 37, 38, 39, 40, 41, 42, 3, 5, 43, 44, 45, 46, 47, 48, 49, 50, 51, 65, 66, 67, 68, 69, 70, 71, 72, 73, 74, 75, 76, 77, 78, 79, 80, 81, 82, 83, 84, 85, 86] rfl (by decide +kernel)
set_option maxRecDepth 20000 in
theorem gX0_bestHeat_X0_readPowers : GoodIn wsX0_bestHeat (wsV RX0 70 RX0 yX0_readPowers wsX0_readPowers) := goodIn_app (goodIn_of _ (by decide +kernel)) ggX0_bestHeat_X0_readPowers
set_option maxRecDepth 20000 in
theorem ggX0_bestHeat_X0_rank : GoodIn wsX0_bestHeat wsX0_rank := goodIn_r _ [55, 1, 17, 56, 18, 19, 20, 21, 22, 23, 65, 66, 67, 68, 69, 70, 71, 72, 73, 74, 75, 76, 77, 78, 79, 80, 81, 82, 83, 84, 85, 86] rfl (by decide +kernel)
set_option maxRecDepth 20000 in
theorem gX0_bestHeat_X0_rank : GoodIn wsX0_bestHeat (wsV RX0 74 RX0 yX0_rank wsX0_rank) := goodIn_app (goodIn_of _ (by decide +kernel)) ggX0_bestHeat_X0_rank
set_option maxRecDepth 20000 in
theorem ggX0_bestHeat_X1_size : GoodIn wsX0_bestHeat wsX1_size := goodIn_r _ [22, 23, 76, 77, 78, 79, 80, 81, 82, 83, 84, 85, 86] rfl (by decide +kernel)
set_option maxRecDepth 20000 in
theorem gX0_bestHeat_X1_size : GoodIn wsX0_bestHeat (wsV RX0 54 RX1 yX1_size wsX1_size) := goodIn_app (goodIn_of _ (by decide +kernel)) ggX0_bestHeat_X1_size
set_option maxRecDepth 20000 in
theorem ggX0_bestHeat_X0_addUpSets : GoodIn wsX0_bestHeat wsX0_addUpSets := goodIn_r _ [60, 8, 17, 56, 65, 66, 67, 68, 69, 70, 71, 72, 73, 74, 75] rfl (by decide +kernel)
set_option maxRecDepth 20000 in
theorem gX0_bestHeat_X0_addUpSets : GoodIn wsX0_bestHeat (wsV RX0 89 RX0 yX0_addUpSets wsX0_addUpSets) := goodIn_app (goodIn_of _ (by decide +kernel)) ggX0_bestHeat_X0_addUpSets
set_option maxRecDepth 20000 in
theorem ggX0_bestHeat_X0_widen : GoodIn wsX0_bestHeat wsX0_widen := goodIn_r _ [64, 6, 8, 65, 66, 67, 68, 69, 70, 71, 72, 73, 74, 75] rfl (by decide +kernel)
set_option maxRecDepth 20000 in
theorem gX0_bestHeat_X0_widen : GoodIn wsX0_bestHeat (wsV RX0 93 RX0 yX0_widen wsX0_widen) := goodIn_app (goodIn_of _ (by decide +kernel)) ggX0_bestHeat_X0_widen
theorem dX0_bestHeat_0 : decode cX0_bestHeat 0 = .ok (.aload_n 0, 1) := by decide +kernel
theorem dX0_bestHeat_1 : decode cX0_bestHeat 1 = .ok (.iload_n 1, 1) := by decide +kernel
theorem dX0_bestHeat_2 : decode cX0_bestHeat 2 = .ok (.iconst 0, 1) := by decide +kernel
theorem dX0_bestHeat_3 : decode cX0_bestHeat 3 = .ok (.invokevirtual 70, 3) := by decide +kernel
theorem dX0_bestHeat_6 : decode cX0_bestHeat 6 = .ok (.aload_n 0, 1) := by decide +kernel
theorem dX0_bestHeat_7 : decode cX0_bestHeat 7 = .ok (.invokevirtual 74, 3) := by decide +kernel
theorem dX0_bestHeat_10 : decode cX0_bestHeat 10 = .ok (.bipush 7, 2) := by decide +kernel
theorem dX0_bestHeat_12 : decode cX0_bestHeat 12 = .ok (.aload_n 0, 1) := by decide +kernel
theorem dX0_bestHeat_13 : decode cX0_bestHeat 13 = .ok (.getfield 11, 3) := by decide +kernel
theorem dX0_bestHeat_16 : decode cX0_bestHeat 16 = .ok (.invokevirtual 54, 3) := by decide +kernel
theorem dX0_bestHeat_19 : decode cX0_bestHeat 19 = .ok (.invokestatic 84, 3) := by decide +kernel
theorem dX0_bestHeat_22 : decode cX0_bestHeat 22 = .ok (.istore_n 2, 1) := by decide +kernel
theorem dX0_bestHeat_23 : decode cX0_bestHeat 23 = .ok (.iconst 1, 1) := by decide +kernel
theorem dX0_bestHeat_24 : decode cX0_bestHeat 24 = .ok (.iload_n 2, 1) := by decide +kernel
theorem dX0_bestHeat_25 : decode cX0_bestHeat 25 = .ok (.ishl, 1) := by decide +kernel
theorem dX0_bestHeat_26 : decode cX0_bestHeat 26 = .ok (.istore_n 3, 1) := by decide +kernel
theorem dX0_bestHeat_27 : decode cX0_bestHeat 27 = .ok (.aload_n 0, 1) := by decide +kernel
theorem dX0_bestHeat_28 : decode cX0_bestHeat 28 = .ok (.iload_n 2, 1) := by decide +kernel
theorem dX0_bestHeat_29 : decode cX0_bestHeat 29 = .ok (.invokevirtual 89, 3) := by decide +kernel
theorem dX0_bestHeat_32 : decode cX0_bestHeat 32 = .ok (.iconst 0, 1) := by decide +kernel
theorem dX0_bestHeat_33 : decode cX0_bestHeat 33 = .ok (.istore 4, 2) := by decide +kernel
theorem dX0_bestHeat_35 : decode cX0_bestHeat 35 = .ok (.iload 4, 2) := by decide +kernel
theorem dX0_bestHeat_37 : decode cX0_bestHeat 37 = .ok (.iload_n 3, 1) := by decide +kernel
theorem dX0_bestHeat_38 : decode cX0_bestHeat 38 = .ok (.if_icmp .ge 26, 3) := by decide +kernel
theorem dX0_bestHeat_41 : decode cX0_bestHeat 41 = .ok (.aload_n 0, 1) := by decide +kernel
theorem dX0_bestHeat_42 : decode cX0_bestHeat 42 = .ok (.getfield 46, 3) := by decide +kernel
theorem dX0_bestHeat_45 : decode cX0_bestHeat 45 = .ok (.iload 4, 2) := by decide +kernel
theorem dX0_bestHeat_47 : decode cX0_bestHeat 47 = .ok (.iload 4, 2) := by decide +kernel
theorem dX0_bestHeat_49 : decode cX0_bestHeat 49 = .ok (.ifCond .ne 7, 3) := by decide +kernel
theorem dX0_bestHeat_52 : decode cX0_bestHeat 52 = .ok (.iconst 1, 1) := by decide +kernel
theorem dX0_bestHeat_53 : decode cX0_bestHeat 53 = .ok (.goto 4, 3) := by decide +kernel
theorem dX0_bestHeat_56 : decode cX0_bestHeat 56 = .ok (.iconst 0, 1) := by decide +kernel
theorem dX0_bestHeat_57 : decode cX0_bestHeat 57 = .ok (.bastore, 1) := by decide +kernel
theorem dX0_bestHeat_58 : decode cX0_bestHeat 58 = .ok (.iinc 4 1, 3) := by decide +kernel
theorem dX0_bestHeat_61 : decode cX0_bestHeat 61 = .ok (.goto (-26), 3) := by decide +kernel
theorem dX0_bestHeat_64 : decode cX0_bestHeat 64 = .ok (.iconst 0, 1) := by decide +kernel
theorem dX0_bestHeat_65 : decode cX0_bestHeat 65 = .ok (.istore 4, 2) := by decide +kernel
theorem dX0_bestHeat_67 : decode cX0_bestHeat 67 = .ok (.iload 4, 2) := by decide +kernel
theorem dX0_bestHeat_69 : decode cX0_bestHeat 69 = .ok (.iconst 4, 1) := by decide +kernel
theorem dX0_bestHeat_70 : decode cX0_bestHeat 70 = .ok (.if_icmp .ge 21, 3) := by decide +kernel
theorem dX0_bestHeat_73 : decode cX0_bestHeat 73 = .ok (.aload_n 0, 1) := by decide +kernel
theorem dX0_bestHeat_74 : decode cX0_bestHeat 74 = .ok (.iload_n 3, 1) := by decide +kernel
theorem dX0_bestHeat_75 : decode cX0_bestHeat 75 = .ok (.aload_n 0, 1) := by decide +kernel
theorem dX0_bestHeat_76 : decode cX0_bestHeat 76 = .ok (.getfield 15, 3) := by decide +kernel
theorem dX0_bestHeat_79 : decode cX0_bestHeat 79 = .ok (.iload 4, 2) := by decide +kernel
theorem dX0_bestHeat_81 : decode cX0_bestHeat 81 = .ok (.iaload, 1) := by decide +kernel
theorem dX0_bestHeat_82 : decode cX0_bestHeat 82 = .ok (.invokevirtual 93, 3) := by decide +kernel
theorem dX0_bestHeat_85 : decode cX0_bestHeat 85 = .ok (.iinc 4 1, 3) := by decide +kernel
theorem dX0_bestHeat_88 : decode cX0_bestHeat 88 = .ok (.goto (-21), 3) := by decide +kernel
theorem dX0_bestHeat_91 : decode cX0_bestHeat 91 = .ok (.iconst 0, 1) := by decide +kernel
theorem dX0_bestHeat_92 : decode cX0_bestHeat 92 = .ok (.istore 4, 2) := by decide +kernel
theorem dX0_bestHeat_94 : decode cX0_bestHeat 94 = .ok (.iconst 0, 1) := by decide +kernel
theorem dX0_bestHeat_95 : decode cX0_bestHeat 95 = .ok (.istore 5, 2) := by decide +kernel
theorem dX0_bestHeat_97 : decode cX0_bestHeat 97 = .ok (.iload 5, 2) := by decide +kernel
theorem dX0_bestHeat_99 : decode cX0_bestHeat 99 = .ok (.iload_n 3, 1) := by decide +kernel
theorem dX0_bestHeat_100 : decode cX0_bestHeat 100 = .ok (.if_icmp .ge 33, 3) := by decide +kernel
theorem dX0_bestHeat_103 : decode cX0_bestHeat 103 = .ok (.aload_n 0, 1) := by decide +kernel
theorem dX0_bestHeat_104 : decode cX0_bestHeat 104 = .ok (.getfield 46, 3) := by decide +kernel
theorem dX0_bestHeat_107 : decode cX0_bestHeat 107 = .ok (.iload 5, 2) := by decide +kernel
theorem dX0_bestHeat_109 : decode cX0_bestHeat 109 = .ok (.baload, 1) := by decide +kernel
theorem dX0_bestHeat_110 : decode cX0_bestHeat 110 = .ok (.ifCond .eq 17, 3) := by decide +kernel
theorem dX0_bestHeat_113 : decode cX0_bestHeat 113 = .ok (.iload 4, 2) := by decide +kernel
theorem dX0_bestHeat_115 : decode cX0_bestHeat 115 = .ok (.aload_n 0, 1) := by decide +kernel
theorem dX0_bestHeat_116 : decode cX0_bestHeat 116 = .ok (.getfield 43, 3) := by decide +kernel
theorem dX0_bestHeat_119 : decode cX0_bestHeat 119 = .ok (.iload 5, 2) := by decide +kernel
theorem dX0_bestHeat_121 : decode cX0_bestHeat 121 = .ok (.iaload, 1) := by decide +kernel
theorem dX0_bestHeat_122 : decode cX0_bestHeat 122 = .ok (.invokestatic 96, 3) := by decide +kernel
theorem dX0_bestHeat_125 : decode cX0_bestHeat 125 = .ok (.istore 4, 2) := by decide +kernel
theorem dX0_bestHeat_127 : decode cX0_bestHeat 127 = .ok (.iinc 5 1, 3) := by decide +kernel
theorem dX0_bestHeat_130 : decode cX0_bestHeat 130 = .ok (.goto (-33), 3) := by decide +kernel
theorem dX0_bestHeat_133 : decode cX0_bestHeat 133 = .ok (.iload 4, 2) := by decide +kernel
theorem dX0_bestHeat_135 : decode cX0_bestHeat 135 = .ok (.ireturn, 1) := by decide +kernel
theorem dX0_addUpSets_0 : decode cX0_addUpSets 0 = .ok (.aload_n 0, 1) := by decide +kernel
theorem dX0_addUpSets_1 : decode cX0_addUpSets 1 = .ok (.getfield 43, 3) := by decide +kernel
theorem dX0_addUpSets_4 : decode cX0_addUpSets 4 = .ok (.iconst 0, 1) := by decide +kernel
theorem dX0_addUpSets_5 : decode cX0_addUpSets 5 = .ok (.iconst 0, 1) := by decide +kernel
theorem dX0_addUpSets_6 : decode cX0_addUpSets 6 = .ok (.iastore, 1) := by decide +kernel
theorem dX0_addUpSets_7 : decode cX0_addUpSets 7 = .ok (.iconst 0, 1) := by decide +kernel
theorem dX0_addUpSets_8 : decode cX0_addUpSets 8 = .ok (.istore_n 2, 1) := by decide +kernel
theorem dX0_addUpSets_9 : decode cX0_addUpSets 9 = .ok (.iload_n 2, 1) := by decide +kernel
theorem dX0_addUpSets_10 : decode cX0_addUpSets 10 = .ok (.iload_n 1, 1) := by decide +kernel
theorem dX0_addUpSets_11 : decode cX0_addUpSets 11 = .ok (.if_icmp .ge 56, 3) := by decide +kernel
theorem dX0_addUpSets_14 : decode cX0_addUpSets 14 = .ok (.iconst 1, 1) := by decide +kernel
theorem dX0_addUpSets_15 : decode cX0_addUpSets 15 = .ok (.iload_n 2, 1) := by decide +kernel
theorem dX0_addUpSets_16 : decode cX0_addUpSets 16 = .ok (.ishl, 1) := by decide +kernel
theorem dX0_addUpSets_17 : decode cX0_addUpSets 17 = .ok (.istore_n 3, 1) := by decide +kernel
theorem dX0_addUpSets_18 : decode cX0_addUpSets 18 = .ok (.iconst 0, 1) := by decide +kernel
theorem dX0_addUpSets_19 : decode cX0_addUpSets 19 = .ok (.istore 4, 2) := by decide +kernel
theorem dX0_addUpSets_21 : decode cX0_addUpSets 21 = .ok (.iload 4, 2) := by decide +kernel
theorem dX0_addUpSets_23 : decode cX0_addUpSets 23 = .ok (.iload_n 3, 1) := by decide +kernel
theorem dX0_addUpSets_24 : decode cX0_addUpSets 24 = .ok (.if_icmp .ge 37, 3) := by decide +kernel
theorem dX0_addUpSets_27 : decode cX0_addUpSets 27 = .ok (.aload_n 0, 1) := by decide +kernel
theorem dX0_addUpSets_28 : decode cX0_addUpSets 28 = .ok (.getfield 43, 3) := by decide +kernel
theorem dX0_addUpSets_31 : decode cX0_addUpSets 31 = .ok (.iload 4, 2) := by decide +kernel
theorem dX0_addUpSets_33 : decode cX0_addUpSets 33 = .ok (.iload_n 3, 1) := by decide +kernel
theorem dX0_addUpSets_34 : decode cX0_addUpSets 34 = .ok (.ior, 1) := by decide +kernel
theorem dX0_addUpSets_35 : decode cX0_addUpSets 35 = .ok (.aload_n 0, 1) := by decide +kernel
theorem dX0_addUpSets_36 : decode cX0_addUpSets 36 = .ok (.getfield 43, 3) := by decide +kernel
theorem dX0_addUpSets_39 : decode cX0_addUpSets 39 = .ok (.iload 4, 2) := by decide +kernel
theorem dX0_addUpSets_41 : decode cX0_addUpSets 41 = .ok (.iaload, 1) := by decide +kernel
theorem dX0_addUpSets_42 : decode cX0_addUpSets 42 = .ok (.aload_n 0, 1) := by decide +kernel
theorem dX0_addUpSets_43 : decode cX0_addUpSets 43 = .ok (.getfield 28, 3) := by decide +kernel
theorem dX0_addUpSets_46 : decode cX0_addUpSets 46 = .ok (.aload_n 0, 1) := by decide +kernel
theorem dX0_addUpSets_47 : decode cX0_addUpSets 47 = .ok (.getfield 25, 3) := by decide +kernel
theorem dX0_addUpSets_50 : decode cX0_addUpSets 50 = .ok (.iload_n 2, 1) := by decide +kernel
theorem dX0_addUpSets_51 : decode cX0_addUpSets 51 = .ok (.iaload, 1) := by decide +kernel
theorem dX0_addUpSets_52 : decode cX0_addUpSets 52 = .ok (.iaload, 1) := by decide +kernel
theorem dX0_addUpSets_53 : decode cX0_addUpSets 53 = .ok (.iadd, 1) := by decide +kernel
theorem dX0_addUpSets_54 : decode cX0_addUpSets 54 = .ok (.iastore, 1) := by decide +kernel
theorem dX0_addUpSets_55 : decode cX0_addUpSets 55 = .ok (.iinc 4 1, 3) := by decide +kernel
theorem dX0_addUpSets_58 : decode cX0_addUpSets 58 = .ok (.goto (-37), 3) := by decide +kernel
theorem dX0_addUpSets_61 : decode cX0_addUpSets 61 = .ok (.iinc 2 1, 3) := by decide +kernel
theorem dX0_addUpSets_64 : decode cX0_addUpSets 64 = .ok (.goto (-55), 3) := by decide +kernel
theorem dX0_addUpSets_67 : decode cX0_addUpSets 67 = .ok (.return_, 1) := by decide +kernel
theorem dX0_widen_0 : decode cX0_widen 0 = .ok (.iload_n 1, 1) := by decide +kernel
theorem dX0_widen_1 : decode cX0_widen 1 = .ok (.iconst 1, 1) := by decide +kernel
theorem dX0_widen_2 : decode cX0_widen 2 = .ok (.isub, 1) := by decide +kernel
theorem dX0_widen_3 : decode cX0_widen 3 = .ok (.istore_n 3, 1) := by decide +kernel
theorem dX0_widen_4 : decode cX0_widen 4 = .ok (.iload_n 3, 1) := by decide +kernel
theorem dX0_widen_5 : decode cX0_widen 5 = .ok (.ifCond .le 71, 3) := by decide +kernel
theorem dX0_widen_8 : decode cX0_widen 8 = .ok (.iload_n 3, 1) := by decide +kernel
theorem dX0_widen_9 : decode cX0_widen 9 = .ok (.istore 4, 2) := by decide +kernel
theorem dX0_widen_11 : decode cX0_widen 11 = .ok (.iload 4, 2) := by decide +kernel
theorem dX0_widen_13 : decode cX0_widen 13 = .ok (.ifCond .le 57, 3) := by decide +kernel
theorem dX0_widen_16 : decode cX0_widen 16 = .ok (.aload_n 0, 1) := by decide +kernel
theorem dX0_widen_17 : decode cX0_widen 17 = .ok (.getfield 46, 3) := by decide +kernel
theorem dX0_widen_20 : decode cX0_widen 20 = .ok (.iload_n 3, 1) := by decide +kernel
theorem dX0_widen_21 : decode cX0_widen 21 = .ok (.baload, 1) := by decide +kernel
theorem dX0_widen_22 : decode cX0_widen 22 = .ok (.ifCond .ne 48, 3) := by decide +kernel
theorem dX0_widen_25 : decode cX0_widen 25 = .ok (.aload_n 0, 1) := by decide +kernel
theorem dX0_widen_26 : decode cX0_widen 26 = .ok (.getfield 46, 3) := by decide +kernel
theorem dX0_widen_29 : decode cX0_widen 29 = .ok (.iload_n 3, 1) := by decide +kernel
theorem dX0_widen_30 : decode cX0_widen 30 = .ok (.aload_n 0, 1) := by decide +kernel
theorem dX0_widen_31 : decode cX0_widen 31 = .ok (.getfield 43, 3) := by decide +kernel
theorem dX0_widen_34 : decode cX0_widen 34 = .ok (.iload 4, 2) := by decide +kernel
theorem dX0_widen_36 : decode cX0_widen 36 = .ok (.iaload, 1) := by decide +kernel
theorem dX0_widen_37 : decode cX0_widen 37 = .ok (.iload_n 2, 1) := by decide +kernel
theorem dX0_widen_38 : decode cX0_widen 38 = .ok (.if_icmp .gt 19, 3) := by decide +kernel
theorem dX0_widen_41 : decode cX0_widen 41 = .ok (.aload_n 0, 1) := by decide +kernel
theorem dX0_widen_42 : decode cX0_widen 42 = .ok (.getfield 46, 3) := by decide +kernel
theorem dX0_widen_45 : decode cX0_widen 45 = .ok (.iload_n 3, 1) := by decide +kernel
theorem dX0_widen_46 : decode cX0_widen 46 = .ok (.iload 4, 2) := by decide +kernel
theorem dX0_widen_48 : decode cX0_widen 48 = .ok (.ixor, 1) := by decide +kernel
theorem dX0_widen_49 : decode cX0_widen 49 = .ok (.baload, 1) := by decide +kernel
theorem dX0_widen_50 : decode cX0_widen 50 = .ok (.ifCond .eq 7, 3) := by decide +kernel
theorem dX0_widen_53 : decode cX0_widen 53 = .ok (.iconst 1, 1) := by decide +kernel
theorem dX0_widen_54 : decode cX0_widen 54 = .ok (.goto 4, 3) := by decide +kernel
theorem dX0_widen_57 : decode cX0_widen 57 = .ok (.iconst 0, 1) := by decide +kernel
theorem dX0_widen_58 : decode cX0_widen 58 = .ok (.bastore, 1) := by decide +kernel
theorem dX0_widen_59 : decode cX0_widen 59 = .ok (.iload 4, 2) := by decide +kernel
theorem dX0_widen_61 : decode cX0_widen 61 = .ok (.iconst 1, 1) := by decide +kernel
theorem dX0_widen_62 : decode cX0_widen 62 = .ok (.isub, 1) := by decide +kernel
theorem dX0_widen_63 : decode cX0_widen 63 = .ok (.iload_n 3, 1) := by decide +kernel
theorem dX0_widen_64 : decode cX0_widen 64 = .ok (.iand, 1) := by decide +kernel
theorem dX0_widen_65 : decode cX0_widen 65 = .ok (.istore 4, 2) := by decide +kernel
theorem dX0_widen_67 : decode cX0_widen 67 = .ok (.goto (-56), 3) := by decide +kernel
theorem dX0_widen_70 : decode cX0_widen 70 = .ok (.iinc 3 (-1), 3) := by decide +kernel
theorem dX0_widen_73 : decode cX0_widen 73 = .ok (.goto (-69), 3) := by decide +kernel
theorem dX0_widen_76 : decode cX0_widen 76 = .ok (.return_, 1) := by decide +kernel
theorem dX1_init_0 : decode cX1_init 0 = .ok (.aload_n 0, 1) := by decide +kernel
theorem dX1_init_1 : decode cX1_init 1 = .ok (.invokespecial 3, 3) := by decide +kernel
theorem dX1_init_4 : decode cX1_init 4 = .ok (.aload_n 0, 1) := by decide +kernel
theorem dX1_init_5 : decode cX1_init 5 = .ok (.bipush 15, 2) := by decide +kernel
theorem dX1_init_7 : decode cX1_init 7 = .ok (.newarray .int, 2) := by decide +kernel
theorem dX1_init_9 : decode cX1_init 9 = .ok (.putfield 9, 3) := by decide +kernel
theorem dX1_init_12 : decode cX1_init 12 = .ok (.aload_n 0, 1) := by decide +kernel
theorem dX1_init_13 : decode cX1_init 13 = .ok (.bipush 40, 2) := by decide +kernel
theorem dX1_init_15 : decode cX1_init 15 = .ok (.newarray .int, 2) := by decide +kernel
theorem dX1_init_17 : decode cX1_init 17 = .ok (.putfield 15, 3) := by decide +kernel
theorem dX1_init_20 : decode cX1_init 20 = .ok (.aload_n 0, 1) := by decide +kernel
theorem dX1_init_21 : decode cX1_init 21 = .ok (.bipush 40, 2) := by decide +kernel
theorem dX1_init_23 : decode cX1_init 23 = .ok (.newarray .int, 2) := by decide +kernel
end
section
theorem dX1_init_25 : decode cX1_init 25 = .ok (.putfield 18, 3) := by decide +kernel
theorem dX1_init_28 : decode cX1_init 28 = .ok (.aload_n 0, 1) := by decide +kernel
theorem dX1_init_29 : decode cX1_init 29 = .ok (.bipush 40, 2) := by decide +kernel
theorem dX1_init_31 : decode cX1_init 31 = .ok (.newarray .int, 2) := by decide +kernel
theorem dX1_init_33 : decode cX1_init 33 = .ok (.putfield 21, 3) := by decide +kernel
theorem dX1_init_36 : decode cX1_init 36 = .ok (.aload_n 0, 1) := by decide +kernel
theorem dX1_init_37 : decode cX1_init 37 = .ok (.bipush 40, 2) := by decide +kernel
theorem dX1_init_39 : decode cX1_init 39 = .ok (.newarray .int, 2) := by decide +kernel
theorem dX1_init_41 : decode cX1_init 41 = .ok (.putfield 24, 3) := by decide +kernel
theorem dX1_init_44 : decode cX1_init 44 = .ok (.aload_n 0, 1) := by decide +kernel
theorem dX1_init_45 : decode cX1_init 45 = .ok (.bipush 24, 2) := by decide +kernel
theorem dX1_init_47 : decode cX1_init 47 = .ok (.newarray .int, 2) := by decide +kernel
theorem dX1_init_49 : decode cX1_init 49 = .ok (.putfield 27, 3) := by decide +kernel
theorem dX1_init_52 : decode cX1_init 52 = .ok (.aload_n 0, 1) := by decide +kernel
theorem dX1_init_53 : decode cX1_init 53 = .ok (.bipush 24, 2) := by decide +kernel
theorem dX1_init_55 : decode cX1_init 55 = .ok (.newarray .int, 2) := by decide +kernel
theorem dX1_init_57 : decode cX1_init 57 = .ok (.putfield 30, 3) := by decide +kernel
theorem dX1_init_60 : decode cX1_init 60 = .ok (.aload_n 0, 1) := by decide +kernel
theorem dX1_init_61 : decode cX1_init 61 = .ok (.bipush 24, 2) := by decide +kernel
theorem dX1_init_63 : decode cX1_init 63 = .ok (.newarray .int, 2) := by decide +kernel
theorem dX1_init_65 : decode cX1_init 65 = .ok (.putfield 33, 3) := by decide +kernel
theorem dX1_init_68 : decode cX1_init 68 = .ok (.aload_n 0, 1) := by decide +kernel
theorem dX1_init_69 : decode cX1_init 69 = .ok (.bipush 24, 2) := by decide +kernel
theorem dX1_init_71 : decode cX1_init 71 = .ok (.newarray .int, 2) := by decide +kernel
theorem dX1_init_73 : decode cX1_init 73 = .ok (.putfield 36, 3) := by decide +kernel
theorem dX1_init_76 : decode cX1_init 76 = .ok (.aload_n 0, 1) := by decide +kernel
theorem dX1_init_77 : decode cX1_init 77 = .ok (.iconst 1, 1) := by decide +kernel
theorem dX1_init_78 : decode cX1_init 78 = .ok (.putfield 39, 3) := by decide +kernel
theorem dX1_init_81 : decode cX1_init 81 = .ok (.return_, 1) := by decide +kernel
theorem dX1_size_0 : decode cX1_size 0 = .ok (.aload_n 0, 1) := by decide +kernel
theorem dX1_size_1 : decode cX1_size 1 = .ok (.getfield 43, 3) := by decide +kernel
theorem dX1_size_4 : decode cX1_size 4 = .ok (.ireturn, 1) := by decide +kernel
theorem dX1_isTaken_0 : decode cX1_isTaken 0 = .ok (.aload_n 0, 1) := by decide +kernel
theorem dX1_isTaken_1 : decode cX1_isTaken 1 = .ok (.getfield 9, 3) := by decide +kernel
theorem dX1_isTaken_4 : decode cX1_isTaken 4 = .ok (.iload_n 2, 1) := by decide +kernel
theorem dX1_isTaken_5 : decode cX1_isTaken 5 = .ok (.iaload, 1) := by decide +kernel
theorem dX1_isTaken_6 : decode cX1_isTaken 6 = .ok (.iload_n 1, 1) := by decide +kernel
theorem dX1_isTaken_7 : decode cX1_isTaken 7 = .ok (.ishr, 1) := by decide +kernel
theorem dX1_isTaken_8 : decode cX1_isTaken 8 = .ok (.iconst 1, 1) := by decide +kernel
theorem dX1_isTaken_9 : decode cX1_isTaken 9 = .ok (.iand, 1) := by decide +kernel
theorem dX1_isTaken_10 : decode cX1_isTaken 10 = .ok (.ifCond .eq 7, 3) := by decide +kernel
theorem dX1_isTaken_13 : decode cX1_isTaken 13 = .ok (.iconst 1, 1) := by decide +kernel
theorem dX1_isTaken_14 : decode cX1_isTaken 14 = .ok (.goto 4, 3) := by decide +kernel
theorem dX1_isTaken_17 : decode cX1_isTaken 17 = .ok (.iconst 0, 1) := by decide +kernel
theorem dX1_isTaken_18 : decode cX1_isTaken 18 = .ok (.ireturn, 1) := by decide +kernel
set_option maxRecDepth 20000 in
theorem ggX1_place_X1_isBetween : GoodIn wsX1_place wsX1_isBetween := goodIn_r _ [10, 2, 3, 11, 12, 13, 14, 15, 16, 17, 18, 19, 20, 21] rfl (by decide +kernel)
set_option maxRecDepth 20000 in
theorem gX1_place_X1_isBetween : GoodIn wsX1_place (wsV RX1 46 RX1 yX1_isBetween wsX1_isBetween) := goodIn_app (goodIn_of _ (by decide +kernel)) ggX1_place_X1_isBetween
theorem dX1_place_0 : decode cX1_place 0 = .ok (.aload_n 0, 1) := by decide +kernel
theorem dX1_place_1 : decode cX1_place 1 = .ok (.getfield 43, 3) := by decide +kernel
theorem dX1_place_4 : decode cX1_place 4 = .ok (.istore_n 3, 1) := by decide +kernel
theorem dX1_place_5 : decode cX1_place 5 = .ok (.aload_n 0, 1) := by decide +kernel
theorem dX1_place_6 : decode cX1_place 6 = .ok (.getfield 15, 3) := by decide +kernel
theorem dX1_place_9 : decode cX1_place 9 = .ok (.iload_n 3, 1) := by decide +kernel
theorem dX1_place_10 : decode cX1_place 10 = .ok (.iload_n 1, 1) := by decide +kernel
theorem dX1_place_11 : decode cX1_place 11 = .ok (.iastore, 1) := by decide +kernel
theorem dX1_place_12 : decode cX1_place 12 = .ok (.aload_n 0, 1) := by decide +kernel
theorem dX1_place_13 : decode cX1_place 13 = .ok (.getfield 18, 3) := by decide +kernel
theorem dX1_place_16 : decode cX1_place 16 = .ok (.iload_n 3, 1) := by decide +kernel
theorem dX1_place_17 : decode cX1_place 17 = .ok (.iload_n 2, 1) := by decide +kernel
theorem dX1_place_18 : decode cX1_place 18 = .ok (.iastore, 1) := by decide +kernel
theorem dX1_place_19 : decode cX1_place 19 = .ok (.aload_n 0, 1) := by decide +kernel
theorem dX1_place_20 : decode cX1_place 20 = .ok (.getfield 9, 3) := by decide +kernel
theorem dX1_place_23 : decode cX1_place 23 = .ok (.iload_n 2, 1) := by decide +kernel
theorem dX1_place_24 : decode cX1_place 24 = .ok (.dup2, 1) := by decide +kernel
theorem dX1_place_25 : decode cX1_place 25 = .ok (.iaload, 1) := by decide +kernel
theorem dX1_place_26 : decode cX1_place 26 = .ok (.iconst 1, 1) := by decide +kernel
theorem dX1_place_27 : decode cX1_place 27 = .ok (.iload_n 1, 1) := by decide +kernel
theorem dX1_place_28 : decode cX1_place 28 = .ok (.ishl, 1) := by decide +kernel
theorem dX1_place_29 : decode cX1_place 29 = .ok (.ior, 1) := by decide +kernel
theorem dX1_place_30 : decode cX1_place 30 = .ok (.iastore, 1) := by decide +kernel
theorem dX1_place_31 : decode cX1_place 31 = .ok (.aload_n 0, 1) := by decide +kernel
theorem dX1_place_32 : decode cX1_place 32 = .ok (.dup, 1) := by decide +kernel
theorem dX1_place_33 : decode cX1_place 33 = .ok (.getfield 43, 3) := by decide +kernel
theorem dX1_place_36 : decode cX1_place 36 = .ok (.iconst 1, 1) := by decide +kernel
theorem dX1_place_37 : decode cX1_place 37 = .ok (.iadd, 1) := by decide +kernel
theorem dX1_place_38 : decode cX1_place 38 = .ok (.putfield 43, 3) := by decide +kernel
theorem dX1_place_41 : decode cX1_place 41 = .ok (.iconst 0, 1) := by decide +kernel
theorem dX1_place_42 : decode cX1_place 42 = .ok (.istore 4, 2) := by decide +kernel
theorem dX1_place_44 : decode cX1_place 44 = .ok (.iload 4, 2) := by decide +kernel
theorem dX1_place_46 : decode cX1_place 46 = .ok (.iload_n 3, 1) := by decide +kernel
theorem dX1_place_47 : decode cX1_place 47 = .ok (.if_icmp .ge 50, 3) := by decide +kernel
theorem dX1_place_50 : decode cX1_place 50 = .ok (.aload_n 0, 1) := by decide +kernel
theorem dX1_place_51 : decode cX1_place 51 = .ok (.iload 4, 2) := by decide +kernel
theorem dX1_place_53 : decode cX1_place 53 = .ok (.iload_n 3, 1) := by decide +kernel
theorem dX1_place_54 : decode cX1_place 54 = .ok (.invokevirtual 46, 3) := by decide +kernel
theorem dX1_place_57 : decode cX1_place 57 = .ok (.ifCond .eq 13, 3) := by decide +kernel
theorem dX1_place_60 : decode cX1_place 60 = .ok (.aload_n 0, 1) := by decide +kernel
theorem dX1_place_61 : decode cX1_place 61 = .ok (.getfield 21, 3) := by decide +kernel
theorem dX1_place_64 : decode cX1_place 64 = .ok (.iload_n 3, 1) := by decide +kernel
theorem dX1_place_65 : decode cX1_place 65 = .ok (.dup2, 1) := by decide +kernel
theorem dX1_place_66 : decode cX1_place 66 = .ok (.iaload, 1) := by decide +kernel
theorem dX1_place_67 : decode cX1_place 67 = .ok (.iconst 1, 1) := by decide +kernel
theorem dX1_place_68 : decode cX1_place 68 = .ok (.iadd, 1) := by decide +kernel
theorem dX1_place_69 : decode cX1_place 69 = .ok (.iastore, 1) := by decide +kernel
theorem dX1_place_70 : decode cX1_place 70 = .ok (.aload_n 0, 1) := by decide +kernel
theorem dX1_place_71 : decode cX1_place 71 = .ok (.iload_n 3, 1) := by decide +kernel
theorem dX1_place_72 : decode cX1_place 72 = .ok (.iload 4, 2) := by decide +kernel
theorem dX1_place_74 : decode cX1_place 74 = .ok (.invokevirtual 46, 3) := by decide +kernel
theorem dX1_place_77 : decode cX1_place 77 = .ok (.ifCond .eq 14, 3) := by decide +kernel
theorem dX1_place_80 : decode cX1_place 80 = .ok (.aload_n 0, 1) := by decide +kernel
theorem dX1_place_81 : decode cX1_place 81 = .ok (.getfield 21, 3) := by decide +kernel
theorem dX1_place_84 : decode cX1_place 84 = .ok (.iload 4, 2) := by decide +kernel
theorem dX1_place_86 : decode cX1_place 86 = .ok (.dup2, 1) := by decide +kernel
theorem dX1_place_87 : decode cX1_place 87 = .ok (.iaload, 1) := by decide +kernel
theorem dX1_place_88 : decode cX1_place 88 = .ok (.iconst 1, 1) := by decide +kernel
theorem dX1_place_89 : decode cX1_place 89 = .ok (.iadd, 1) := by decide +kernel
theorem dX1_place_90 : decode cX1_place 90 = .ok (.iastore, 1) := by decide +kernel
theorem dX1_place_91 : decode cX1_place 91 = .ok (.iinc 4 1, 3) := by decide +kernel
theorem dX1_place_94 : decode cX1_place 94 = .ok (.goto (-50), 3) := by decide +kernel
theorem dX1_place_97 : decode cX1_place 97 = .ok (.iload_n 3, 1) := by decide +kernel
theorem dX1_place_98 : decode cX1_place 98 = .ok (.ireturn, 1) := by decide +kernel
theorem dX1_isBetween_0 : decode cX1_isBetween 0 = .ok (.aload_n 0, 1) := by decide +kernel
theorem dX1_isBetween_1 : decode cX1_isBetween 1 = .ok (.getfield 15, 3) := by decide +kernel
theorem dX1_isBetween_4 : decode cX1_isBetween 4 = .ok (.iload_n 1, 1) := by decide +kernel
theorem dX1_isBetween_5 : decode cX1_isBetween 5 = .ok (.iaload, 1) := by decide +kernel
theorem dX1_isBetween_6 : decode cX1_isBetween 6 = .ok (.bipush 7, 2) := by decide +kernel
theorem dX1_isBetween_8 : decode cX1_isBetween 8 = .ok (.isub, 1) := by decide +kernel
theorem dX1_isBetween_9 : decode cX1_isBetween 9 = .ok (.istore_n 3, 1) := by decide +kernel
theorem dX1_isBetween_10 : decode cX1_isBetween 10 = .ok (.aload_n 0, 1) := by decide +kernel
theorem dX1_isBetween_11 : decode cX1_isBetween 11 = .ok (.getfield 18, 3) := by decide +kernel
theorem dX1_isBetween_14 : decode cX1_isBetween 14 = .ok (.iload_n 1, 1) := by decide +kernel
theorem dX1_isBetween_15 : decode cX1_isBetween 15 = .ok (.iaload, 1) := by decide +kernel
theorem dX1_isBetween_16 : decode cX1_isBetween 16 = .ok (.iconst 0, 1) := by decide +kernel
theorem dX1_isBetween_17 : decode cX1_isBetween 17 = .ok (.isub, 1) := by decide +kernel
theorem dX1_isBetween_18 : decode cX1_isBetween 18 = .ok (.istore 4, 2) := by decide +kernel
theorem dX1_isBetween_20 : decode cX1_isBetween 20 = .ok (.aload_n 0, 1) := by decide +kernel
theorem dX1_isBetween_21 : decode cX1_isBetween 21 = .ok (.getfield 15, 3) := by decide +kernel
theorem dX1_isBetween_24 : decode cX1_isBetween 24 = .ok (.iload_n 2, 1) := by decide +kernel
theorem dX1_isBetween_25 : decode cX1_isBetween 25 = .ok (.iaload, 1) := by decide +kernel
theorem dX1_isBetween_26 : decode cX1_isBetween 26 = .ok (.bipush 7, 2) := by decide +kernel
theorem dX1_isBetween_28 : decode cX1_isBetween 28 = .ok (.isub, 1) := by decide +kernel
theorem dX1_isBetween_29 : decode cX1_isBetween 29 = .ok (.istore 5, 2) := by decide +kernel
theorem dX1_isBetween_31 : decode cX1_isBetween 31 = .ok (.aload_n 0, 1) := by decide +kernel
theorem dX1_isBetween_32 : decode cX1_isBetween 32 = .ok (.getfield 18, 3) := by decide +kernel
theorem dX1_isBetween_35 : decode cX1_isBetween 35 = .ok (.iload_n 2, 1) := by decide +kernel
theorem dX1_isBetween_36 : decode cX1_isBetween 36 = .ok (.iaload, 1) := by decide +kernel
theorem dX1_isBetween_37 : decode cX1_isBetween 37 = .ok (.iconst 0, 1) := by decide +kernel
theorem dX1_isBetween_38 : decode cX1_isBetween 38 = .ok (.isub, 1) := by decide +kernel
theorem dX1_isBetween_39 : decode cX1_isBetween 39 = .ok (.istore 6, 2) := by decide +kernel
theorem dX1_isBetween_41 : decode cX1_isBetween 41 = .ok (.iload_n 3, 1) := by decide +kernel
theorem dX1_isBetween_42 : decode cX1_isBetween 42 = .ok (.iload 6, 2) := by decide +kernel
theorem dX1_isBetween_44 : decode cX1_isBetween 44 = .ok (.imul, 1) := by decide +kernel
theorem dX1_isBetween_45 : decode cX1_isBetween 45 = .ok (.iload 4, 2) := by decide +kernel
theorem dX1_isBetween_47 : decode cX1_isBetween 47 = .ok (.iload 5, 2) := by decide +kernel
theorem dX1_isBetween_49 : decode cX1_isBetween 49 = .ok (.imul, 1) := by decide +kernel
theorem dX1_isBetween_50 : decode cX1_isBetween 50 = .ok (.if_icmp .eq 5, 3) := by decide +kernel
theorem dX1_isBetween_53 : decode cX1_isBetween 53 = .ok (.iconst 0, 1) := by decide +kernel
theorem dX1_isBetween_54 : decode cX1_isBetween 54 = .ok (.ireturn, 1) := by decide +kernel
theorem dX1_isBetween_55 : decode cX1_isBetween 55 = .ok (.iload_n 3, 1) := by decide +kernel
theorem dX1_isBetween_56 : decode cX1_isBetween 56 = .ok (.iload 5, 2) := by decide +kernel
theorem dX1_isBetween_58 : decode cX1_isBetween 58 = .ok (.imul, 1) := by decide +kernel
theorem dX1_isBetween_59 : decode cX1_isBetween 59 = .ok (.iload 4, 2) := by decide +kernel
theorem dX1_isBetween_61 : decode cX1_isBetween 61 = .ok (.iload 6, 2) := by decide +kernel
theorem dX1_isBetween_63 : decode cX1_isBetween 63 = .ok (.imul, 1) := by decide +kernel
theorem dX1_isBetween_64 : decode cX1_isBetween 64 = .ok (.iadd, 1) := by decide +kernel
theorem dX1_isBetween_65 : decode cX1_isBetween 65 = .ok (.istore 7, 2) := by decide +kernel
theorem dX1_isBetween_67 : decode cX1_isBetween 67 = .ok (.iload 7, 2) := by decide +kernel
theorem dX1_isBetween_69 : decode cX1_isBetween 69 = .ok (.ifCond .le 23, 3) := by decide +kernel
theorem dX1_isBetween_72 : decode cX1_isBetween 72 = .ok (.iload 7, 2) := by decide +kernel
theorem dX1_isBetween_74 : decode cX1_isBetween 74 = .ok (.iload 5, 2) := by decide +kernel
theorem dX1_isBetween_76 : decode cX1_isBetween 76 = .ok (.iload 5, 2) := by decide +kernel
theorem dX1_isBetween_78 : decode cX1_isBetween 78 = .ok (.imul, 1) := by decide +kernel
theorem dX1_isBetween_79 : decode cX1_isBetween 79 = .ok (.iload 6, 2) := by decide +kernel
theorem dX1_isBetween_81 : decode cX1_isBetween 81 = .ok (.iload 6, 2) := by decide +kernel
theorem dX1_isBetween_83 : decode cX1_isBetween 83 = .ok (.imul, 1) := by decide +kernel
theorem dX1_isBetween_84 : decode cX1_isBetween 84 = .ok (.iadd, 1) := by decide +kernel
theorem dX1_isBetween_85 : decode cX1_isBetween 85 = .ok (.if_icmp .ge 7, 3) := by decide +kernel
theorem dX1_isBetween_88 : decode cX1_isBetween 88 = .ok (.iconst 1, 1) := by decide +kernel
theorem dX1_isBetween_89 : decode cX1_isBetween 89 = .ok (.goto 4, 3) := by decide +kernel
theorem dX1_isBetween_92 : decode cX1_isBetween 92 = .ok (.iconst 0, 1) := by decide +kernel
theorem dX1_isBetween_93 : decode cX1_isBetween 93 = .ok (.ireturn, 1) := by decide +kernel
theorem dX1_setSun_0 : decode cX1_setSun 0 = .ok (.aload_n 0, 1) := by decide +kernel
theorem dX1_setSun_1 : decode cX1_setSun 1 = .ok (.getfield 27, 3) := by decide +kernel
theorem dX1_setSun_4 : decode cX1_setSun 4 = .ok (.iload_n 1, 1) := by decide +kernel
theorem dX1_setSun_5 : decode cX1_setSun 5 = .ok (.iload_n 2, 1) := by decide +kernel
theorem dX1_setSun_6 : decode cX1_setSun 6 = .ok (.iastore, 1) := by decide +kernel
theorem dX1_setSun_7 : decode cX1_setSun 7 = .ok (.aload_n 0, 1) := by decide +kernel
theorem dX1_setSun_8 : decode cX1_setSun 8 = .ok (.getfield 30, 3) := by decide +kernel
theorem dX1_setSun_11 : decode cX1_setSun 11 = .ok (.iload_n 1, 1) := by decide +kernel
theorem dX1_setSun_12 : decode cX1_setSun 12 = .ok (.iload_n 3, 1) := by decide +kernel
theorem dX1_setSun_13 : decode cX1_setSun 13 = .ok (.iastore, 1) := by decide +kernel
theorem dX1_setSun_14 : decode cX1_setSun 14 = .ok (.aload_n 0, 1) := by decide +kernel
theorem dX1_setSun_15 : decode cX1_setSun 15 = .ok (.getfield 33, 3) := by decide +kernel
theorem dX1_setSun_18 : decode cX1_setSun 18 = .ok (.iload_n 1, 1) := by decide +kernel
theorem dX1_setSun_19 : decode cX1_setSun 19 = .ok (.iload 4, 2) := by decide +kernel
theorem dX1_setSun_21 : decode cX1_setSun 21 = .ok (.iastore, 1) := by decide +kernel
theorem dX1_setSun_22 : decode cX1_setSun 22 = .ok (.return_, 1) := by decide +kernel
theorem dX1_setWind_0 : decode cX1_setWind 0 = .ok (.aload_n 0, 1) := by decide +kernel
theorem dX1_setWind_1 : decode cX1_setWind 1 = .ok (.getfield 36, 3) := by decide +kernel
theorem dX1_setWind_4 : decode cX1_setWind 4 = .ok (.iload_n 1, 1) := by decide +kernel
theorem dX1_setWind_5 : decode cX1_setWind 5 = .ok (.iload_n 2, 1) := by decide +kernel
theorem dX1_setWind_6 : decode cX1_setWind 6 = .ok (.iastore, 1) := by decide +kernel
theorem dX1_setWind_7 : decode cX1_setWind 7 = .ok (.return_, 1) := by decide +kernel
theorem dX1_setDust_0 : decode cX1_setDust 0 = .ok (.aload_n 0, 1) := by decide +kernel
theorem dX1_setDust_1 : decode cX1_setDust 1 = .ok (.iload_n 1, 1) := by decide +kernel
theorem dX1_setDust_2 : decode cX1_setDust 2 = .ok (.putfield 39, 3) := by decide +kernel
theorem dX1_setDust_5 : decode cX1_setDust 5 = .ok (.return_, 1) := by decide +kernel
theorem dX1_blockersOf_0 : decode cX1_blockersOf 0 = .ok (.aload_n 0, 1) := by decide +kernel
theorem dX1_blockersOf_1 : decode cX1_blockersOf 1 = .ok (.getfield 21, 3) := by decide +kernel
theorem dX1_blockersOf_4 : decode cX1_blockersOf 4 = .ok (.iload_n 1, 1) := by decide +kernel
theorem dX1_blockersOf_5 : decode cX1_blockersOf 5 = .ok (.iaload, 1) := by decide +kernel
theorem dX1_blockersOf_6 : decode cX1_blockersOf 6 = .ok (.ireturn, 1) := by decide +kernel
theorem dX1_shadersOf_0 : decode cX1_shadersOf 0 = .ok (.aload_n 0, 1) := by decide +kernel
theorem dX1_shadersOf_1 : decode cX1_shadersOf 1 = .ok (.getfield 33, 3) := by decide +kernel
theorem dX1_shadersOf_4 : decode cX1_shadersOf 4 = .ok (.iload_n 2, 1) := by decide +kernel
theorem dX1_shadersOf_5 : decode cX1_shadersOf 5 = .ok (.iaload, 1) := by decide +kernel
theorem dX1_shadersOf_6 : decode cX1_shadersOf 6 = .ok (.ifCond .ne 5, 3) := by decide +kernel
theorem dX1_shadersOf_9 : decode cX1_shadersOf 9 = .ok (.iconst 0, 1) := by decide +kernel
theorem dX1_shadersOf_10 : decode cX1_shadersOf 10 = .ok (.ireturn, 1) := by decide +kernel
theorem dX1_shadersOf_11 : decode cX1_shadersOf 11 = .ok (.aload_n 0, 1) := by decide +kernel
theorem dX1_shadersOf_12 : decode cX1_shadersOf 12 = .ok (.getfield 15, 3) := by decide +kernel
theorem dX1_shadersOf_15 : decode cX1_shadersOf 15 = .ok (.iload_n 1, 1) := by decide +kernel
theorem dX1_shadersOf_16 : decode cX1_shadersOf 16 = .ok (.iaload, 1) := by decide +kernel
theorem dX1_shadersOf_17 : decode cX1_shadersOf 17 = .ok (.istore_n 3, 1) := by decide +kernel
theorem dX1_shadersOf_18 : decode cX1_shadersOf 18 = .ok (.aload_n 0, 1) := by decide +kernel
theorem dX1_shadersOf_19 : decode cX1_shadersOf 19 = .ok (.getfield 18, 3) := by decide +kernel
theorem dX1_shadersOf_22 : decode cX1_shadersOf 22 = .ok (.iload_n 1, 1) := by decide +kernel
theorem dX1_shadersOf_23 : decode cX1_shadersOf 23 = .ok (.iaload, 1) := by decide +kernel
theorem dX1_shadersOf_24 : decode cX1_shadersOf 24 = .ok (.istore 4, 2) := by decide +kernel
theorem dX1_shadersOf_26 : decode cX1_shadersOf 26 = .ok (.iconst 0, 1) := by decide +kernel
theorem dX1_shadersOf_27 : decode cX1_shadersOf 27 = .ok (.istore 5, 2) := by decide +kernel
theorem dX1_shadersOf_29 : decode cX1_shadersOf 29 = .ok (.bipush 10, 2) := by decide +kernel
theorem dX1_shadersOf_31 : decode cX1_shadersOf 31 = .ok (.aload_n 0, 1) := by decide +kernel
theorem dX1_shadersOf_32 : decode cX1_shadersOf 32 = .ok (.getfield 33, 3) := by decide +kernel
theorem dX1_shadersOf_35 : decode cX1_shadersOf 35 = .ok (.iload_n 2, 1) := by decide +kernel
theorem dX1_shadersOf_36 : decode cX1_shadersOf 36 = .ok (.iaload, 1) := by decide +kernel
theorem dX1_shadersOf_37 : decode cX1_shadersOf 37 = .ok (.isub, 1) := by decide +kernel
theorem dX1_shadersOf_38 : decode cX1_shadersOf 38 = .ok (.istore 6, 2) := by decide +kernel
theorem dX1_shadersOf_40 : decode cX1_shadersOf 40 = .ok (.iload 6, 2) := by decide +kernel
theorem dX1_shadersOf_42 : decode cX1_shadersOf 42 = .ok (.ifCond .le 70, 3) := by decide +kernel
theorem dX1_shadersOf_45 : decode cX1_shadersOf 45 = .ok (.iload_n 3, 1) := by decide +kernel
theorem dX1_shadersOf_46 : decode cX1_shadersOf 46 = .ok (.aload_n 0, 1) := by decide +kernel
theorem dX1_shadersOf_47 : decode cX1_shadersOf 47 = .ok (.getfield 27, 3) := by decide +kernel
theorem dX1_shadersOf_50 : decode cX1_shadersOf 50 = .ok (.iload_n 2, 1) := by decide +kernel
theorem dX1_shadersOf_51 : decode cX1_shadersOf 51 = .ok (.iaload, 1) := by decide +kernel
theorem dX1_shadersOf_52 : decode cX1_shadersOf 52 = .ok (.iadd, 1) := by decide +kernel
theorem dX1_shadersOf_53 : decode cX1_shadersOf 53 = .ok (.istore_n 3, 1) := by decide +kernel
theorem dX1_shadersOf_54 : decode cX1_shadersOf 54 = .ok (.iload 4, 2) := by decide +kernel
theorem dX1_shadersOf_56 : decode cX1_shadersOf 56 = .ok (.aload_n 0, 1) := by decide +kernel
theorem dX1_shadersOf_57 : decode cX1_shadersOf 57 = .ok (.getfield 30, 3) := by decide +kernel
theorem dX1_shadersOf_60 : decode cX1_shadersOf 60 = .ok (.iload_n 2, 1) := by decide +kernel
theorem dX1_shadersOf_61 : decode cX1_shadersOf 61 = .ok (.iaload, 1) := by decide +kernel
theorem dX1_shadersOf_62 : decode cX1_shadersOf 62 = .ok (.iadd, 1) := by decide +kernel
theorem dX1_shadersOf_63 : decode cX1_shadersOf 63 = .ok (.istore 4, 2) := by decide +kernel
theorem dX1_shadersOf_65 : decode cX1_shadersOf 65 = .ok (.iload_n 3, 1) := by decide +kernel
theorem dX1_shadersOf_66 : decode cX1_shadersOf 66 = .ok (.ifCond .lt 21, 3) := by decide +kernel
theorem dX1_shadersOf_69 : decode cX1_shadersOf 69 = .ok (.iload_n 3, 1) := by decide +kernel
theorem dX1_shadersOf_70 : decode cX1_shadersOf 70 = .ok (.bipush 15, 2) := by decide +kernel
theorem dX1_shadersOf_72 : decode cX1_shadersOf 72 = .ok (.if_icmp .ge 15, 3) := by decide +kernel
theorem dX1_shadersOf_75 : decode cX1_shadersOf 75 = .ok (.iload 4, 2) := by decide +kernel
theorem dX1_shadersOf_77 : decode cX1_shadersOf 77 = .ok (.ifCond .lt 10, 3) := by decide +kernel
theorem dX1_shadersOf_80 : decode cX1_shadersOf 80 = .ok (.iload 4, 2) := by decide +kernel
theorem dX1_shadersOf_82 : decode cX1_shadersOf 82 = .ok (.bipush 15, 2) := by decide +kernel
theorem dX1_shadersOf_84 : decode cX1_shadersOf 84 = .ok (.if_icmp .lt 6, 3) := by decide +kernel
theorem dX1_shadersOf_87 : decode cX1_shadersOf 87 = .ok (.iload 5, 2) := by decide +kernel
theorem dX1_shadersOf_89 : decode cX1_shadersOf 89 = .ok (.ireturn, 1) := by decide +kernel
theorem dX1_shadersOf_90 : decode cX1_shadersOf 90 = .ok (.iload 5, 2) := by decide +kernel
theorem dX1_shadersOf_92 : decode cX1_shadersOf 92 = .ok (.aload_n 0, 1) := by decide +kernel
theorem dX1_shadersOf_93 : decode cX1_shadersOf 93 = .ok (.getfield 9, 3) := by decide +kernel
theorem dX1_shadersOf_96 : decode cX1_shadersOf 96 = .ok (.iload 4, 2) := by decide +kernel
theorem dX1_shadersOf_98 : decode cX1_shadersOf 98 = .ok (.iaload, 1) := by decide +kernel
theorem dX1_shadersOf_99 : decode cX1_shadersOf 99 = .ok (.iload_n 3, 1) := by decide +kernel
theorem dX1_shadersOf_100 : decode cX1_shadersOf 100 = .ok (.ishr, 1) := by decide +kernel
theorem dX1_shadersOf_101 : decode cX1_shadersOf 101 = .ok (.iconst 1, 1) := by decide +kernel
theorem dX1_shadersOf_102 : decode cX1_shadersOf 102 = .ok (.iand, 1) := by decide +kernel
theorem dX1_shadersOf_103 : decode cX1_shadersOf 103 = .ok (.iadd, 1) := by decide +kernel
theorem dX1_shadersOf_104 : decode cX1_shadersOf 104 = .ok (.istore 5, 2) := by decide +kernel
theorem dX1_shadersOf_106 : decode cX1_shadersOf 106 = .ok (.iinc 6 (-1), 3) := by decide +kernel
theorem dX1_shadersOf_109 : decode cX1_shadersOf 109 = .ok (.goto (-69), 3) := by decide +kernel
theorem dX1_shadersOf_112 : decode cX1_shadersOf 112 = .ok (.iload 5, 2) := by decide +kernel
theorem dX1_shadersOf_114 : decode cX1_shadersOf 114 = .ok (.ireturn, 1) := by decide +kernel
theorem dX1_isStowed_0 : decode cX1_isStowed 0 = .ok (.aload_n 0, 1) := by decide +kernel
theorem dX1_isStowed_1 : decode cX1_isStowed 1 = .ok (.getfield 36, 3) := by decide +kernel
theorem dX1_isStowed_4 : decode cX1_isStowed 4 = .ok (.iload_n 1, 1) := by decide +kernel
theorem dX1_isStowed_5 : decode cX1_isStowed 5 = .ok (.iaload, 1) := by decide +kernel
theorem dX1_isStowed_6 : decode cX1_isStowed 6 = .ok (.bipush 50, 2) := by decide +kernel
theorem dX1_isStowed_8 : decode cX1_isStowed 8 = .ok (.if_icmp .gt 24, 3) := by decide +kernel
theorem dX1_isStowed_11 : decode cX1_isStowed 11 = .ok (.iload_n 1, 1) := by decide +kernel
theorem dX1_isStowed_12 : decode cX1_isStowed 12 = .ok (.iconst 1, 1) := by decide +kernel
theorem dX1_isStowed_13 : decode cX1_isStowed 13 = .ok (.iadd, 1) := by decide +kernel
theorem dX1_isStowed_14 : decode cX1_isStowed 14 = .ok (.bipush 24, 2) := by decide +kernel
theorem dX1_isStowed_16 : decode cX1_isStowed 16 = .ok (.if_icmp .ge 20, 3) := by decide +kernel
theorem dX1_isStowed_19 : decode cX1_isStowed 19 = .ok (.aload_n 0, 1) := by decide +kernel
theorem dX1_isStowed_20 : decode cX1_isStowed 20 = .ok (.getfield 36, 3) := by decide +kernel
theorem dX1_isStowed_23 : decode cX1_isStowed 23 = .ok (.iload_n 1, 1) := by decide +kernel
theorem dX1_isStowed_24 : decode cX1_isStowed 24 = .ok (.iconst 1, 1) := by decide +kernel
theorem dX1_isStowed_25 : decode cX1_isStowed 25 = .ok (.iadd, 1) := by decide +kernel
theorem dX1_isStowed_26 : decode cX1_isStowed 26 = .ok (.iaload, 1) := by decide +kernel
theorem dX1_isStowed_27 : decode cX1_isStowed 27 = .ok (.bipush 50, 2) := by decide +kernel
theorem dX1_isStowed_29 : decode cX1_isStowed 29 = .ok (.if_icmp .le 7, 3) := by decide +kernel
theorem dX1_isStowed_32 : decode cX1_isStowed 32 = .ok (.iconst 1, 1) := by decide +kernel
theorem dX1_isStowed_33 : decode cX1_isStowed 33 = .ok (.goto 4, 3) := by decide +kernel
theorem dX1_isStowed_36 : decode cX1_isStowed 36 = .ok (.iconst 0, 1) := by decide +kernel
theorem dX1_isStowed_37 : decode cX1_isStowed 37 = .ok (.ireturn, 1) := by decide +kernel
set_option maxRecDepth 20000 in
theorem ggX1_powerOf_X1_isStowed : GoodIn wsX1_powerOf wsX1_isStowed := goodIn_r _ [11, 12, 31, 32, 33, 34, 35, 36, 37, 38, 39, 40, 41] rfl (by decide +kernel)
set_option maxRecDepth 20000 in
theorem gX1_powerOf_X1_isStowed : GoodIn wsX1_powerOf (wsV RX1 50 RX1 yX1_isStowed wsX1_isStowed) := goodIn_app (goodIn_of _ (by decide +kernel)) ggX1_powerOf_X1_isStowed
set_option maxRecDepth 20000 in
theorem ggX1_powerOf_X1_soilOf : GoodIn wsX1_powerOf wsX1_soilOf := goodIn_r _ [16, 17, 18, 19, 20, 4, 21, 31, 32, 33, 34, 35, 36, 37, 38, 39, 40, 41] rfl (by decide +kernel)
set_option maxRecDepth 20000 in
theorem gX1_powerOf_X1_soilOf : GoodIn wsX1_powerOf (wsV RX1 54 RX1 yX1_soilOf wsX1_soilOf) := goodIn_app (goodIn_of _ (by decide +kernel)) ggX1_powerOf_X1_soilOf
set_option maxRecDepth 20000 in
theorem ggX1_powerOf_X1_shadersOf : GoodIn wsX1_powerOf wsX1_shadersOf := goodIn_r _ [25, 1, 26, 27, 28, 29, 30, 31, 32, 33, 34, 35, 36, 37, 38, 39, 40, 41] rfl (by decide +kernel)
set_option maxRecDepth 20000 in
theorem gX1_powerOf_X1_shadersOf : GoodIn wsX1_powerOf (wsV RX1 63 RX1 yX1_shadersOf wsX1_shadersOf) := goodIn_app (goodIn_of _ (by decide +kernel)) ggX1_powerOf_X1_shadersOf
theorem dX1_powerOf_0 : decode cX1_powerOf 0 = .ok (.aload_n 0, 1) := by decide +kernel
theorem dX1_powerOf_1 : decode cX1_powerOf 1 = .ok (.getfield 33, 3) := by decide +kernel
theorem dX1_powerOf_4 : decode cX1_powerOf 4 = .ok (.iload_n 2, 1) := by decide +kernel
theorem dX1_powerOf_5 : decode cX1_powerOf 5 = .ok (.iaload, 1) := by decide +kernel
theorem dX1_powerOf_6 : decode cX1_powerOf 6 = .ok (.ifCond .eq 11, 3) := by decide +kernel
theorem dX1_powerOf_9 : decode cX1_powerOf 9 = .ok (.aload_n 0, 1) := by decide +kernel
theorem dX1_powerOf_10 : decode cX1_powerOf 10 = .ok (.iload_n 2, 1) := by decide +kernel
theorem dX1_powerOf_11 : decode cX1_powerOf 11 = .ok (.invokevirtual 50, 3) := by decide +kernel
theorem dX1_powerOf_14 : decode cX1_powerOf 14 = .ok (.ifCond .eq 5, 3) := by decide +kernel
theorem dX1_powerOf_17 : decode cX1_powerOf 17 = .ok (.iconst 0, 1) := by decide +kernel
theorem dX1_powerOf_18 : decode cX1_powerOf 18 = .ok (.ireturn, 1) := by decide +kernel
theorem dX1_powerOf_19 : decode cX1_powerOf 19 = .ok (.bipush 10, 2) := by decide +kernel
theorem dX1_powerOf_21 : decode cX1_powerOf 21 = .ok (.aload_n 0, 1) := by decide +kernel
theorem dX1_powerOf_22 : decode cX1_powerOf 22 = .ok (.getfield 33, 3) := by decide +kernel
theorem dX1_powerOf_25 : decode cX1_powerOf 25 = .ok (.iload_n 2, 1) := by decide +kernel
theorem dX1_powerOf_26 : decode cX1_powerOf 26 = .ok (.iaload, 1) := by decide +kernel
theorem dX1_powerOf_27 : decode cX1_powerOf 27 = .ok (.imul, 1) := by decide +kernel
theorem dX1_powerOf_28 : decode cX1_powerOf 28 = .ok (.bipush 10, 2) := by decide +kernel
theorem dX1_powerOf_30 : decode cX1_powerOf 30 = .ok (.iadd, 1) := by decide +kernel
theorem dX1_powerOf_31 : decode cX1_powerOf 31 = .ok (.istore 4, 2) := by decide +kernel
theorem dX1_powerOf_33 : decode cX1_powerOf 33 = .ok (.iconst 0, 1) := by decide +kernel
theorem dX1_powerOf_34 : decode cX1_powerOf 34 = .ok (.iload 4, 2) := by decide +kernel
theorem dX1_powerOf_36 : decode cX1_powerOf 36 = .ok (.aload_n 0, 1) := by decide +kernel
theorem dX1_powerOf_37 : decode cX1_powerOf 37 = .ok (.iload_n 1, 1) := by decide +kernel
theorem dX1_powerOf_38 : decode cX1_powerOf 38 = .ok (.iload_n 3, 1) := by decide +kernel
theorem dX1_powerOf_39 : decode cX1_powerOf 39 = .ok (.invokevirtual 54, 3) := by decide +kernel
theorem dX1_powerOf_42 : decode cX1_powerOf 42 = .ok (.isub, 1) := by decide +kernel
theorem dX1_powerOf_43 : decode cX1_powerOf 43 = .ok (.invokestatic 58, 3) := by decide +kernel
theorem dX1_powerOf_46 : decode cX1_powerOf 46 = .ok (.istore 5, 2) := by decide +kernel
theorem dX1_powerOf_48 : decode cX1_powerOf 48 = .ok (.iload 5, 2) := by decide +kernel
theorem dX1_powerOf_50 : decode cX1_powerOf 50 = .ok (.aload_n 0, 1) := by decide +kernel
theorem dX1_powerOf_51 : decode cX1_powerOf 51 = .ok (.iload_n 1, 1) := by decide +kernel
theorem dX1_powerOf_52 : decode cX1_powerOf 52 = .ok (.iload_n 2, 1) := by decide +kernel
theorem dX1_powerOf_53 : decode cX1_powerOf 53 = .ok (.invokevirtual 63, 3) := by decide +kernel
theorem dX1_powerOf_56 : decode cX1_powerOf 56 = .ok (.aload_n 0, 1) := by decide +kernel
theorem dX1_powerOf_57 : decode cX1_powerOf 57 = .ok (.getfield 21, 3) := by decide +kernel
theorem dX1_powerOf_60 : decode cX1_powerOf 60 = .ok (.iload_n 1, 1) := by decide +kernel
theorem dX1_powerOf_61 : decode cX1_powerOf 61 = .ok (.iaload, 1) := by decide +kernel
theorem dX1_powerOf_62 : decode cX1_powerOf 62 = .ok (.iadd, 1) := by decide +kernel
theorem dX1_powerOf_63 : decode cX1_powerOf 63 = .ok (.ishr, 1) := by decide +kernel
theorem dX1_powerOf_64 : decode cX1_powerOf 64 = .ok (.ireturn, 1) := by decide +kernel
theorem dX1_soilOf_0 : decode cX1_soilOf 0 = .ok (.bipush 90, 2) := by decide +kernel
theorem dX1_soilOf_2 : decode cX1_soilOf 2 = .ok (.aload_n 0, 1) := by decide +kernel
theorem dX1_soilOf_3 : decode cX1_soilOf 3 = .ok (.getfield 24, 3) := by decide +kernel
theorem dX1_soilOf_6 : decode cX1_soilOf 6 = .ok (.iload_n 1, 1) := by decide +kernel
theorem dX1_soilOf_7 : decode cX1_soilOf 7 = .ok (.iaload, 1) := by decide +kernel
theorem dX1_soilOf_8 : decode cX1_soilOf 8 = .ok (.iload_n 2, 1) := by decide +kernel
theorem dX1_soilOf_9 : decode cX1_soilOf 9 = .ok (.aload_n 0, 1) := by decide +kernel
theorem dX1_soilOf_10 : decode cX1_soilOf 10 = .ok (.getfield 39, 3) := by decide +kernel
theorem dX1_soilOf_13 : decode cX1_soilOf 13 = .ok (.imul, 1) := by decide +kernel
theorem dX1_soilOf_14 : decode cX1_soilOf 14 = .ok (.iadd, 1) := by decide +kernel
theorem dX1_soilOf_15 : decode cX1_soilOf 15 = .ok (.invokestatic 66, 3) := by decide +kernel
theorem dX1_soilOf_18 : decode cX1_soilOf 18 = .ok (.ireturn, 1) := by decide +kernel
theorem dX1_soilInAll_0 : decode cX1_soilInAll 0 = .ok (.iconst 0, 1) := by decide +kernel
theorem dX1_soilInAll_1 : decode cX1_soilInAll 1 = .ok (.istore_n 1, 1) := by decide +kernel
theorem dX1_soilInAll_2 : decode cX1_soilInAll 2 = .ok (.iconst 0, 1) := by decide +kernel
theorem dX1_soilInAll_3 : decode cX1_soilInAll 3 = .ok (.istore_n 2, 1) := by decide +kernel
theorem dX1_soilInAll_4 : decode cX1_soilInAll 4 = .ok (.iload_n 2, 1) := by decide +kernel
theorem dX1_soilInAll_5 : decode cX1_soilInAll 5 = .ok (.aload_n 0, 1) := by decide +kernel
theorem dX1_soilInAll_6 : decode cX1_soilInAll 6 = .ok (.getfield 43, 3) := by decide +kernel
theorem dX1_soilInAll_9 : decode cX1_soilInAll 9 = .ok (.if_icmp .ge 18, 3) := by decide +kernel
theorem dX1_soilInAll_12 : decode cX1_soilInAll 12 = .ok (.iload_n 1, 1) := by decide +kernel
theorem dX1_soilInAll_13 : decode cX1_soilInAll 13 = .ok (.aload_n 0, 1) := by decide +kernel
theorem dX1_soilInAll_14 : decode cX1_soilInAll 14 = .ok (.getfield 24, 3) := by decide +kernel
theorem dX1_soilInAll_17 : decode cX1_soilInAll 17 = .ok (.iload_n 2, 1) := by decide +kernel
theorem dX1_soilInAll_18 : decode cX1_soilInAll 18 = .ok (.iaload, 1) := by decide +kernel
theorem dX1_soilInAll_19 : decode cX1_soilInAll 19 = .ok (.iadd, 1) := by decide +kernel
theorem dX1_soilInAll_20 : decode cX1_soilInAll 20 = .ok (.istore_n 1, 1) := by decide +kernel
theorem dX1_soilInAll_21 : decode cX1_soilInAll 21 = .ok (.iinc 2 1, 3) := by decide +kernel
theorem dX1_soilInAll_24 : decode cX1_soilInAll 24 = .ok (.goto (-20), 3) := by decide +kernel
theorem dX1_soilInAll_27 : decode cX1_soilInAll 27 = .ok (.iload_n 1, 1) := by decide +kernel
theorem dX1_soilInAll_28 : decode cX1_soilInAll 28 = .ok (.ireturn, 1) := by decide +kernel
set_option maxRecDepth 20000 in
theorem ggX1_growSoil_X1_soilOf : GoodIn wsX1_growSoil wsX1_soilOf := goodIn_r _ [7, 2, 8, 9, 10, 11, 12, 13, 14, 15, 16, 17, 18, 19, 20, 21, 22, 23] rfl (by decide +kernel)
set_option maxRecDepth 20000 in
theorem gX1_growSoil_X1_soilOf : GoodIn wsX1_growSoil (wsV RX1 54 RX1 yX1_soilOf wsX1_soilOf) := goodIn_app (goodIn_of _ (by decide +kernel)) ggX1_growSoil_X1_soilOf
theorem dX1_growSoil_0 : decode cX1_growSoil 0 = .ok (.iconst 0, 1) := by decide +kernel
theorem dX1_growSoil_1 : decode cX1_growSoil 1 = .ok (.istore_n 1, 1) := by decide +kernel
theorem dX1_growSoil_2 : decode cX1_growSoil 2 = .ok (.iload_n 1, 1) := by decide +kernel
theorem dX1_growSoil_3 : decode cX1_growSoil 3 = .ok (.aload_n 0, 1) := by decide +kernel
theorem dX1_growSoil_4 : decode cX1_growSoil 4 = .ok (.getfield 43, 3) := by decide +kernel
theorem dX1_growSoil_7 : decode cX1_growSoil 7 = .ok (.if_icmp .ge 21, 3) := by decide +kernel
theorem dX1_growSoil_10 : decode cX1_growSoil 10 = .ok (.aload_n 0, 1) := by decide +kernel
theorem dX1_growSoil_11 : decode cX1_growSoil 11 = .ok (.getfield 24, 3) := by decide +kernel
theorem dX1_growSoil_14 : decode cX1_growSoil 14 = .ok (.iload_n 1, 1) := by decide +kernel
theorem dX1_growSoil_15 : decode cX1_growSoil 15 = .ok (.aload_n 0, 1) := by decide +kernel
theorem dX1_growSoil_16 : decode cX1_growSoil 16 = .ok (.iload_n 1, 1) := by decide +kernel
theorem dX1_growSoil_17 : decode cX1_growSoil 17 = .ok (.iconst 1, 1) := by decide +kernel
theorem dX1_growSoil_18 : decode cX1_growSoil 18 = .ok (.invokevirtual 54, 3) := by decide +kernel
theorem dX1_growSoil_21 : decode cX1_growSoil 21 = .ok (.iastore, 1) := by decide +kernel
theorem dX1_growSoil_22 : decode cX1_growSoil 22 = .ok (.iinc 1 1, 3) := by decide +kernel
theorem dX1_growSoil_25 : decode cX1_growSoil 25 = .ok (.goto (-23), 3) := by decide +kernel
theorem dX1_growSoil_28 : decode cX1_growSoil 28 = .ok (.return_, 1) := by decide +kernel
set_option maxRecDepth 20000 in
theorem ggX1_washMost_X1_mostSoiled : GoodIn wsX1_washMost wsX1_mostSoiled := goodIn_r _ [11, 1, 6, 12, 13, 14, 15, 16, 17, 18, 19, 20, 21, 22] rfl (by decide +kernel)
set_option maxRecDepth 20000 in
theorem gX1_washMost_X1_mostSoiled : GoodIn wsX1_washMost (wsV RX1 69 RX1 yX1_mostSoiled wsX1_mostSoiled) := goodIn_app (goodIn_of _ (by decide +kernel)) ggX1_washMost_X1_mostSoiled
theorem dX1_washMost_0 : decode cX1_washMost 0 = .ok (.iconst 0, 1) := by decide +kernel
theorem dX1_washMost_1 : decode cX1_washMost 1 = .ok (.istore_n 2, 1) := by decide +kernel
theorem dX1_washMost_2 : decode cX1_washMost 2 = .ok (.iload_n 1, 1) := by decide +kernel
theorem dX1_washMost_3 : decode cX1_washMost 3 = .ok (.aload_n 0, 1) := by decide +kernel
theorem dX1_washMost_4 : decode cX1_washMost 4 = .ok (.getfield 43, 3) := by decide +kernel
theorem dX1_washMost_7 : decode cX1_washMost 7 = .ok (.invokestatic 66, 3) := by decide +kernel
theorem dX1_washMost_10 : decode cX1_washMost 10 = .ok (.istore_n 3, 1) := by decide +kernel
theorem dX1_washMost_11 : decode cX1_washMost 11 = .ok (.iload_n 3, 1) := by decide +kernel
theorem dX1_washMost_12 : decode cX1_washMost 12 = .ok (.ifCond .le 33, 3) := by decide +kernel
theorem dX1_washMost_15 : decode cX1_washMost 15 = .ok (.aload_n 0, 1) := by decide +kernel
theorem dX1_washMost_16 : decode cX1_washMost 16 = .ok (.invokevirtual 69, 3) := by decide +kernel
theorem dX1_washMost_19 : decode cX1_washMost 19 = .ok (.istore 4, 2) := by decide +kernel
theorem dX1_washMost_21 : decode cX1_washMost 21 = .ok (.iload_n 2, 1) := by decide +kernel
theorem dX1_washMost_22 : decode cX1_washMost 22 = .ok (.aload_n 0, 1) := by decide +kernel
theorem dX1_washMost_23 : decode cX1_washMost 23 = .ok (.getfield 24, 3) := by decide +kernel
theorem dX1_washMost_26 : decode cX1_washMost 26 = .ok (.iload 4, 2) := by decide +kernel
theorem dX1_washMost_28 : decode cX1_washMost 28 = .ok (.iaload, 1) := by decide +kernel
theorem dX1_washMost_29 : decode cX1_washMost 29 = .ok (.iadd, 1) := by decide +kernel
theorem dX1_washMost_30 : decode cX1_washMost 30 = .ok (.istore_n 2, 1) := by decide +kernel
theorem dX1_washMost_31 : decode cX1_washMost 31 = .ok (.aload_n 0, 1) := by decide +kernel
theorem dX1_washMost_32 : decode cX1_washMost 32 = .ok (.getfield 24, 3) := by decide +kernel
theorem dX1_washMost_35 : decode cX1_washMost 35 = .ok (.iload 4, 2) := by decide +kernel
theorem dX1_washMost_37 : decode cX1_washMost 37 = .ok (.iconst 0, 1) := by decide +kernel
theorem dX1_washMost_38 : decode cX1_washMost 38 = .ok (.iastore, 1) := by decide +kernel
theorem dX1_washMost_39 : decode cX1_washMost 39 = .ok (.iinc 3 (-1), 3) := by decide +kernel
theorem dX1_washMost_42 : decode cX1_washMost 42 = .ok (.goto (-31), 3) := by decide +kernel
theorem dX1_washMost_45 : decode cX1_washMost 45 = .ok (.iload_n 2, 1) := by decide +kernel
theorem dX1_washMost_46 : decode cX1_washMost 46 = .ok (.ireturn, 1) := by decide +kernel
theorem dX1_mostSoiled_0 : decode cX1_mostSoiled 0 = .ok (.iconst 0, 1) := by decide +kernel
theorem dX1_mostSoiled_1 : decode cX1_mostSoiled 1 = .ok (.istore_n 1, 1) := by decide +kernel
theorem dX1_mostSoiled_2 : decode cX1_mostSoiled 2 = .ok (.iconst 1, 1) := by decide +kernel
theorem dX1_mostSoiled_3 : decode cX1_mostSoiled 3 = .ok (.istore_n 2, 1) := by decide +kernel
theorem dX1_mostSoiled_4 : decode cX1_mostSoiled 4 = .ok (.iload_n 2, 1) := by decide +kernel
theorem dX1_mostSoiled_5 : decode cX1_mostSoiled 5 = .ok (.aload_n 0, 1) := by decide +kernel
theorem dX1_mostSoiled_6 : decode cX1_mostSoiled 6 = .ok (.getfield 43, 3) := by decide +kernel
theorem dX1_mostSoiled_9 : decode cX1_mostSoiled 9 = .ok (.if_icmp .ge 26, 3) := by decide +kernel
theorem dX1_mostSoiled_12 : decode cX1_mostSoiled 12 = .ok (.aload_n 0, 1) := by decide +kernel
theorem dX1_mostSoiled_13 : decode cX1_mostSoiled 13 = .ok (.getfield 24, 3) := by decide +kernel
theorem dX1_mostSoiled_16 : decode cX1_mostSoiled 16 = .ok (.iload_n 2, 1) := by decide +kernel
theorem dX1_mostSoiled_17 : decode cX1_mostSoiled 17 = .ok (.iaload, 1) := by decide +kernel
theorem dX1_mostSoiled_18 : decode cX1_mostSoiled 18 = .ok (.aload_n 0, 1) := by decide +kernel
theorem dX1_mostSoiled_19 : decode cX1_mostSoiled 19 = .ok (.getfield 24, 3) := by decide +kernel
theorem dX1_mostSoiled_22 : decode cX1_mostSoiled 22 = .ok (.iload_n 1, 1) := by decide +kernel
theorem dX1_mostSoiled_23 : decode cX1_mostSoiled 23 = .ok (.iaload, 1) := by decide +kernel
theorem dX1_mostSoiled_24 : decode cX1_mostSoiled 24 = .ok (.if_icmp .le 5, 3) := by decide +kernel
theorem dX1_mostSoiled_27 : decode cX1_mostSoiled 27 = .ok (.iload_n 2, 1) := by decide +kernel
theorem dX1_mostSoiled_28 : decode cX1_mostSoiled 28 = .ok (.istore_n 1, 1) := by decide +kernel
theorem dX1_mostSoiled_29 : decode cX1_mostSoiled 29 = .ok (.iinc 2 1, 3) := by decide +kernel
theorem dX1_mostSoiled_32 : decode cX1_mostSoiled 32 = .ok (.goto (-28), 3) := by decide +kernel
theorem dX1_mostSoiled_35 : decode cX1_mostSoiled 35 = .ok (.iload_n 1, 1) := by decide +kernel
theorem dX1_mostSoiled_36 : decode cX1_mostSoiled 36 = .ok (.ireturn, 1) := by decide +kernel
theorem dX2_init_0 : decode cX2_init 0 = .ok (.aload_n 0, 1) := by decide +kernel
theorem dX2_init_1 : decode cX2_init 1 = .ok (.invokespecial 3, 3) := by decide +kernel
theorem dX2_init_4 : decode cX2_init 4 = .ok (.aload_n 0, 1) := by decide +kernel
theorem dX2_init_5 : decode cX2_init 5 = .ok (.bipush 40, 2) := by decide +kernel
theorem dX2_init_7 : decode cX2_init 7 = .ok (.newarray .int, 2) := by decide +kernel
theorem dX2_init_9 : decode cX2_init 9 = .ok (.putfield 9, 3) := by decide +kernel
theorem dX2_init_12 : decode cX2_init 12 = .ok (.aload_n 0, 1) := by decide +kernel
theorem dX2_init_13 : decode cX2_init 13 = .ok (.bipush 40, 2) := by decide +kernel
theorem dX2_init_15 : decode cX2_init 15 = .ok (.newarray .int, 2) := by decide +kernel
theorem dX2_init_17 : decode cX2_init 17 = .ok (.putfield 15, 3) := by decide +kernel
theorem dX2_init_20 : decode cX2_init 20 = .ok (.return_, 1) := by decide +kernel
theorem dX2_size_0 : decode cX2_size 0 = .ok (.aload_n 0, 1) := by decide +kernel
theorem dX2_size_1 : decode cX2_size 1 = .ok (.getfield 18, 3) := by decide +kernel
theorem dX2_size_4 : decode cX2_size 4 = .ok (.ireturn, 1) := by decide +kernel
set_option maxRecDepth 20000 in
theorem ggX2_note_J13_bitCount_95d88 : GoodIn wsX2_note wsJ13_bitCount_95d88 := goodIn_r _ [11, 12, 13, 14] rfl (by decide +kernel)
set_option maxRecDepth 20000 in
theorem gX2_note_J13_bitCount_95d88 : GoodIn wsX2_note (va_wsS RX2 25 yJ13_bitCount_95d88 wsJ13_bitCount_95d88) := goodIn_app (goodIn_of _ (by decide +kernel)) ggX2_note_J13_bitCount_95d88
theorem dX2_note_0 : decode cX2_note 0 = .ok (.iconst 2, 1) := by decide +kernel
theorem dX2_note_1 : decode cX2_note 1 = .ok (.aload_n 0, 1) := by decide +kernel
theorem dX2_note_2 : decode cX2_note 2 = .ok (.getfield 18, 3) := by decide +kernel
theorem dX2_note_5 : decode cX2_note 5 = .ok (.imul, 1) := by decide +kernel
theorem dX2_note_6 : decode cX2_note 6 = .ok (.istore 4, 2) := by decide +kernel
theorem dX2_note_8 : decode cX2_note 8 = .ok (.iconst 0, 1) := by decide +kernel
theorem dX2_note_9 : decode cX2_note 9 = .ok (.istore 5, 2) := by decide +kernel
theorem dX2_note_11 : decode cX2_note 11 = .ok (.iload 5, 2) := by decide +kernel
theorem dX2_note_13 : decode cX2_note 13 = .ok (.bipush 40, 2) := by decide +kernel
theorem dX2_note_15 : decode cX2_note 15 = .ok (.if_icmp .ge 29, 3) := by decide +kernel
theorem dX2_note_18 : decode cX2_note 18 = .ok (.aload_n 0, 1) := by decide +kernel
theorem dX2_note_19 : decode cX2_note 19 = .ok (.getfield 9, 3) := by decide +kernel
theorem dX2_note_22 : decode cX2_note 22 = .ok (.iload 5, 2) := by decide +kernel
theorem dX2_note_24 : decode cX2_note 24 = .ok (.dup2, 1) := by decide +kernel
theorem dX2_note_25 : decode cX2_note 25 = .ok (.iaload, 1) := by decide +kernel
theorem dX2_note_26 : decode cX2_note 26 = .ok (.lload_n 1, 1) := by decide +kernel
theorem dX2_note_27 : decode cX2_note 27 = .ok (.iload 5, 2) := by decide +kernel
theorem dX2_note_29 : decode cX2_note 29 = .ok (.lushr, 1) := by decide +kernel
theorem dX2_note_30 : decode cX2_note 30 = .ok (.lconst 1, 1) := by decide +kernel
theorem dX2_note_31 : decode cX2_note 31 = .ok (.land, 1) := by decide +kernel
theorem dX2_note_32 : decode cX2_note 32 = .ok (.l2i, 1) := by decide +kernel
theorem dX2_note_33 : decode cX2_note 33 = .ok (.iload 4, 2) := by decide +kernel
theorem dX2_note_35 : decode cX2_note 35 = .ok (.ishl, 1) := by decide +kernel
theorem dX2_note_36 : decode cX2_note 36 = .ok (.ior, 1) := by decide +kernel
theorem dX2_note_37 : decode cX2_note 37 = .ok (.iastore, 1) := by decide +kernel
theorem dX2_note_38 : decode cX2_note 38 = .ok (.iinc 5 1, 3) := by decide +kernel
theorem dX2_note_41 : decode cX2_note 41 = .ok (.goto (-30), 3) := by decide +kernel
theorem dX2_note_44 : decode cX2_note 44 = .ok (.aload_n 0, 1) := by decide +kernel
theorem dX2_note_45 : decode cX2_note 45 = .ok (.dup, 1) := by decide +kernel
theorem dX2_note_46 : decode cX2_note 46 = .ok (.getfield 22, 3) := by decide +kernel
theorem dX2_note_49 : decode cX2_note 49 = .ok (.iconst 3, 1) := by decide +kernel
theorem dX2_note_50 : decode cX2_note 50 = .ok (.lload_n 1, 1) := by decide +kernel
theorem dX2_note_51 : decode cX2_note 51 = .ok (.invokestatic 25, 3) := by decide +kernel
theorem dX2_note_54 : decode cX2_note 54 = .ok (.iload_n 3, 1) := by decide +kernel
theorem dX2_note_55 : decode cX2_note 55 = .ok (.isub, 1) := by decide +kernel
theorem dX2_note_56 : decode cX2_note 56 = .ok (.invokestatic 31, 3) := by decide +kernel
theorem dX2_note_59 : decode cX2_note 59 = .ok (.iload 4, 2) := by decide +kernel
theorem dX2_note_61 : decode cX2_note 61 = .ok (.ishl, 1) := by decide +kernel
theorem dX2_note_62 : decode cX2_note 62 = .ok (.ior, 1) := by decide +kernel
theorem dX2_note_63 : decode cX2_note 63 = .ok (.putfield 22, 3) := by decide +kernel
theorem dX2_note_66 : decode cX2_note 66 = .ok (.aload_n 0, 1) := by decide +kernel
theorem dX2_note_67 : decode cX2_note 67 = .ok (.dup, 1) := by decide +kernel
theorem dX2_note_68 : decode cX2_note 68 = .ok (.getfield 18, 3) := by decide +kernel
theorem dX2_note_71 : decode cX2_note 71 = .ok (.iconst 1, 1) := by decide +kernel
theorem dX2_note_72 : decode cX2_note 72 = .ok (.iadd, 1) := by decide +kernel
theorem dX2_note_73 : decode cX2_note 73 = .ok (.putfield 18, 3) := by decide +kernel
theorem dX2_note_76 : decode cX2_note 76 = .ok (.aload_n 0, 1) := by decide +kernel
theorem dX2_note_77 : decode cX2_note 77 = .ok (.getfield 18, 3) := by decide +kernel
theorem dX2_note_80 : decode cX2_note 80 = .ok (.iconst 1, 1) := by decide +kernel
theorem dX2_note_81 : decode cX2_note 81 = .ok (.isub, 1) := by decide +kernel
theorem dX2_note_82 : decode cX2_note 82 = .ok (.ireturn, 1) := by decide +kernel
set_option maxRecDepth 20000 in
theorem ggX2_drop_J7_fill_53178 : GoodIn wsX2_drop wsJ7_fill_53178 := goodIn_r _ [7] rfl (by decide +kernel)
set_option maxRecDepth 20000 in
theorem gX2_drop_J7_fill_53178 : GoodIn wsX2_drop (va_wsS RX2 37 yJ7_fill_53178 wsJ7_fill_53178) := goodIn_app (goodIn_of _ (by decide +kernel)) ggX2_drop_J7_fill_53178
theorem dX2_drop_0 : decode cX2_drop 0 = .ok (.aload_n 0, 1) := by decide +kernel
theorem dX2_drop_1 : decode cX2_drop 1 = .ok (.getfield 18, 3) := by decide +kernel
theorem dX2_drop_4 : decode cX2_drop 4 = .ok (.istore_n 1, 1) := by decide +kernel
theorem dX2_drop_5 : decode cX2_drop 5 = .ok (.aload_n 0, 1) := by decide +kernel
theorem dX2_drop_6 : decode cX2_drop 6 = .ok (.getfield 9, 3) := by decide +kernel
theorem dX2_drop_9 : decode cX2_drop 9 = .ok (.iconst 0, 1) := by decide +kernel
theorem dX2_drop_10 : decode cX2_drop 10 = .ok (.invokestatic 37, 3) := by decide +kernel
theorem dX2_drop_13 : decode cX2_drop 13 = .ok (.aload_n 0, 1) := by decide +kernel
theorem dX2_drop_14 : decode cX2_drop 14 = .ok (.iconst 0, 1) := by decide +kernel
theorem dX2_drop_15 : decode cX2_drop 15 = .ok (.putfield 22, 3) := by decide +kernel
theorem dX2_drop_18 : decode cX2_drop 18 = .ok (.aload_n 0, 1) := by decide +kernel
theorem dX2_drop_19 : decode cX2_drop 19 = .ok (.iconst 0, 1) := by decide +kernel
theorem dX2_drop_20 : decode cX2_drop 20 = .ok (.putfield 18, 3) := by decide +kernel
theorem dX2_drop_23 : decode cX2_drop 23 = .ok (.iload_n 1, 1) := by decide +kernel
theorem dX2_drop_24 : decode cX2_drop 24 = .ok (.ireturn, 1) := by decide +kernel
set_option maxRecDepth 20000 in
theorem ggX2_setsOf_X2_tally : GoodIn wsX2_setsOf wsX2_tally := goodIn_r _ [6, 7, 8, 1, 9, 10, 11, 12, 13, 14, 15, 16, 17, 18] rfl (by decide +kernel)
set_option maxRecDepth 20000 in
theorem gX2_setsOf_X2_tally : GoodIn wsX2_setsOf (wsV RX2 43 RX2 yX2_tally wsX2_tally) := goodIn_app (goodIn_of _ (by decide +kernel)) ggX2_setsOf_X2_tally
theorem dX2_setsOf_0 : decode cX2_setsOf 0 = .ok (.aload_n 0, 1) := by decide +kernel
theorem dX2_setsOf_1 : decode cX2_setsOf 1 = .ok (.iload_n 1, 1) := by decide +kernel
theorem dX2_setsOf_2 : decode cX2_setsOf 2 = .ok (.invokevirtual 43, 3) := by decide +kernel
theorem dX2_setsOf_5 : decode cX2_setsOf 5 = .ok (.aload_n 0, 1) := by decide +kernel
theorem dX2_setsOf_6 : decode cX2_setsOf 6 = .ok (.getfield 47, 3) := by decide +kernel
theorem dX2_setsOf_9 : decode cX2_setsOf 9 = .ok (.ireturn, 1) := by decide +kernel
set_option maxRecDepth 20000 in
theorem ggX2_verdictOn_X2_tally : GoodIn wsX2_verdictOn wsX2_tally := goodIn_r _ [6, 1, 7, 8, 9, 10, 11, 12, 13, 18, 19, 20, 21, 22] rfl (by decide +kernel)
set_option maxRecDepth 20000 in
theorem gX2_verdictOn_X2_tally : GoodIn wsX2_verdictOn (wsV RX2 43 RX2 yX2_tally wsX2_tally) := goodIn_app (goodIn_of _ (by decide +kernel)) ggX2_verdictOn_X2_tally
set_option maxRecDepth 20000 in
theorem ggX2_verdictOn_X2_isSure : GoodIn wsX2_verdictOn wsX2_isSure := goodIn_r _ [17, 8, 1, 18, 19, 20, 21, 22] rfl (by decide +kernel)
set_option maxRecDepth 20000 in
theorem gX2_verdictOn_X2_isSure : GoodIn wsX2_verdictOn (wsV RX2 50 RX2 yX2_isSure wsX2_isSure) := goodIn_app (goodIn_of _ (by decide +kernel)) ggX2_verdictOn_X2_isSure
theorem dX2_verdictOn_0 : decode cX2_verdictOn 0 = .ok (.aload_n 0, 1) := by decide +kernel
theorem dX2_verdictOn_1 : decode cX2_verdictOn 1 = .ok (.iload_n 2, 1) := by decide +kernel
theorem dX2_verdictOn_2 : decode cX2_verdictOn 2 = .ok (.invokevirtual 43, 3) := by decide +kernel
theorem dX2_verdictOn_5 : decode cX2_verdictOn 5 = .ok (.aload_n 0, 1) := by decide +kernel
theorem dX2_verdictOn_6 : decode cX2_verdictOn 6 = .ok (.iload_n 1, 1) := by decide +kernel
theorem dX2_verdictOn_7 : decode cX2_verdictOn 7 = .ok (.invokevirtual 50, 3) := by decide +kernel
theorem dX2_verdictOn_10 : decode cX2_verdictOn 10 = .ok (.ifCond .ne 5, 3) := by decide +kernel
theorem dX2_verdictOn_13 : decode cX2_verdictOn 13 = .ok (.iconst 2, 1) := by decide +kernel
theorem dX2_verdictOn_14 : decode cX2_verdictOn 14 = .ok (.ireturn, 1) := by decide +kernel
theorem dX2_verdictOn_15 : decode cX2_verdictOn 15 = .ok (.aload_n 0, 1) := by decide +kernel
theorem dX2_verdictOn_16 : decode cX2_verdictOn 16 = .ok (.getfield 15, 3) := by decide +kernel
theorem dX2_verdictOn_19 : decode cX2_verdictOn 19 = .ok (.iload_n 1, 1) := by decide +kernel
theorem dX2_verdictOn_20 : decode cX2_verdictOn 20 = .ok (.iaload, 1) := by decide +kernel
theorem dX2_verdictOn_21 : decode cX2_verdictOn 21 = .ok (.ifCond .ne 7, 3) := by decide +kernel
theorem dX2_verdictOn_24 : decode cX2_verdictOn 24 = .ok (.iconst 0, 1) := by decide +kernel
theorem dX2_verdictOn_25 : decode cX2_verdictOn 25 = .ok (.goto 4, 3) := by decide +kernel
theorem dX2_verdictOn_28 : decode cX2_verdictOn 28 = .ok (.iconst 1, 1) := by decide +kernel
theorem dX2_verdictOn_29 : decode cX2_verdictOn 29 = .ok (.ireturn, 1) := by decide +kernel
set_option maxRecDepth 20000 in
theorem ggX2_unsureOf_X2_tally : GoodIn wsX2_unsureOf wsX2_tally := goodIn_r _ [5, 6, 7, 8, 9, 10, 11, 12, 13, 18, 19, 20, 21, 22] rfl (by decide +kernel)
set_option maxRecDepth 20000 in
theorem gX2_unsureOf_X2_tally : GoodIn wsX2_unsureOf (wsV RX2 43 RX2 yX2_tally wsX2_tally) := goodIn_app (goodIn_of _ (by decide +kernel)) ggX2_unsureOf_X2_tally
set_option maxRecDepth 20000 in
theorem ggX2_unsureOf_X2_isSure : GoodIn wsX2_unsureOf wsX2_isSure := goodIn_r _ [17, 8, 6, 18, 19, 20, 21, 22] rfl (by decide +kernel)
set_option maxRecDepth 20000 in
theorem gX2_unsureOf_X2_isSure : GoodIn wsX2_unsureOf (wsV RX2 50 RX2 yX2_isSure wsX2_isSure) := goodIn_app (goodIn_of _ (by decide +kernel)) ggX2_unsureOf_X2_isSure
theorem dX2_unsureOf_0 : decode cX2_unsureOf 0 = .ok (.aload_n 0, 1) := by decide +kernel
theorem dX2_unsureOf_1 : decode cX2_unsureOf 1 = .ok (.iload_n 1, 1) := by decide +kernel
theorem dX2_unsureOf_2 : decode cX2_unsureOf 2 = .ok (.invokevirtual 43, 3) := by decide +kernel
theorem dX2_unsureOf_5 : decode cX2_unsureOf 5 = .ok (.iconst 0, 1) := by decide +kernel
theorem dX2_unsureOf_6 : decode cX2_unsureOf 6 = .ok (.istore_n 2, 1) := by decide +kernel
theorem dX2_unsureOf_7 : decode cX2_unsureOf 7 = .ok (.iconst 0, 1) := by decide +kernel
theorem dX2_unsureOf_8 : decode cX2_unsureOf 8 = .ok (.istore_n 3, 1) := by decide +kernel
theorem dX2_unsureOf_9 : decode cX2_unsureOf 9 = .ok (.iload_n 3, 1) := by decide +kernel
theorem dX2_unsureOf_10 : decode cX2_unsureOf 10 = .ok (.iload_n 1, 1) := by decide +kernel
theorem dX2_unsureOf_11 : decode cX2_unsureOf 11 = .ok (.if_icmp .ge 20, 3) := by decide +kernel
theorem dX2_unsureOf_14 : decode cX2_unsureOf 14 = .ok (.aload_n 0, 1) := by decide +kernel
theorem dX2_unsureOf_15 : decode cX2_unsureOf 15 = .ok (.iload_n 3, 1) := by decide +kernel
theorem dX2_unsureOf_16 : decode cX2_unsureOf 16 = .ok (.invokevirtual 50, 3) := by decide +kernel
theorem dX2_unsureOf_19 : decode cX2_unsureOf 19 = .ok (.ifCond .ne 6, 3) := by decide +kernel
theorem dX2_unsureOf_22 : decode cX2_unsureOf 22 = .ok (.iinc 2 1, 3) := by decide +kernel
theorem dX2_unsureOf_25 : decode cX2_unsureOf 25 = .ok (.iinc 3 1, 3) := by decide +kernel
theorem dX2_unsureOf_28 : decode cX2_unsureOf 28 = .ok (.goto (-19), 3) := by decide +kernel
theorem dX2_unsureOf_31 : decode cX2_unsureOf 31 = .ok (.iload_n 2, 1) := by decide +kernel
theorem dX2_unsureOf_32 : decode cX2_unsureOf 32 = .ok (.ireturn, 1) := by decide +kernel
theorem dX2_isSure_0 : decode cX2_isSure 0 = .ok (.aload_n 0, 1) := by decide +kernel
theorem dX2_isSure_1 : decode cX2_isSure 1 = .ok (.getfield 47, 3) := by decide +kernel
theorem dX2_isSure_4 : decode cX2_isSure 4 = .ok (.ifCond .le 29, 3) := by decide +kernel
theorem dX2_isSure_7 : decode cX2_isSure 7 = .ok (.aload_n 0, 1) := by decide +kernel
theorem dX2_isSure_8 : decode cX2_isSure 8 = .ok (.getfield 15, 3) := by decide +kernel
theorem dX2_isSure_11 : decode cX2_isSure 11 = .ok (.iload_n 1, 1) := by decide +kernel
theorem dX2_isSure_12 : decode cX2_isSure 12 = .ok (.iaload, 1) := by decide +kernel
theorem dX2_isSure_13 : decode cX2_isSure 13 = .ok (.ifCond .eq 16, 3) := by decide +kernel
theorem dX2_isSure_16 : decode cX2_isSure 16 = .ok (.aload_n 0, 1) := by decide +kernel
theorem dX2_isSure_17 : decode cX2_isSure 17 = .ok (.getfield 15, 3) := by decide +kernel
theorem dX2_isSure_20 : decode cX2_isSure 20 = .ok (.iload_n 1, 1) := by decide +kernel
theorem dX2_isSure_21 : decode cX2_isSure 21 = .ok (.iaload, 1) := by decide +kernel
theorem dX2_isSure_22 : decode cX2_isSure 22 = .ok (.aload_n 0, 1) := by decide +kernel
theorem dX2_isSure_23 : decode cX2_isSure 23 = .ok (.getfield 47, 3) := by decide +kernel
theorem dX2_isSure_26 : decode cX2_isSure 26 = .ok (.if_icmp .ne 7, 3) := by decide +kernel
theorem dX2_isSure_29 : decode cX2_isSure 29 = .ok (.iconst 1, 1) := by decide +kernel
theorem dX2_isSure_30 : decode cX2_isSure 30 = .ok (.goto 4, 3) := by decide +kernel
theorem dX2_isSure_33 : decode cX2_isSure 33 = .ok (.iconst 0, 1) := by decide +kernel
theorem dX2_isSure_34 : decode cX2_isSure 34 = .ok (.ireturn, 1) := by decide +kernel
set_option maxRecDepth 20000 in
theorem ggX2_tally_J7_fill_53178 : GoodIn wsX2_tally wsJ7_fill_53178 := goodIn_r _ [8] rfl (by decide +kernel)
set_option maxRecDepth 20000 in
theorem gX2_tally_J7_fill_53178 : GoodIn wsX2_tally (va_wsS RX2 37 yJ7_fill_53178 wsJ7_fill_53178) := goodIn_app (goodIn_of _ (by decide +kernel)) ggX2_tally_J7_fill_53178
theorem dX2_tally_0 : decode cX2_tally 0 = .ok (.aload_n 0, 1) := by decide +kernel
theorem dX2_tally_1 : decode cX2_tally 1 = .ok (.getfield 15, 3) := by decide +kernel
theorem dX2_tally_4 : decode cX2_tally 4 = .ok (.iconst 0, 1) := by decide +kernel
theorem dX2_tally_5 : decode cX2_tally 5 = .ok (.invokestatic 37, 3) := by decide +kernel
theorem dX2_tally_8 : decode cX2_tally 8 = .ok (.aload_n 0, 1) := by decide +kernel
theorem dX2_tally_9 : decode cX2_tally 9 = .ok (.aload_n 0, 1) := by decide +kernel
theorem dX2_tally_10 : decode cX2_tally 10 = .ok (.getfield 22, 3) := by decide +kernel
theorem dX2_tally_13 : decode cX2_tally 13 = .ok (.ifCond .ne 7, 3) := by decide +kernel
theorem dX2_tally_16 : decode cX2_tally 16 = .ok (.iconst 1, 1) := by decide +kernel
theorem dX2_tally_17 : decode cX2_tally 17 = .ok (.goto 4, 3) := by decide +kernel
theorem dX2_tally_20 : decode cX2_tally 20 = .ok (.iconst 0, 1) := by decide +kernel
theorem dX2_tally_21 : decode cX2_tally 21 = .ok (.putfield 47, 3) := by decide +kernel
theorem dX2_tally_24 : decode cX2_tally 24 = .ok (.iconst 0, 1) := by decide +kernel
theorem dX2_tally_25 : decode cX2_tally 25 = .ok (.istore_n 2, 1) := by decide +kernel
theorem dX2_tally_26 : decode cX2_tally 26 = .ok (.iload_n 2, 1) := by decide +kernel
theorem dX2_tally_27 : decode cX2_tally 27 = .ok (.iload_n 1, 1) := by decide +kernel
theorem dX2_tally_28 : decode cX2_tally 28 = .ok (.if_icmp .ge 105, 3) := by decide +kernel
theorem dX2_tally_31 : decode cX2_tally 31 = .ok (.aload_n 0, 1) := by decide +kernel
theorem dX2_tally_32 : decode cX2_tally 32 = .ok (.getfield 9, 3) := by decide +kernel
theorem dX2_tally_35 : decode cX2_tally 35 = .ok (.iload_n 2, 1) := by decide +kernel
theorem dX2_tally_36 : decode cX2_tally 36 = .ok (.iaload, 1) := by decide +kernel
theorem dX2_tally_37 : decode cX2_tally 37 = .ok (.aload_n 0, 1) := by decide +kernel
theorem dX2_tally_38 : decode cX2_tally 38 = .ok (.getfield 22, 3) := by decide +kernel
theorem dX2_tally_41 : decode cX2_tally 41 = .ok (.if_icmp .ne 23, 3) := by decide +kernel
theorem dX2_tally_44 : decode cX2_tally 44 = .ok (.aload_n 0, 1) := by decide +kernel
theorem dX2_tally_45 : decode cX2_tally 45 = .ok (.dup, 1) := by decide +kernel
theorem dX2_tally_46 : decode cX2_tally 46 = .ok (.getfield 47, 3) := by decide +kernel
theorem dX2_tally_49 : decode cX2_tally 49 = .ok (.iconst 1, 1) := by decide +kernel
theorem dX2_tally_50 : decode cX2_tally 50 = .ok (.iadd, 1) := by decide +kernel
theorem dX2_tally_51 : decode cX2_tally 51 = .ok (.putfield 47, 3) := by decide +kernel
theorem dX2_tally_54 : decode cX2_tally 54 = .ok (.aload_n 0, 1) := by decide +kernel
theorem dX2_tally_55 : decode cX2_tally 55 = .ok (.getfield 15, 3) := by decide +kernel
theorem dX2_tally_58 : decode cX2_tally 58 = .ok (.iload_n 2, 1) := by decide +kernel
theorem dX2_tally_59 : decode cX2_tally 59 = .ok (.dup2, 1) := by decide +kernel
theorem dX2_tally_60 : decode cX2_tally 60 = .ok (.iaload, 1) := by decide +kernel
theorem dX2_tally_61 : decode cX2_tally 61 = .ok (.iconst 1, 1) := by decide +kernel
theorem dX2_tally_62 : decode cX2_tally 62 = .ok (.iadd, 1) := by decide +kernel
theorem dX2_tally_63 : decode cX2_tally 63 = .ok (.iastore, 1) := by decide +kernel
theorem dX2_tally_64 : decode cX2_tally 64 = .ok (.iconst 0, 1) := by decide +kernel
theorem dX2_tally_65 : decode cX2_tally 65 = .ok (.istore_n 3, 1) := by decide +kernel
theorem dX2_tally_66 : decode cX2_tally 66 = .ok (.iload_n 3, 1) := by decide +kernel
theorem dX2_tally_67 : decode cX2_tally 67 = .ok (.iload_n 2, 1) := by decide +kernel
theorem dX2_tally_68 : decode cX2_tally 68 = .ok (.if_icmp .ge 59, 3) := by decide +kernel
theorem dX2_tally_71 : decode cX2_tally 71 = .ok (.aload_n 0, 1) := by decide +kernel
theorem dX2_tally_72 : decode cX2_tally 72 = .ok (.getfield 9, 3) := by decide +kernel
theorem dX2_tally_75 : decode cX2_tally 75 = .ok (.iload_n 2, 1) := by decide +kernel
theorem dX2_tally_76 : decode cX2_tally 76 = .ok (.iaload, 1) := by decide +kernel
theorem dX2_tally_77 : decode cX2_tally 77 = .ok (.aload_n 0, 1) := by decide +kernel
theorem dX2_tally_78 : decode cX2_tally 78 = .ok (.getfield 9, 3) := by decide +kernel
theorem dX2_tally_81 : decode cX2_tally 81 = .ok (.iload_n 3, 1) := by decide +kernel
theorem dX2_tally_82 : decode cX2_tally 82 = .ok (.iaload, 1) := by decide +kernel
theorem dX2_tally_83 : decode cX2_tally 83 = .ok (.iadd, 1) := by decide +kernel
theorem dX2_tally_84 : decode cX2_tally 84 = .ok (.aload_n 0, 1) := by decide +kernel
theorem dX2_tally_85 : decode cX2_tally 85 = .ok (.getfield 22, 3) := by decide +kernel
theorem dX2_tally_88 : decode cX2_tally 88 = .ok (.if_icmp .ne 33, 3) := by decide +kernel
theorem dX2_tally_91 : decode cX2_tally 91 = .ok (.aload_n 0, 1) := by decide +kernel
theorem dX2_tally_92 : decode cX2_tally 92 = .ok (.dup, 1) := by decide +kernel
theorem dX2_tally_93 : decode cX2_tally 93 = .ok (.getfield 47, 3) := by decide +kernel
theorem dX2_tally_96 : decode cX2_tally 96 = .ok (.iconst 1, 1) := by decide +kernel
theorem dX2_tally_97 : decode cX2_tally 97 = .ok (.iadd, 1) := by decide +kernel
theorem dX2_tally_98 : decode cX2_tally 98 = .ok (.putfield 47, 3) := by decide +kernel
theorem dX2_tally_101 : decode cX2_tally 101 = .ok (.aload_n 0, 1) := by decide +kernel
theorem dX2_tally_102 : decode cX2_tally 102 = .ok (.getfield 15, 3) := by decide +kernel
theorem dX2_tally_105 : decode cX2_tally 105 = .ok (.iload_n 2, 1) := by decide +kernel
theorem dX2_tally_106 : decode cX2_tally 106 = .ok (.dup2, 1) := by decide +kernel
theorem dX2_tally_107 : decode cX2_tally 107 = .ok (.iaload, 1) := by decide +kernel
theorem dX2_tally_108 : decode cX2_tally 108 = .ok (.iconst 1, 1) := by decide +kernel
theorem dX2_tally_109 : decode cX2_tally 109 = .ok (.iadd, 1) := by decide +kernel
theorem dX2_tally_110 : decode cX2_tally 110 = .ok (.iastore, 1) := by decide +kernel
theorem dX2_tally_111 : decode cX2_tally 111 = .ok (.aload_n 0, 1) := by decide +kernel
end
section
theorem dX2_tally_112 : decode cX2_tally 112 = .ok (.getfield 15, 3) := by decide +kernel
theorem dX2_tally_115 : decode cX2_tally 115 = .ok (.iload_n 3, 1) := by decide +kernel
theorem dX2_tally_116 : decode cX2_tally 116 = .ok (.dup2, 1) := by decide +kernel
theorem dX2_tally_117 : decode cX2_tally 117 = .ok (.iaload, 1) := by decide +kernel
theorem dX2_tally_118 : decode cX2_tally 118 = .ok (.iconst 1, 1) := by decide +kernel
theorem dX2_tally_119 : decode cX2_tally 119 = .ok (.iadd, 1) := by decide +kernel
theorem dX2_tally_120 : decode cX2_tally 120 = .ok (.iastore, 1) := by decide +kernel
theorem dX2_tally_121 : decode cX2_tally 121 = .ok (.iinc 3 1, 3) := by decide +kernel
theorem dX2_tally_124 : decode cX2_tally 124 = .ok (.goto (-58), 3) := by decide +kernel
theorem dX2_tally_127 : decode cX2_tally 127 = .ok (.iinc 2 1, 3) := by decide +kernel
theorem dX2_tally_130 : decode cX2_tally 130 = .ok (.goto (-104), 3) := by decide +kernel
theorem dX2_tally_133 : decode cX2_tally 133 = .ok (.return_, 1) := by decide +kernel
set_option maxRecDepth 20000 in
theorem ggX3_init_J7_fill_53178 : GoodIn wsX3_init wsJ7_fill_53178 := goodIn_r _ [17] rfl (by decide +kernel)
set_option maxRecDepth 20000 in
theorem gX3_init_J7_fill_53178 : GoodIn wsX3_init (va_wsS RX3 23 yJ7_fill_53178 wsJ7_fill_53178) := goodIn_app (goodIn_of _ (by decide +kernel)) ggX3_init_J7_fill_53178
theorem dX3_init_0 : decode cX3_init 0 = .ok (.aload_n 0, 1) := by decide +kernel
theorem dX3_init_1 : decode cX3_init 1 = .ok (.invokespecial 3, 3) := by decide +kernel
theorem dX3_init_4 : decode cX3_init 4 = .ok (.aload_n 0, 1) := by decide +kernel
theorem dX3_init_5 : decode cX3_init 5 = .ok (.aload_n 1, 1) := by decide +kernel
theorem dX3_init_6 : decode cX3_init 6 = .ok (.putfield 9, 3) := by decide +kernel
theorem dX3_init_9 : decode cX3_init 9 = .ok (.aload_n 0, 1) := by decide +kernel
theorem dX3_init_10 : decode cX3_init 10 = .ok (.aload_n 2, 1) := by decide +kernel
theorem dX3_init_11 : decode cX3_init 11 = .ok (.putfield 15, 3) := by decide +kernel
theorem dX3_init_14 : decode cX3_init 14 = .ok (.aload_n 0, 1) := by decide +kernel
theorem dX3_init_15 : decode cX3_init 15 = .ok (.bipush 24, 2) := by decide +kernel
theorem dX3_init_17 : decode cX3_init 17 = .ok (.newarray .int, 2) := by decide +kernel
theorem dX3_init_19 : decode cX3_init 19 = .ok (.putfield 19, 3) := by decide +kernel
theorem dX3_init_22 : decode cX3_init 22 = .ok (.aload_n 0, 1) := by decide +kernel
theorem dX3_init_23 : decode cX3_init 23 = .ok (.getfield 19, 3) := by decide +kernel
theorem dX3_init_26 : decode cX3_init 26 = .ok (.bipush 10, 2) := by decide +kernel
theorem dX3_init_28 : decode cX3_init 28 = .ok (.invokestatic 23, 3) := by decide +kernel
theorem dX3_init_31 : decode cX3_init 31 = .ok (.aload_n 0, 1) := by decide +kernel
theorem dX3_init_32 : decode cX3_init 32 = .ok (.sipush 402, 3) := by decide +kernel
theorem dX3_init_35 : decode cX3_init 35 = .ok (.newarray .int, 2) := by decide +kernel
theorem dX3_init_37 : decode cX3_init 37 = .ok (.putfield 29, 3) := by decide +kernel
theorem dX3_init_40 : decode cX3_init 40 = .ok (.aload_n 0, 1) := by decide +kernel
theorem dX3_init_41 : decode cX3_init 41 = .ok (.sipush 402, 3) := by decide +kernel
theorem dX3_init_44 : decode cX3_init 44 = .ok (.newarray .int, 2) := by decide +kernel
theorem dX3_init_46 : decode cX3_init 46 = .ok (.putfield 32, 3) := by decide +kernel
theorem dX3_init_49 : decode cX3_init 49 = .ok (.aload_n 0, 1) := by decide +kernel
theorem dX3_init_50 : decode cX3_init 50 = .ok (.sipush 402, 3) := by decide +kernel
theorem dX3_init_53 : decode cX3_init 53 = .ok (.newarray .int, 2) := by decide +kernel
theorem dX3_init_55 : decode cX3_init 55 = .ok (.putfield 35, 3) := by decide +kernel
theorem dX3_init_58 : decode cX3_init 58 = .ok (.aload_n 0, 1) := by decide +kernel
theorem dX3_init_59 : decode cX3_init 59 = .ok (.bipush 24, 2) := by decide +kernel
theorem dX3_init_61 : decode cX3_init 61 = .ok (.newarray .int, 2) := by decide +kernel
theorem dX3_init_63 : decode cX3_init 63 = .ok (.putfield 38, 3) := by decide +kernel
theorem dX3_init_66 : decode cX3_init 66 = .ok (.aload_n 0, 1) := by decide +kernel
theorem dX3_init_67 : decode cX3_init 67 = .ok (.bipush 24, 2) := by decide +kernel
theorem dX3_init_69 : decode cX3_init 69 = .ok (.newarray .int, 2) := by decide +kernel
theorem dX3_init_71 : decode cX3_init 71 = .ok (.putfield 41, 3) := by decide +kernel
theorem dX3_init_74 : decode cX3_init 74 = .ok (.aload_n 0, 1) := by decide +kernel
theorem dX3_init_75 : decode cX3_init 75 = .ok (.bipush 24, 2) := by decide +kernel
theorem dX3_init_77 : decode cX3_init 77 = .ok (.putfield 44, 3) := by decide +kernel
theorem dX3_init_80 : decode cX3_init 80 = .ok (.return_, 1) := by decide +kernel
theorem dX3_setPrice_0 : decode cX3_setPrice 0 = .ok (.aload_n 0, 1) := by decide +kernel
theorem dX3_setPrice_1 : decode cX3_setPrice 1 = .ok (.getfield 19, 3) := by decide +kernel
theorem dX3_setPrice_4 : decode cX3_setPrice 4 = .ok (.iload_n 1, 1) := by decide +kernel
theorem dX3_setPrice_5 : decode cX3_setPrice 5 = .ok (.iload_n 2, 1) := by decide +kernel
theorem dX3_setPrice_6 : decode cX3_setPrice 6 = .ok (.iastore, 1) := by decide +kernel
theorem dX3_setPrice_7 : decode cX3_setPrice 7 = .ok (.return_, 1) := by decide +kernel
theorem dX3_hourNow_0 : decode cX3_hourNow 0 = .ok (.aload_n 0, 1) := by decide +kernel
theorem dX3_hourNow_1 : decode cX3_hourNow 1 = .ok (.getfield 48, 3) := by decide +kernel
theorem dX3_hourNow_4 : decode cX3_hourNow 4 = .ok (.ireturn, 1) := by decide +kernel
theorem dX3_unitsHeld_0 : decode cX3_unitsHeld 0 = .ok (.aload_n 0, 1) := by decide +kernel
theorem dX3_unitsHeld_1 : decode cX3_unitsHeld 1 = .ok (.getfield 51, 3) := by decide +kernel
theorem dX3_unitsHeld_4 : decode cX3_unitsHeld 4 = .ok (.ireturn, 1) := by decide +kernel
theorem dX3_isWarm_0 : decode cX3_isWarm 0 = .ok (.aload_n 0, 1) := by decide +kernel
theorem dX3_isWarm_1 : decode cX3_isWarm 1 = .ok (.getfield 54, 3) := by decide +kernel
theorem dX3_isWarm_4 : decode cX3_isWarm 4 = .ok (.ireturn, 1) := by decide +kernel
theorem dX3_earnedInAll_0 : decode cX3_earnedInAll 0 = .ok (.aload_n 0, 1) := by decide +kernel
theorem dX3_earnedInAll_1 : decode cX3_earnedInAll 1 = .ok (.getfield 58, 3) := by decide +kernel
theorem dX3_earnedInAll_4 : decode cX3_earnedInAll 4 = .ok (.ireturn, 1) := by decide +kernel
set_option maxRecDepth 20000 in
theorem ggX3_passHour_X0_aimAll : GoodIn wsX3_passHour wsX0_aimAll := goodIn_r _ [11, 12, 13, 14, 15, 16, 17, 18, 19, 20, 21, 22, 23, 24, 10, 25, 26, 27, 28, 29, 30, 31, 32, 33, 34, 35, 36, 37, 38, 39, 40, 41, 42, 43, 44, 45, 46, 47, 48, 49, 50, 51, 52, 53, 54, 55, 56, 57, 58, 59, 60, 61, 62, 63, 64, 65, 66, 67, 68, 69, 70, 71, 72, 104, 105, 106, 107, 108, 109, 110, 111, 112, 113, 114, 115, 116, 117, 118, 119, 120, 121, 122, 123, 124, 125] rfl (by decide +kernel)
set_option maxRecDepth 20000 in
theorem gX3_passHour_X0_aimAll : GoodIn wsX3_passHour (wsV RX3 61 RX0 yX0_aimAll wsX0_aimAll) := goodIn_app (goodIn_of _ (by decide +kernel)) ggX3_passHour_X0_aimAll
set_option maxRecDepth 20000 in
theorem ggX3_passHour_X3_filled : GoodIn wsX3_passHour wsX3_filled := goodIn_r _ [76, 77, 54, 39, 55] rfl (by decide +kernel)
set_option maxRecDepth 20000 in
theorem gX3_passHour_X3_filled : GoodIn wsX3_passHour (va_wsS RX3 67 yX3_filled wsX3_filled) := goodIn_app (goodIn_of _ (by decide +kernel)) ggX3_passHour_X3_filled
set_option maxRecDepth 20000 in
theorem ggX3_passHour_X3_needed : GoodIn wsX3_passHour wsX3_needed := goodIn_r _ [80] rfl (by decide +kernel)
set_option maxRecDepth 20000 in
theorem gX3_passHour_X3_needed : GoodIn wsX3_passHour (va_wsS RX3 70 yX3_needed wsX3_needed) := goodIn_app (goodIn_of _ (by decide +kernel)) ggX3_passHour_X3_needed
set_option maxRecDepth 20000 in
theorem ggX3_passHour_X3_gainOf : GoodIn wsX3_passHour wsX3_gainOf := goodIn_r _ [84, 85, 90, 91, 92, 93, 94, 95, 96, 97, 98, 99, 100, 101, 102, 103] rfl (by decide +kernel)
set_option maxRecDepth 20000 in
theorem gX3_passHour_X3_gainOf : GoodIn wsX3_passHour (wsV RX3 74 RX3 yX3_gainOf wsX3_gainOf) := goodIn_app (goodIn_of _ (by decide +kernel)) ggX3_passHour_X3_gainOf
set_option maxRecDepth 20000 in
theorem ggX3_passHour_X1_growSoil : GoodIn wsX3_passHour wsX1_growSoil := goodIn_r _ [89, 31, 51, 47, 48, 49, 29, 50, 52, 53, 54, 39, 55, 115, 116, 117, 118, 119, 120, 121, 122, 123, 124, 125] rfl (by decide +kernel)
set_option maxRecDepth 20000 in
theorem gX3_passHour_X1_growSoil : GoodIn wsX3_passHour (wsV RX3 78 RX1 yX1_growSoil wsX1_growSoil) := goodIn_app (goodIn_of _ (by decide +kernel)) ggX3_passHour_X1_growSoil
theorem dX3_passHour_0 : decode cX3_passHour 0 = .ok (.aload_n 0, 1) := by decide +kernel
theorem dX3_passHour_1 : decode cX3_passHour 1 = .ok (.getfield 51, 3) := by decide +kernel
theorem dX3_passHour_4 : decode cX3_passHour 4 = .ok (.aload_n 0, 1) := by decide +kernel
theorem dX3_passHour_5 : decode cX3_passHour 5 = .ok (.getfield 15, 3) := by decide +kernel
theorem dX3_passHour_8 : decode cX3_passHour 8 = .ok (.aload_n 0, 1) := by decide +kernel
theorem dX3_passHour_9 : decode cX3_passHour 9 = .ok (.getfield 48, 3) := by decide +kernel
theorem dX3_passHour_12 : decode cX3_passHour 12 = .ok (.iconst 0, 1) := by decide +kernel
theorem dX3_passHour_13 : decode cX3_passHour 13 = .ok (.invokevirtual 61, 3) := by decide +kernel
theorem dX3_passHour_16 : decode cX3_passHour 16 = .ok (.bipush 100, 2) := by decide +kernel
theorem dX3_passHour_18 : decode cX3_passHour 18 = .ok (.idiv, 1) := by decide +kernel
theorem dX3_passHour_19 : decode cX3_passHour 19 = .ok (.invokestatic 67, 3) := by decide +kernel
theorem dX3_passHour_22 : decode cX3_passHour 22 = .ok (.istore_n 2, 1) := by decide +kernel
theorem dX3_passHour_23 : decode cX3_passHour 23 = .ok (.iload_n 1, 1) := by decide +kernel
theorem dX3_passHour_24 : decode cX3_passHour 24 = .ok (.ifCond .eq 13, 3) := by decide +kernel
theorem dX3_passHour_27 : decode cX3_passHour 27 = .ok (.aload_n 0, 1) := by decide +kernel
theorem dX3_passHour_28 : decode cX3_passHour 28 = .ok (.getfield 54, 3) := by decide +kernel
theorem dX3_passHour_31 : decode cX3_passHour 31 = .ok (.invokestatic 70, 3) := by decide +kernel
theorem dX3_passHour_34 : decode cX3_passHour 34 = .ok (.goto 4, 3) := by decide +kernel
theorem dX3_passHour_37 : decode cX3_passHour 37 = .ok (.iconst 0, 1) := by decide +kernel
theorem dX3_passHour_38 : decode cX3_passHour 38 = .ok (.istore_n 3, 1) := by decide +kernel
theorem dX3_passHour_39 : decode cX3_passHour 39 = .ok (.iload_n 2, 1) := by decide +kernel
theorem dX3_passHour_40 : decode cX3_passHour 40 = .ok (.iload_n 3, 1) := by decide +kernel
theorem dX3_passHour_41 : decode cX3_passHour 41 = .ok (.if_icmp .ge 5, 3) := by decide +kernel
theorem dX3_passHour_44 : decode cX3_passHour 44 = .ok (.iconst (-1), 1) := by decide +kernel
theorem dX3_passHour_45 : decode cX3_passHour 45 = .ok (.ireturn, 1) := by decide +kernel
theorem dX3_passHour_46 : decode cX3_passHour 46 = .ok (.iload_n 1, 1) := by decide +kernel
theorem dX3_passHour_47 : decode cX3_passHour 47 = .ok (.ifCond .eq 14, 3) := by decide +kernel
theorem dX3_passHour_50 : decode cX3_passHour 50 = .ok (.aload_n 0, 1) := by decide +kernel
theorem dX3_passHour_51 : decode cX3_passHour 51 = .ok (.aload_n 0, 1) := by decide +kernel
theorem dX3_passHour_52 : decode cX3_passHour 52 = .ok (.getfield 48, 3) := by decide +kernel
theorem dX3_passHour_55 : decode cX3_passHour 55 = .ok (.invokevirtual 74, 3) := by decide +kernel
theorem dX3_passHour_58 : decode cX3_passHour 58 = .ok (.goto 4, 3) := by decide +kernel
theorem dX3_passHour_61 : decode cX3_passHour 61 = .ok (.iconst 0, 1) := by decide +kernel
theorem dX3_passHour_62 : decode cX3_passHour 62 = .ok (.istore 4, 2) := by decide +kernel
theorem dX3_passHour_64 : decode cX3_passHour 64 = .ok (.aload_n 0, 1) := by decide +kernel
theorem dX3_passHour_65 : decode cX3_passHour 65 = .ok (.iload_n 2, 1) := by decide +kernel
theorem dX3_passHour_66 : decode cX3_passHour 66 = .ok (.iload_n 3, 1) := by decide +kernel
theorem dX3_passHour_67 : decode cX3_passHour 67 = .ok (.isub, 1) := by decide +kernel
theorem dX3_passHour_68 : decode cX3_passHour 68 = .ok (.putfield 51, 3) := by decide +kernel
theorem dX3_passHour_71 : decode cX3_passHour 71 = .ok (.aload_n 0, 1) := by decide +kernel
theorem dX3_passHour_72 : decode cX3_passHour 72 = .ok (.iload_n 1, 1) := by decide +kernel
theorem dX3_passHour_73 : decode cX3_passHour 73 = .ok (.putfield 54, 3) := by decide +kernel
theorem dX3_passHour_76 : decode cX3_passHour 76 = .ok (.aload_n 0, 1) := by decide +kernel
theorem dX3_passHour_77 : decode cX3_passHour 77 = .ok (.dup, 1) := by decide +kernel
theorem dX3_passHour_78 : decode cX3_passHour 78 = .ok (.getfield 58, 3) := by decide +kernel
theorem dX3_passHour_81 : decode cX3_passHour 81 = .ok (.iload 4, 2) := by decide +kernel
theorem dX3_passHour_83 : decode cX3_passHour 83 = .ok (.iadd, 1) := by decide +kernel
theorem dX3_passHour_84 : decode cX3_passHour 84 = .ok (.putfield 58, 3) := by decide +kernel
theorem dX3_passHour_87 : decode cX3_passHour 87 = .ok (.aload_n 0, 1) := by decide +kernel
theorem dX3_passHour_88 : decode cX3_passHour 88 = .ok (.getfield 9, 3) := by decide +kernel
theorem dX3_passHour_91 : decode cX3_passHour 91 = .ok (.invokevirtual 78, 3) := by decide +kernel
theorem dX3_passHour_94 : decode cX3_passHour 94 = .ok (.aload_n 0, 1) := by decide +kernel
theorem dX3_passHour_95 : decode cX3_passHour 95 = .ok (.aload_n 0, 1) := by decide +kernel
theorem dX3_passHour_96 : decode cX3_passHour 96 = .ok (.getfield 48, 3) := by decide +kernel
theorem dX3_passHour_99 : decode cX3_passHour 99 = .ok (.iconst 1, 1) := by decide +kernel
theorem dX3_passHour_100 : decode cX3_passHour 100 = .ok (.iadd, 1) := by decide +kernel
theorem dX3_passHour_101 : decode cX3_passHour 101 = .ok (.bipush 24, 2) := by decide +kernel
theorem dX3_passHour_103 : decode cX3_passHour 103 = .ok (.irem, 1) := by decide +kernel
theorem dX3_passHour_104 : decode cX3_passHour 104 = .ok (.putfield 48, 3) := by decide +kernel
theorem dX3_passHour_107 : decode cX3_passHour 107 = .ok (.iload 4, 2) := by decide +kernel
theorem dX3_passHour_109 : decode cX3_passHour 109 = .ok (.ireturn, 1) := by decide +kernel
theorem dX3_filled_0 : decode cX3_filled 0 = .ok (.sipush 200, 3) := by decide +kernel
theorem dX3_filled_3 : decode cX3_filled 3 = .ok (.iload_n 0, 1) := by decide +kernel
theorem dX3_filled_4 : decode cX3_filled 4 = .ok (.iload_n 1, 1) := by decide +kernel
theorem dX3_filled_5 : decode cX3_filled 5 = .ok (.iadd, 1) := by decide +kernel
theorem dX3_filled_6 : decode cX3_filled 6 = .ok (.invokestatic 83, 3) := by decide +kernel
theorem dX3_filled_9 : decode cX3_filled 9 = .ok (.ireturn, 1) := by decide +kernel
theorem dX3_needed_0 : decode cX3_needed 0 = .ok (.iload_n 0, 1) := by decide +kernel
theorem dX3_needed_1 : decode cX3_needed 1 = .ok (.ifCond .eq 7, 3) := by decide +kernel
theorem dX3_needed_4 : decode cX3_needed 4 = .ok (.iconst 5, 1) := by decide +kernel
theorem dX3_needed_5 : decode cX3_needed 5 = .ok (.goto 5, 3) := by decide +kernel
theorem dX3_needed_8 : decode cX3_needed 8 = .ok (.bipush 7, 2) := by decide +kernel
theorem dX3_needed_10 : decode cX3_needed 10 = .ok (.ireturn, 1) := by decide +kernel
theorem dX3_gainOf_0 : decode cX3_gainOf 0 = .ok (.iconst 5, 1) := by decide +kernel
theorem dX3_gainOf_1 : decode cX3_gainOf 1 = .ok (.aload_n 0, 1) := by decide +kernel
theorem dX3_gainOf_2 : decode cX3_gainOf 2 = .ok (.getfield 19, 3) := by decide +kernel
theorem dX3_gainOf_5 : decode cX3_gainOf 5 = .ok (.iload_n 1, 1) := by decide +kernel
theorem dX3_gainOf_6 : decode cX3_gainOf 6 = .ok (.iaload, 1) := by decide +kernel
theorem dX3_gainOf_7 : decode cX3_gainOf 7 = .ok (.imul, 1) := by decide +kernel
theorem dX3_gainOf_8 : decode cX3_gainOf 8 = .ok (.ireturn, 1) := by decide +kernel
theorem dX3_plannedRun_0 : decode cX3_plannedRun 0 = .ok (.iload_n 1, 1) := by decide +kernel
theorem dX3_plannedRun_1 : decode cX3_plannedRun 1 = .ok (.aload_n 0, 1) := by decide +kernel
theorem dX3_plannedRun_2 : decode cX3_plannedRun 2 = .ok (.getfield 44, 3) := by decide +kernel
theorem dX3_plannedRun_5 : decode cX3_plannedRun 5 = .ok (.if_icmp .ge 7, 3) := by decide +kernel
theorem dX3_plannedRun_8 : decode cX3_plannedRun 8 = .ok (.iconst (-1), 1) := by decide +kernel
theorem dX3_plannedRun_9 : decode cX3_plannedRun 9 = .ok (.goto 11, 3) := by decide +kernel
theorem dX3_plannedRun_12 : decode cX3_plannedRun 12 = .ok (.aload_n 0, 1) := by decide +kernel
theorem dX3_plannedRun_13 : decode cX3_plannedRun 13 = .ok (.getfield 88, 3) := by decide +kernel
theorem dX3_plannedRun_16 : decode cX3_plannedRun 16 = .ok (.iload_n 1, 1) := by decide +kernel
theorem dX3_plannedRun_17 : decode cX3_plannedRun 17 = .ok (.ishr, 1) := by decide +kernel
theorem dX3_plannedRun_18 : decode cX3_plannedRun 18 = .ok (.iconst 1, 1) := by decide +kernel
theorem dX3_plannedRun_19 : decode cX3_plannedRun 19 = .ok (.iand, 1) := by decide +kernel
theorem dX3_plannedRun_20 : decode cX3_plannedRun 20 = .ok (.ireturn, 1) := by decide +kernel
set_option maxRecDepth 20000 in
theorem ggX3_layPlan_X3_lookAhead : GoodIn wsX3_layPlan wsX3_lookAhead := goodIn_r _ [11, 5, 3, 12, 13, 14, 15, 16, 17, 18, 19, 20, 21, 22, 23, 24, 25, 26, 27, 28, 29, 30, 31, 32, 33, 34, 35, 36, 37, 38, 39, 40, 41, 42, 43, 44, 45, 46, 47, 48, 49, 50, 51, 52, 53, 54, 55, 56, 57, 58, 59, 60, 61, 62, 63, 64, 65, 66, 67, 68, 69, 70, 71, 72, 73, 74, 75, 76, 77, 78, 79, 80, 81, 82, 10, 83, 84, 114, 115, 116, 117, 118, 119, 120, 121, 122, 123, 124, 125, 126, 127, 128, 129, 130, 131, 132, 133, 134, 135, 136, 137, 138, 139, 140, 141, 142, 143, 144, 145, 146, 147, 148, 149] rfl (by decide +kernel)
set_option maxRecDepth 20000 in
theorem gX3_layPlan_X3_lookAhead : GoodIn wsX3_layPlan (wsV RX3 91 RX3 yX3_lookAhead wsX3_lookAhead) := goodIn_app (goodIn_of _ (by decide +kernel)) ggX3_layPlan_X3_lookAhead
set_option maxRecDepth 20000 in
theorem ggX3_layPlan_J7_fill_53178 : GoodIn wsX3_layPlan wsJ7_fill_53178 := goodIn_r _ [88] rfl (by decide +kernel)
set_option maxRecDepth 20000 in
theorem gX3_layPlan_J7_fill_53178 : GoodIn wsX3_layPlan (va_wsS RX3 23 yJ7_fill_53178 wsJ7_fill_53178) := goodIn_app (goodIn_of _ (by decide +kernel)) ggX3_layPlan_J7_fill_53178
set_option maxRecDepth 20000 in
theorem ggX3_layPlan_X3_weighHour : GoodIn wsX3_layPlan wsX3_weighHour := goodIn_r _ [92, 12, 93, 94, 95, 10, 96, 13, 1, 4, 2, 97, 98, 99, 81, 82, 83, 84, 62, 47, 63, 100, 101, 102, 103, 104, 105, 106, 107, 114, 115, 116, 117, 118, 119, 120, 121, 122, 123, 124, 125, 126, 127] rfl (by decide +kernel)
set_option maxRecDepth 20000 in
theorem gX3_layPlan_X3_weighHour : GoodIn wsX3_layPlan (wsV RX3 94 RX3 yX3_weighHour wsX3_weighHour) := goodIn_app (goodIn_of _ (by decide +kernel)) ggX3_layPlan_X3_weighHour
set_option maxRecDepth 20000 in
theorem ggX3_layPlan_X3_followChoices : GoodIn wsX3_layPlan wsX3_followChoices := goodIn_r _ [111, 112, 3, 113, 5, 6, 2, 13, 97, 98, 10, 99, 81, 82, 83, 84, 62, 47, 63, 100, 101, 102, 114, 115, 116, 117, 118, 119, 120, 121, 122, 123, 124, 125, 126, 127] rfl (by decide +kernel)
set_option maxRecDepth 20000 in
theorem gX3_layPlan_X3_followChoices : GoodIn wsX3_layPlan (wsV RX3 98 RX3 yX3_followChoices wsX3_followChoices) := goodIn_app (goodIn_of _ (by decide +kernel)) ggX3_layPlan_X3_followChoices
set_option maxRecDepth 20000 in
theorem ggX3_layPlan_X3_stateOf : GoodIn wsX3_layPlan wsX3_stateOf := goodIn_r _ [99] rfl (by decide +kernel)
set_option maxRecDepth 20000 in
theorem gX3_layPlan_X3_stateOf : GoodIn wsX3_layPlan (va_wsS RX3 101 yX3_stateOf wsX3_stateOf) := goodIn_app (goodIn_of _ (by decide +kernel)) ggX3_layPlan_X3_stateOf
theorem dX3_layPlan_0 : decode cX3_layPlan 0 = .ok (.aload_n 0, 1) := by decide +kernel
theorem dX3_layPlan_1 : decode cX3_layPlan 1 = .ok (.invokevirtual 91, 3) := by decide +kernel
theorem dX3_layPlan_4 : decode cX3_layPlan 4 = .ok (.aload_n 0, 1) := by decide +kernel
theorem dX3_layPlan_5 : decode cX3_layPlan 5 = .ok (.getfield 29, 3) := by decide +kernel
theorem dX3_layPlan_8 : decode cX3_layPlan 8 = .ok (.iconst 0, 1) := by decide +kernel
theorem dX3_layPlan_9 : decode cX3_layPlan 9 = .ok (.invokestatic 23, 3) := by decide +kernel
theorem dX3_layPlan_12 : decode cX3_layPlan 12 = .ok (.aload_n 0, 1) := by decide +kernel
theorem dX3_layPlan_13 : decode cX3_layPlan 13 = .ok (.getfield 35, 3) := by decide +kernel
theorem dX3_layPlan_16 : decode cX3_layPlan 16 = .ok (.iconst 0, 1) := by decide +kernel
theorem dX3_layPlan_17 : decode cX3_layPlan 17 = .ok (.invokestatic 23, 3) := by decide +kernel
theorem dX3_layPlan_20 : decode cX3_layPlan 20 = .ok (.bipush 23, 2) := by decide +kernel
theorem dX3_layPlan_22 : decode cX3_layPlan 22 = .ok (.istore_n 1, 1) := by decide +kernel
theorem dX3_layPlan_23 : decode cX3_layPlan 23 = .ok (.iload_n 1, 1) := by decide +kernel
theorem dX3_layPlan_24 : decode cX3_layPlan 24 = .ok (.aload_n 0, 1) := by decide +kernel
theorem dX3_layPlan_25 : decode cX3_layPlan 25 = .ok (.getfield 48, 3) := by decide +kernel
theorem dX3_layPlan_28 : decode cX3_layPlan 28 = .ok (.if_icmp .lt 32, 3) := by decide +kernel
theorem dX3_layPlan_31 : decode cX3_layPlan 31 = .ok (.aload_n 0, 1) := by decide +kernel
theorem dX3_layPlan_32 : decode cX3_layPlan 32 = .ok (.getfield 29, 3) := by decide +kernel
theorem dX3_layPlan_35 : decode cX3_layPlan 35 = .ok (.astore_n 2, 1) := by decide +kernel
theorem dX3_layPlan_36 : decode cX3_layPlan 36 = .ok (.aload_n 0, 1) := by decide +kernel
theorem dX3_layPlan_37 : decode cX3_layPlan 37 = .ok (.aload_n 0, 1) := by decide +kernel
theorem dX3_layPlan_38 : decode cX3_layPlan 38 = .ok (.getfield 32, 3) := by decide +kernel
theorem dX3_layPlan_41 : decode cX3_layPlan 41 = .ok (.putfield 29, 3) := by decide +kernel
theorem dX3_layPlan_44 : decode cX3_layPlan 44 = .ok (.aload_n 0, 1) := by decide +kernel
theorem dX3_layPlan_45 : decode cX3_layPlan 45 = .ok (.aload_n 2, 1) := by decide +kernel
theorem dX3_layPlan_46 : decode cX3_layPlan 46 = .ok (.putfield 32, 3) := by decide +kernel
theorem dX3_layPlan_49 : decode cX3_layPlan 49 = .ok (.aload_n 0, 1) := by decide +kernel
theorem dX3_layPlan_50 : decode cX3_layPlan 50 = .ok (.iload_n 1, 1) := by decide +kernel
theorem dX3_layPlan_51 : decode cX3_layPlan 51 = .ok (.invokevirtual 94, 3) := by decide +kernel
theorem dX3_layPlan_54 : decode cX3_layPlan 54 = .ok (.iinc 1 (-1), 3) := by decide +kernel
theorem dX3_layPlan_57 : decode cX3_layPlan 57 = .ok (.goto (-34), 3) := by decide +kernel
theorem dX3_layPlan_60 : decode cX3_layPlan 60 = .ok (.aload_n 0, 1) := by decide +kernel
theorem dX3_layPlan_61 : decode cX3_layPlan 61 = .ok (.invokevirtual 98, 3) := by decide +kernel
theorem dX3_layPlan_64 : decode cX3_layPlan 64 = .ok (.aload_n 0, 1) := by decide +kernel
theorem dX3_layPlan_65 : decode cX3_layPlan 65 = .ok (.getfield 29, 3) := by decide +kernel
theorem dX3_layPlan_68 : decode cX3_layPlan 68 = .ok (.aload_n 0, 1) := by decide +kernel
theorem dX3_layPlan_69 : decode cX3_layPlan 69 = .ok (.getfield 51, 3) := by decide +kernel
theorem dX3_layPlan_72 : decode cX3_layPlan 72 = .ok (.aload_n 0, 1) := by decide +kernel
theorem dX3_layPlan_73 : decode cX3_layPlan 73 = .ok (.getfield 54, 3) := by decide +kernel
theorem dX3_layPlan_76 : decode cX3_layPlan 76 = .ok (.invokestatic 101, 3) := by decide +kernel
theorem dX3_layPlan_79 : decode cX3_layPlan 79 = .ok (.iaload, 1) := by decide +kernel
theorem dX3_layPlan_80 : decode cX3_layPlan 80 = .ok (.ireturn, 1) := by decide +kernel
set_option maxRecDepth 20000 in
theorem ggX3_lookAhead_X0_aimAll : GoodIn wsX3_lookAhead wsX0_aimAll := goodIn_r _ [10, 11, 12, 13, 14, 15, 16, 17, 18, 19, 20, 21, 22, 23, 9, 24, 25, 26, 27, 28, 29, 30, 31, 32, 33, 34, 35, 36, 37, 38, 39, 40, 41, 42, 43, 44, 45, 46, 47, 48, 49, 50, 51, 52, 53, 54, 55, 56, 57, 58, 59, 60, 61, 62, 63, 64, 65, 66, 67, 68, 69, 70, 71, 91, 92, 93, 94, 95, 96, 97, 98, 99, 100, 101, 102, 103, 104, 105, 106, 107, 108, 109, 110, 111, 112] rfl (by decide +kernel)
set_option maxRecDepth 20000 in
theorem gX3_lookAhead_X0_aimAll : GoodIn wsX3_lookAhead (wsV RX3 61 RX0 yX0_aimAll wsX0_aimAll) := goodIn_app (goodIn_of _ (by decide +kernel)) ggX3_lookAhead_X0_aimAll
set_option maxRecDepth 20000 in
theorem ggX3_lookAhead_X3_filled : GoodIn wsX3_lookAhead wsX3_filled := goodIn_r _ [75, 76, 53, 38, 54] rfl (by decide +kernel)
set_option maxRecDepth 20000 in
theorem gX3_lookAhead_X3_filled : GoodIn wsX3_lookAhead (va_wsS RX3 67 yX3_filled wsX3_filled) := goodIn_app (goodIn_of _ (by decide +kernel)) ggX3_lookAhead_X3_filled
theorem dX3_lookAhead_0 : decode cX3_lookAhead 0 = .ok (.aload_n 0, 1) := by decide +kernel
theorem dX3_lookAhead_1 : decode cX3_lookAhead 1 = .ok (.getfield 51, 3) := by decide +kernel
theorem dX3_lookAhead_4 : decode cX3_lookAhead 4 = .ok (.istore_n 1, 1) := by decide +kernel
theorem dX3_lookAhead_5 : decode cX3_lookAhead 5 = .ok (.aload_n 0, 1) := by decide +kernel
theorem dX3_lookAhead_6 : decode cX3_lookAhead 6 = .ok (.getfield 48, 3) := by decide +kernel
theorem dX3_lookAhead_9 : decode cX3_lookAhead 9 = .ok (.istore_n 2, 1) := by decide +kernel
theorem dX3_lookAhead_10 : decode cX3_lookAhead 10 = .ok (.iload_n 2, 1) := by decide +kernel
theorem dX3_lookAhead_11 : decode cX3_lookAhead 11 = .ok (.bipush 24, 2) := by decide +kernel
theorem dX3_lookAhead_13 : decode cX3_lookAhead 13 = .ok (.if_icmp .ge 50, 3) := by decide +kernel
theorem dX3_lookAhead_16 : decode cX3_lookAhead 16 = .ok (.aload_n 0, 1) := by decide +kernel
theorem dX3_lookAhead_17 : decode cX3_lookAhead 17 = .ok (.getfield 41, 3) := by decide +kernel
theorem dX3_lookAhead_20 : decode cX3_lookAhead 20 = .ok (.iload_n 2, 1) := by decide +kernel
theorem dX3_lookAhead_21 : decode cX3_lookAhead 21 = .ok (.iload_n 1, 1) := by decide +kernel
theorem dX3_lookAhead_22 : decode cX3_lookAhead 22 = .ok (.iastore, 1) := by decide +kernel
theorem dX3_lookAhead_23 : decode cX3_lookAhead 23 = .ok (.aload_n 0, 1) := by decide +kernel
theorem dX3_lookAhead_24 : decode cX3_lookAhead 24 = .ok (.getfield 38, 3) := by decide +kernel
theorem dX3_lookAhead_27 : decode cX3_lookAhead 27 = .ok (.iload_n 2, 1) := by decide +kernel
theorem dX3_lookAhead_28 : decode cX3_lookAhead 28 = .ok (.aload_n 0, 1) := by decide +kernel
theorem dX3_lookAhead_29 : decode cX3_lookAhead 29 = .ok (.getfield 15, 3) := by decide +kernel
theorem dX3_lookAhead_32 : decode cX3_lookAhead 32 = .ok (.iload_n 2, 1) := by decide +kernel
theorem dX3_lookAhead_33 : decode cX3_lookAhead 33 = .ok (.iload_n 2, 1) := by decide +kernel
theorem dX3_lookAhead_34 : decode cX3_lookAhead 34 = .ok (.aload_n 0, 1) := by decide +kernel
theorem dX3_lookAhead_35 : decode cX3_lookAhead 35 = .ok (.getfield 48, 3) := by decide +kernel
theorem dX3_lookAhead_38 : decode cX3_lookAhead 38 = .ok (.isub, 1) := by decide +kernel
theorem dX3_lookAhead_39 : decode cX3_lookAhead 39 = .ok (.invokevirtual 61, 3) := by decide +kernel
theorem dX3_lookAhead_42 : decode cX3_lookAhead 42 = .ok (.bipush 100, 2) := by decide +kernel
theorem dX3_lookAhead_44 : decode cX3_lookAhead 44 = .ok (.idiv, 1) := by decide +kernel
theorem dX3_lookAhead_45 : decode cX3_lookAhead 45 = .ok (.iastore, 1) := by decide +kernel
theorem dX3_lookAhead_46 : decode cX3_lookAhead 46 = .ok (.iload_n 1, 1) := by decide +kernel
theorem dX3_lookAhead_47 : decode cX3_lookAhead 47 = .ok (.aload_n 0, 1) := by decide +kernel
theorem dX3_lookAhead_48 : decode cX3_lookAhead 48 = .ok (.getfield 38, 3) := by decide +kernel
theorem dX3_lookAhead_51 : decode cX3_lookAhead 51 = .ok (.iload_n 2, 1) := by decide +kernel
theorem dX3_lookAhead_52 : decode cX3_lookAhead 52 = .ok (.iaload, 1) := by decide +kernel
theorem dX3_lookAhead_53 : decode cX3_lookAhead 53 = .ok (.invokestatic 67, 3) := by decide +kernel
theorem dX3_lookAhead_56 : decode cX3_lookAhead 56 = .ok (.istore_n 1, 1) := by decide +kernel
theorem dX3_lookAhead_57 : decode cX3_lookAhead 57 = .ok (.iinc 2 1, 3) := by decide +kernel
theorem dX3_lookAhead_60 : decode cX3_lookAhead 60 = .ok (.goto (-50), 3) := by decide +kernel
theorem dX3_lookAhead_63 : decode cX3_lookAhead 63 = .ok (.return_, 1) := by decide +kernel
set_option maxRecDepth 20000 in
theorem ggX3_weighHour_X3_weigh : GoodIn wsX3_weighHour wsX3_weigh := goodIn_r _ [6, 7, 8, 9, 10, 11, 12, 5, 13, 14, 15, 16, 17, 18, 19, 20, 21, 22, 23, 24, 25, 26, 27, 28, 29, 30, 31, 32, 33, 34, 35, 36, 37, 38, 39, 40, 41, 42] rfl (by decide +kernel)
set_option maxRecDepth 20000 in
theorem gX3_weighHour_X3_weigh : GoodIn wsX3_weighHour (wsV RX3 105 RX3 yX3_weigh wsX3_weigh) := goodIn_app (goodIn_of _ (by decide +kernel)) ggX3_weighHour_X3_weigh
theorem dX3_weighHour_0 : decode cX3_weighHour 0 = .ok (.iconst 0, 1) := by decide +kernel
theorem dX3_weighHour_1 : decode cX3_weighHour 1 = .ok (.istore_n 2, 1) := by decide +kernel
theorem dX3_weighHour_2 : decode cX3_weighHour 2 = .ok (.iload_n 2, 1) := by decide +kernel
theorem dX3_weighHour_3 : decode cX3_weighHour 3 = .ok (.aload_n 0, 1) := by decide +kernel
theorem dX3_weighHour_4 : decode cX3_weighHour 4 = .ok (.getfield 41, 3) := by decide +kernel
theorem dX3_weighHour_7 : decode cX3_weighHour 7 = .ok (.iload_n 1, 1) := by decide +kernel
theorem dX3_weighHour_8 : decode cX3_weighHour 8 = .ok (.iaload, 1) := by decide +kernel
theorem dX3_weighHour_9 : decode cX3_weighHour 9 = .ok (.if_icmp .gt 23, 3) := by decide +kernel
theorem dX3_weighHour_12 : decode cX3_weighHour 12 = .ok (.aload_n 0, 1) := by decide +kernel
theorem dX3_weighHour_13 : decode cX3_weighHour 13 = .ok (.iload_n 1, 1) := by decide +kernel
theorem dX3_weighHour_14 : decode cX3_weighHour 14 = .ok (.iload_n 2, 1) := by decide +kernel
theorem dX3_weighHour_15 : decode cX3_weighHour 15 = .ok (.iconst 0, 1) := by decide +kernel
theorem dX3_weighHour_16 : decode cX3_weighHour 16 = .ok (.invokevirtual 105, 3) := by decide +kernel
theorem dX3_weighHour_19 : decode cX3_weighHour 19 = .ok (.aload_n 0, 1) := by decide +kernel
theorem dX3_weighHour_20 : decode cX3_weighHour 20 = .ok (.iload_n 1, 1) := by decide +kernel
theorem dX3_weighHour_21 : decode cX3_weighHour 21 = .ok (.iload_n 2, 1) := by decide +kernel
theorem dX3_weighHour_22 : decode cX3_weighHour 22 = .ok (.iconst 1, 1) := by decide +kernel
theorem dX3_weighHour_23 : decode cX3_weighHour 23 = .ok (.invokevirtual 105, 3) := by decide +kernel
theorem dX3_weighHour_26 : decode cX3_weighHour 26 = .ok (.iinc 2 1, 3) := by decide +kernel
theorem dX3_weighHour_29 : decode cX3_weighHour 29 = .ok (.goto (-27), 3) := by decide +kernel
theorem dX3_weighHour_32 : decode cX3_weighHour 32 = .ok (.return_, 1) := by decide +kernel
set_option maxRecDepth 20000 in
theorem ggX3_weigh_X3_stateOf : GoodIn wsX3_weigh wsX3_stateOf := goodIn_r _ [8] rfl (by decide +kernel)
set_option maxRecDepth 20000 in
theorem gX3_weigh_X3_stateOf : GoodIn wsX3_weigh (va_wsS RX3 101 yX3_stateOf wsX3_stateOf) := goodIn_app (goodIn_of _ (by decide +kernel)) ggX3_weigh_X3_stateOf
set_option maxRecDepth 20000 in
theorem ggX3_weigh_X3_filled : GoodIn wsX3_weigh wsX3_filled := goodIn_r _ [11, 12, 13, 14, 15] rfl (by decide +kernel)
set_option maxRecDepth 20000 in
theorem gX3_weigh_X3_filled : GoodIn wsX3_weigh (va_wsS RX3 67 yX3_filled wsX3_filled) := goodIn_app (goodIn_of _ (by decide +kernel)) ggX3_weigh_X3_filled
set_option maxRecDepth 20000 in
theorem ggX3_weigh_X3_needed : GoodIn wsX3_weigh wsX3_needed := goodIn_r _ [18] rfl (by decide +kernel)
set_option maxRecDepth 20000 in
theorem gX3_weigh_X3_needed : GoodIn wsX3_weigh (va_wsS RX3 70 yX3_needed wsX3_needed) := goodIn_app (goodIn_of _ (by decide +kernel)) ggX3_weigh_X3_needed
set_option maxRecDepth 20000 in
theorem ggX3_weigh_X3_gainOf : GoodIn wsX3_weigh wsX3_gainOf := goodIn_r _ [22, 23, 24, 25, 26, 27, 28, 29, 30, 31, 32, 33, 34, 35, 36, 37] rfl (by decide +kernel)
set_option maxRecDepth 20000 in
theorem gX3_weigh_X3_gainOf : GoodIn wsX3_weigh (wsV RX3 74 RX3 yX3_gainOf wsX3_gainOf) := goodIn_app (goodIn_of _ (by decide +kernel)) ggX3_weigh_X3_gainOf
theorem dX3_weigh_0 : decode cX3_weigh 0 = .ok (.iload_n 2, 1) := by decide +kernel
theorem dX3_weigh_1 : decode cX3_weigh 1 = .ok (.iload_n 3, 1) := by decide +kernel
theorem dX3_weigh_2 : decode cX3_weigh 2 = .ok (.invokestatic 101, 3) := by decide +kernel
theorem dX3_weigh_5 : decode cX3_weigh 5 = .ok (.istore 4, 2) := by decide +kernel
theorem dX3_weigh_7 : decode cX3_weigh 7 = .ok (.iload_n 2, 1) := by decide +kernel
theorem dX3_weigh_8 : decode cX3_weigh 8 = .ok (.aload_n 0, 1) := by decide +kernel
theorem dX3_weigh_9 : decode cX3_weigh 9 = .ok (.getfield 38, 3) := by decide +kernel
theorem dX3_weigh_12 : decode cX3_weigh 12 = .ok (.iload_n 1, 1) := by decide +kernel
theorem dX3_weigh_13 : decode cX3_weigh 13 = .ok (.iaload, 1) := by decide +kernel
theorem dX3_weigh_14 : decode cX3_weigh 14 = .ok (.invokestatic 67, 3) := by decide +kernel
theorem dX3_weigh_17 : decode cX3_weigh 17 = .ok (.istore 5, 2) := by decide +kernel
theorem dX3_weigh_19 : decode cX3_weigh 19 = .ok (.iload_n 3, 1) := by decide +kernel
theorem dX3_weigh_20 : decode cX3_weigh 20 = .ok (.invokestatic 70, 3) := by decide +kernel
theorem dX3_weigh_23 : decode cX3_weigh 23 = .ok (.istore 6, 2) := by decide +kernel
theorem dX3_weigh_25 : decode cX3_weigh 25 = .ok (.aload_n 0, 1) := by decide +kernel
theorem dX3_weigh_26 : decode cX3_weigh 26 = .ok (.getfield 29, 3) := by decide +kernel
theorem dX3_weigh_29 : decode cX3_weigh 29 = .ok (.iload 4, 2) := by decide +kernel
theorem dX3_weigh_31 : decode cX3_weigh 31 = .ok (.aload_n 0, 1) := by decide +kernel
theorem dX3_weigh_32 : decode cX3_weigh 32 = .ok (.getfield 32, 3) := by decide +kernel
theorem dX3_weigh_35 : decode cX3_weigh 35 = .ok (.iload 5, 2) := by decide +kernel
theorem dX3_weigh_37 : decode cX3_weigh 37 = .ok (.iconst 0, 1) := by decide +kernel
theorem dX3_weigh_38 : decode cX3_weigh 38 = .ok (.invokestatic 101, 3) := by decide +kernel
theorem dX3_weigh_41 : decode cX3_weigh 41 = .ok (.iaload, 1) := by decide +kernel
theorem dX3_weigh_42 : decode cX3_weigh 42 = .ok (.iastore, 1) := by decide +kernel
theorem dX3_weigh_43 : decode cX3_weigh 43 = .ok (.iload 5, 2) := by decide +kernel
theorem dX3_weigh_45 : decode cX3_weigh 45 = .ok (.iload 6, 2) := by decide +kernel
theorem dX3_weigh_47 : decode cX3_weigh 47 = .ok (.if_icmp .lt 59, 3) := by decide +kernel
theorem dX3_weigh_50 : decode cX3_weigh 50 = .ok (.aload_n 0, 1) := by decide +kernel
theorem dX3_weigh_51 : decode cX3_weigh 51 = .ok (.iload_n 1, 1) := by decide +kernel
theorem dX3_weigh_52 : decode cX3_weigh 52 = .ok (.invokevirtual 74, 3) := by decide +kernel
theorem dX3_weigh_55 : decode cX3_weigh 55 = .ok (.aload_n 0, 1) := by decide +kernel
theorem dX3_weigh_56 : decode cX3_weigh 56 = .ok (.getfield 32, 3) := by decide +kernel
theorem dX3_weigh_59 : decode cX3_weigh 59 = .ok (.iload 5, 2) := by decide +kernel
theorem dX3_weigh_61 : decode cX3_weigh 61 = .ok (.iload 6, 2) := by decide +kernel
theorem dX3_weigh_63 : decode cX3_weigh 63 = .ok (.isub, 1) := by decide +kernel
theorem dX3_weigh_64 : decode cX3_weigh 64 = .ok (.iconst 1, 1) := by decide +kernel
theorem dX3_weigh_65 : decode cX3_weigh 65 = .ok (.invokestatic 101, 3) := by decide +kernel
theorem dX3_weigh_68 : decode cX3_weigh 68 = .ok (.iaload, 1) := by decide +kernel
theorem dX3_weigh_69 : decode cX3_weigh 69 = .ok (.iadd, 1) := by decide +kernel
theorem dX3_weigh_70 : decode cX3_weigh 70 = .ok (.istore 7, 2) := by decide +kernel
theorem dX3_weigh_72 : decode cX3_weigh 72 = .ok (.iload 7, 2) := by decide +kernel
theorem dX3_weigh_74 : decode cX3_weigh 74 = .ok (.aload_n 0, 1) := by decide +kernel
theorem dX3_weigh_75 : decode cX3_weigh 75 = .ok (.getfield 29, 3) := by decide +kernel
theorem dX3_weigh_78 : decode cX3_weigh 78 = .ok (.iload 4, 2) := by decide +kernel
theorem dX3_weigh_80 : decode cX3_weigh 80 = .ok (.iaload, 1) := by decide +kernel
theorem dX3_weigh_81 : decode cX3_weigh 81 = .ok (.if_icmp .le 25, 3) := by decide +kernel
theorem dX3_weigh_84 : decode cX3_weigh 84 = .ok (.aload_n 0, 1) := by decide +kernel
theorem dX3_weigh_85 : decode cX3_weigh 85 = .ok (.getfield 29, 3) := by decide +kernel
theorem dX3_weigh_88 : decode cX3_weigh 88 = .ok (.iload 4, 2) := by decide +kernel
theorem dX3_weigh_90 : decode cX3_weigh 90 = .ok (.iload 7, 2) := by decide +kernel
theorem dX3_weigh_92 : decode cX3_weigh 92 = .ok (.iastore, 1) := by decide +kernel
theorem dX3_weigh_93 : decode cX3_weigh 93 = .ok (.aload_n 0, 1) := by decide +kernel
theorem dX3_weigh_94 : decode cX3_weigh 94 = .ok (.getfield 35, 3) := by decide +kernel
theorem dX3_weigh_97 : decode cX3_weigh 97 = .ok (.iload 4, 2) := by decide +kernel
theorem dX3_weigh_99 : decode cX3_weigh 99 = .ok (.dup2, 1) := by decide +kernel
theorem dX3_weigh_100 : decode cX3_weigh 100 = .ok (.iaload, 1) := by decide +kernel
theorem dX3_weigh_101 : decode cX3_weigh 101 = .ok (.iconst 1, 1) := by decide +kernel
theorem dX3_weigh_102 : decode cX3_weigh 102 = .ok (.iload_n 1, 1) := by decide +kernel
theorem dX3_weigh_103 : decode cX3_weigh 103 = .ok (.ishl, 1) := by decide +kernel
theorem dX3_weigh_104 : decode cX3_weigh 104 = .ok (.ior, 1) := by decide +kernel
theorem dX3_weigh_105 : decode cX3_weigh 105 = .ok (.iastore, 1) := by decide +kernel
theorem dX3_weigh_106 : decode cX3_weigh 106 = .ok (.return_, 1) := by decide +kernel
set_option maxRecDepth 20000 in
theorem ggX3_followChoices_X3_stateOf : GoodIn wsX3_followChoices wsX3_stateOf := goodIn_r _ [11] rfl (by decide +kernel)
set_option maxRecDepth 20000 in
theorem gX3_followChoices_X3_stateOf : GoodIn wsX3_followChoices (va_wsS RX3 101 yX3_stateOf wsX3_stateOf) := goodIn_app (goodIn_of _ (by decide +kernel)) ggX3_followChoices_X3_stateOf
set_option maxRecDepth 20000 in
theorem ggX3_followChoices_X3_filled : GoodIn wsX3_followChoices wsX3_filled := goodIn_r _ [14, 15, 16, 17, 18] rfl (by decide +kernel)
set_option maxRecDepth 20000 in
theorem gX3_followChoices_X3_filled : GoodIn wsX3_followChoices (va_wsS RX3 67 yX3_filled wsX3_filled) := goodIn_app (goodIn_of _ (by decide +kernel)) ggX3_followChoices_X3_filled
set_option maxRecDepth 20000 in
theorem ggX3_followChoices_X3_needed : GoodIn wsX3_followChoices wsX3_needed := goodIn_r _ [21] rfl (by decide +kernel)
set_option maxRecDepth 20000 in
theorem gX3_followChoices_X3_needed : GoodIn wsX3_followChoices (va_wsS RX3 70 yX3_needed wsX3_needed) := goodIn_app (goodIn_of _ (by decide +kernel)) ggX3_followChoices_X3_needed
theorem dX3_followChoices_0 : decode cX3_followChoices 0 = .ok (.aload_n 0, 1) := by decide +kernel
theorem dX3_followChoices_1 : decode cX3_followChoices 1 = .ok (.iconst 0, 1) := by decide +kernel
theorem dX3_followChoices_2 : decode cX3_followChoices 2 = .ok (.putfield 88, 3) := by decide +kernel
theorem dX3_followChoices_5 : decode cX3_followChoices 5 = .ok (.aload_n 0, 1) := by decide +kernel
theorem dX3_followChoices_6 : decode cX3_followChoices 6 = .ok (.aload_n 0, 1) := by decide +kernel
theorem dX3_followChoices_7 : decode cX3_followChoices 7 = .ok (.getfield 48, 3) := by decide +kernel
theorem dX3_followChoices_10 : decode cX3_followChoices 10 = .ok (.putfield 44, 3) := by decide +kernel
theorem dX3_followChoices_13 : decode cX3_followChoices 13 = .ok (.aload_n 0, 1) := by decide +kernel
theorem dX3_followChoices_14 : decode cX3_followChoices 14 = .ok (.getfield 51, 3) := by decide +kernel
theorem dX3_followChoices_17 : decode cX3_followChoices 17 = .ok (.istore_n 1, 1) := by decide +kernel
theorem dX3_followChoices_18 : decode cX3_followChoices 18 = .ok (.aload_n 0, 1) := by decide +kernel
theorem dX3_followChoices_19 : decode cX3_followChoices 19 = .ok (.getfield 54, 3) := by decide +kernel
theorem dX3_followChoices_22 : decode cX3_followChoices 22 = .ok (.istore_n 2, 1) := by decide +kernel
theorem dX3_followChoices_23 : decode cX3_followChoices 23 = .ok (.aload_n 0, 1) := by decide +kernel
theorem dX3_followChoices_24 : decode cX3_followChoices 24 = .ok (.getfield 48, 3) := by decide +kernel
theorem dX3_followChoices_27 : decode cX3_followChoices 27 = .ok (.istore_n 3, 1) := by decide +kernel
theorem dX3_followChoices_28 : decode cX3_followChoices 28 = .ok (.iload_n 3, 1) := by decide +kernel
theorem dX3_followChoices_29 : decode cX3_followChoices 29 = .ok (.bipush 24, 2) := by decide +kernel
theorem dX3_followChoices_31 : decode cX3_followChoices 31 = .ok (.if_icmp .ge 71, 3) := by decide +kernel
theorem dX3_followChoices_34 : decode cX3_followChoices 34 = .ok (.aload_n 0, 1) := by decide +kernel
theorem dX3_followChoices_35 : decode cX3_followChoices 35 = .ok (.getfield 35, 3) := by decide +kernel
theorem dX3_followChoices_38 : decode cX3_followChoices 38 = .ok (.iload_n 1, 1) := by decide +kernel
theorem dX3_followChoices_39 : decode cX3_followChoices 39 = .ok (.iload_n 2, 1) := by decide +kernel
theorem dX3_followChoices_40 : decode cX3_followChoices 40 = .ok (.invokestatic 101, 3) := by decide +kernel
theorem dX3_followChoices_43 : decode cX3_followChoices 43 = .ok (.iaload, 1) := by decide +kernel
theorem dX3_followChoices_44 : decode cX3_followChoices 44 = .ok (.iload_n 3, 1) := by decide +kernel
theorem dX3_followChoices_45 : decode cX3_followChoices 45 = .ok (.ishr, 1) := by decide +kernel
theorem dX3_followChoices_46 : decode cX3_followChoices 46 = .ok (.iconst 1, 1) := by decide +kernel
theorem dX3_followChoices_47 : decode cX3_followChoices 47 = .ok (.iand, 1) := by decide +kernel
theorem dX3_followChoices_48 : decode cX3_followChoices 48 = .ok (.ifCond .eq 7, 3) := by decide +kernel
theorem dX3_followChoices_51 : decode cX3_followChoices 51 = .ok (.iconst 1, 1) := by decide +kernel
theorem dX3_followChoices_52 : decode cX3_followChoices 52 = .ok (.goto 4, 3) := by decide +kernel
theorem dX3_followChoices_55 : decode cX3_followChoices 55 = .ok (.iconst 0, 1) := by decide +kernel
theorem dX3_followChoices_56 : decode cX3_followChoices 56 = .ok (.istore 4, 2) := by decide +kernel
theorem dX3_followChoices_58 : decode cX3_followChoices 58 = .ok (.iload_n 1, 1) := by decide +kernel
theorem dX3_followChoices_59 : decode cX3_followChoices 59 = .ok (.aload_n 0, 1) := by decide +kernel
theorem dX3_followChoices_60 : decode cX3_followChoices 60 = .ok (.getfield 38, 3) := by decide +kernel
theorem dX3_followChoices_63 : decode cX3_followChoices 63 = .ok (.iload_n 3, 1) := by decide +kernel
theorem dX3_followChoices_64 : decode cX3_followChoices 64 = .ok (.iaload, 1) := by decide +kernel
theorem dX3_followChoices_65 : decode cX3_followChoices 65 = .ok (.invokestatic 67, 3) := by decide +kernel
theorem dX3_followChoices_68 : decode cX3_followChoices 68 = .ok (.istore_n 1, 1) := by decide +kernel
theorem dX3_followChoices_69 : decode cX3_followChoices 69 = .ok (.iload 4, 2) := by decide +kernel
theorem dX3_followChoices_71 : decode cX3_followChoices 71 = .ok (.ifCond .eq 22, 3) := by decide +kernel
theorem dX3_followChoices_74 : decode cX3_followChoices 74 = .ok (.iload_n 1, 1) := by decide +kernel
theorem dX3_followChoices_75 : decode cX3_followChoices 75 = .ok (.iload_n 2, 1) := by decide +kernel
theorem dX3_followChoices_76 : decode cX3_followChoices 76 = .ok (.invokestatic 70, 3) := by decide +kernel
theorem dX3_followChoices_79 : decode cX3_followChoices 79 = .ok (.isub, 1) := by decide +kernel
theorem dX3_followChoices_80 : decode cX3_followChoices 80 = .ok (.istore_n 1, 1) := by decide +kernel
theorem dX3_followChoices_81 : decode cX3_followChoices 81 = .ok (.aload_n 0, 1) := by decide +kernel
theorem dX3_followChoices_82 : decode cX3_followChoices 82 = .ok (.dup, 1) := by decide +kernel
theorem dX3_followChoices_83 : decode cX3_followChoices 83 = .ok (.getfield 88, 3) := by decide +kernel
theorem dX3_followChoices_86 : decode cX3_followChoices 86 = .ok (.iconst 1, 1) := by decide +kernel
theorem dX3_followChoices_87 : decode cX3_followChoices 87 = .ok (.iload_n 3, 1) := by decide +kernel
theorem dX3_followChoices_88 : decode cX3_followChoices 88 = .ok (.ishl, 1) := by decide +kernel
theorem dX3_followChoices_89 : decode cX3_followChoices 89 = .ok (.ior, 1) := by decide +kernel
theorem dX3_followChoices_90 : decode cX3_followChoices 90 = .ok (.putfield 88, 3) := by decide +kernel
theorem dX3_followChoices_93 : decode cX3_followChoices 93 = .ok (.iload 4, 2) := by decide +kernel
theorem dX3_followChoices_95 : decode cX3_followChoices 95 = .ok (.istore_n 2, 1) := by decide +kernel
theorem dX3_followChoices_96 : decode cX3_followChoices 96 = .ok (.iinc 3 1, 3) := by decide +kernel
theorem dX3_followChoices_99 : decode cX3_followChoices 99 = .ok (.goto (-71), 3) := by decide +kernel
theorem dX3_followChoices_102 : decode cX3_followChoices 102 = .ok (.return_, 1) := by decide +kernel
theorem dX3_stateOf_0 : decode cX3_stateOf 0 = .ok (.iconst 2, 1) := by decide +kernel
theorem dX3_stateOf_1 : decode cX3_stateOf 1 = .ok (.iload_n 0, 1) := by decide +kernel
theorem dX3_stateOf_2 : decode cX3_stateOf 2 = .ok (.imul, 1) := by decide +kernel
theorem dX3_stateOf_3 : decode cX3_stateOf 3 = .ok (.iload_n 1, 1) := by decide +kernel
theorem dX3_stateOf_4 : decode cX3_stateOf 4 = .ok (.ifCond .eq 7, 3) := by decide +kernel
theorem dX3_stateOf_7 : decode cX3_stateOf 7 = .ok (.iconst 1, 1) := by decide +kernel
theorem dX3_stateOf_8 : decode cX3_stateOf 8 = .ok (.goto 4, 3) := by decide +kernel
theorem dX3_stateOf_11 : decode cX3_stateOf 11 = .ok (.iconst 0, 1) := by decide +kernel
theorem dX3_stateOf_12 : decode cX3_stateOf 12 = .ok (.iadd, 1) := by decide +kernel
theorem dX3_stateOf_13 : decode cX3_stateOf 13 = .ok (.ireturn, 1) := by decide +kernel
set_option maxRecDepth 20000 in
theorem ggX4_init_X1_init : GoodIn wsX4_init wsX1_init := goodIn_r _ [23, 24, 2, 3, 25, 26, 27, 28, 29, 30, 31, 32, 33, 34, 35, 75, 76, 77, 78, 79, 80, 81, 82, 83, 84, 85] rfl (by decide +kernel)
set_option maxRecDepth 20000 in
theorem gX4_init_X1_init : GoodIn wsX4_init (wsX1_init) := ggX4_init_X1_init
set_option maxRecDepth 20000 in
theorem ggX4_init_X0_init : GoodIn wsX4_init wsX0_init := goodIn_r _ [38, 39, 2, 3, 40, 25, 41, 42, 43, 44, 45, 46, 47, 48, 49, 50, 51, 52, 53, 54, 91, 92, 93, 94, 95, 96, 97, 98, 99, 100, 101] rfl (by decide +kernel)
set_option maxRecDepth 20000 in
theorem gX4_init_X0_init : GoodIn wsX4_init (wsX0_init) := ggX4_init_X0_init
set_option maxRecDepth 20000 in
theorem ggX4_init_X3_init : GoodIn wsX4_init wsX3_init := goodIn_r _ [57, 58, 2, 3, 59, 60, 25, 61, 62, 63, 64, 65, 66, 67, 68, 52, 53, 54, 102, 103, 104, 105, 106, 107, 108, 109, 110, 111, 112, 113, 114, 115] rfl (by decide +kernel)
set_option maxRecDepth 20000 in
theorem gX4_init_X3_init : GoodIn wsX4_init (wsX3_init) := ggX4_init_X3_init
set_option maxRecDepth 20000 in
theorem ggX4_init_X2_init : GoodIn wsX4_init wsX2_init := goodIn_r _ [71, 72, 2, 3, 25, 73, 74, 116, 117, 118, 119, 120] rfl (by decide +kernel)
set_option maxRecDepth 20000 in
theorem gX4_init_X2_init : GoodIn wsX4_init (wsX2_init) := ggX4_init_X2_init
theorem dX4_init_0 : decode cX4_init 0 = .ok (.aload_n 0, 1) := by decide +kernel
theorem dX4_init_1 : decode cX4_init 1 = .ok (.invokespecial 1, 3) := by decide +kernel
theorem dX4_init_4 : decode cX4_init 4 = .ok (.aload_n 0, 1) := by decide +kernel
theorem dX4_init_5 : decode cX4_init 5 = .ok (.new 7, 3) := by decide +kernel
theorem dX4_init_8 : decode cX4_init 8 = .ok (.dup, 1) := by decide +kernel
theorem dX4_init_9 : decode cX4_init 9 = .ok (.invokespecial 9, 3) := by decide +kernel
theorem dX4_init_12 : decode cX4_init 12 = .ok (.putfield 10, 3) := by decide +kernel
theorem dX4_init_15 : decode cX4_init 15 = .ok (.aload_n 0, 1) := by decide +kernel
theorem dX4_init_16 : decode cX4_init 16 = .ok (.new 16, 3) := by decide +kernel
theorem dX4_init_19 : decode cX4_init 19 = .ok (.dup, 1) := by decide +kernel
theorem dX4_init_20 : decode cX4_init 20 = .ok (.aload_n 0, 1) := by decide +kernel
theorem dX4_init_21 : decode cX4_init 21 = .ok (.getfield 10, 3) := by decide +kernel
theorem dX4_init_24 : decode cX4_init 24 = .ok (.invokespecial 18, 3) := by decide +kernel
theorem dX4_init_27 : decode cX4_init 27 = .ok (.putfield 21, 3) := by decide +kernel
theorem dX4_init_30 : decode cX4_init 30 = .ok (.aload_n 0, 1) := by decide +kernel
theorem dX4_init_31 : decode cX4_init 31 = .ok (.new 25, 3) := by decide +kernel
theorem dX4_init_34 : decode cX4_init 34 = .ok (.dup, 1) := by decide +kernel
theorem dX4_init_35 : decode cX4_init 35 = .ok (.aload_n 0, 1) := by decide +kernel
theorem dX4_init_36 : decode cX4_init 36 = .ok (.getfield 10, 3) := by decide +kernel
theorem dX4_init_39 : decode cX4_init 39 = .ok (.aload_n 0, 1) := by decide +kernel
theorem dX4_init_40 : decode cX4_init 40 = .ok (.getfield 21, 3) := by decide +kernel
theorem dX4_init_43 : decode cX4_init 43 = .ok (.invokespecial 27, 3) := by decide +kernel
theorem dX4_init_46 : decode cX4_init 46 = .ok (.putfield 30, 3) := by decide +kernel
theorem dX4_init_49 : decode cX4_init 49 = .ok (.aload_n 0, 1) := by decide +kernel
theorem dX4_init_50 : decode cX4_init 50 = .ok (.new 34, 3) := by decide +kernel
theorem dX4_init_53 : decode cX4_init 53 = .ok (.dup, 1) := by decide +kernel
theorem dX4_init_54 : decode cX4_init 54 = .ok (.invokespecial 36, 3) := by decide +kernel
theorem dX4_init_57 : decode cX4_init 57 = .ok (.putfield 37, 3) := by decide +kernel
theorem dX4_init_60 : decode cX4_init 60 = .ok (.aload_n 0, 1) := by decide +kernel
theorem dX4_init_61 : decode cX4_init 61 = .ok (.iconst 0, 1) := by decide +kernel
theorem dX4_init_62 : decode cX4_init 62 = .ok (.putfield 41, 3) := by decide +kernel
theorem dX4_init_65 : decode cX4_init 65 = .ok (.return_, 1) := by decide +kernel
set_option maxRecDepth 20000 in
theorem ggX4_mirror_X4_isWithin : GoodIn wsX4_mirror wsX4_isWithin := goodIn_r _ [5] rfl (by decide +kernel)
set_option maxRecDepth 20000 in
theorem gX4_mirror_X4_isWithin : GoodIn wsX4_mirror (va_wsS RX4 45 yX4_isWithin wsX4_isWithin) := goodIn_app (goodIn_of _ (by decide +kernel)) ggX4_mirror_X4_isWithin
set_option maxRecDepth 20000 in
theorem ggX4_mirror_X4_refused : GoodIn wsX4_mirror wsX4_refused := goodIn_r _ [9, 10, 37, 38, 39, 40, 41] rfl (by decide +kernel)
set_option maxRecDepth 20000 in
theorem gX4_mirror_X4_refused : GoodIn wsX4_mirror (wsV RX4 49 RX4 yX4_refused wsX4_refused) := goodIn_app (goodIn_of _ (by decide +kernel)) ggX4_mirror_X4_refused
set_option maxRecDepth 20000 in
theorem ggX4_mirror_X1_isTaken : GoodIn wsX4_mirror wsX1_isTaken := goodIn_r _ [15, 16, 42, 43, 44, 45, 46, 47, 48, 49, 50, 51, 52] rfl (by decide +kernel)
set_option maxRecDepth 20000 in
theorem gX4_mirror_X1_isTaken : GoodIn wsX4_mirror (wsV RX4 53 RX1 yX1_isTaken wsX1_isTaken) := goodIn_app (goodIn_of _ (by decide +kernel)) ggX4_mirror_X1_isTaken
set_option maxRecDepth 20000 in
theorem ggX4_mirror_X1_size : GoodIn wsX4_mirror wsX1_size := goodIn_r _ [20, 21, 42, 43, 44, 45, 46, 47, 48, 49, 50, 51, 52] rfl (by decide +kernel)
set_option maxRecDepth 20000 in
theorem gX4_mirror_X1_size : GoodIn wsX4_mirror (wsV RX4 57 RX1 yX1_size wsX1_size) := goodIn_app (goodIn_of _ (by decide +kernel)) ggX4_mirror_X1_size
set_option maxRecDepth 20000 in
theorem ggX4_mirror_X1_place : GoodIn wsX4_mirror wsX1_place := goodIn_r _ [25, 21, 26, 27, 16, 28, 29, 30, 31, 14, 32, 42, 43, 44, 45, 46, 47, 48, 49, 50, 51, 52] rfl (by decide +kernel)
set_option maxRecDepth 20000 in
theorem gX4_mirror_X1_place : GoodIn wsX4_mirror (wsV RX4 61 RX1 yX1_place wsX1_place) := goodIn_app (goodIn_of _ (by decide +kernel)) ggX4_mirror_X1_place
set_option maxRecDepth 20000 in
theorem ggX4_mirror_X4_granted : GoodIn wsX4_mirror wsX4_granted := goodIn_r _ [36, 10, 37, 38, 39, 40, 41] rfl (by decide +kernel)
set_option maxRecDepth 20000 in
theorem gX4_mirror_X4_granted : GoodIn wsX4_mirror (wsV RX4 65 RX4 yX4_granted wsX4_granted) := goodIn_app (goodIn_of _ (by decide +kernel)) ggX4_mirror_X4_granted
theorem dX4_mirror_0 : decode cX4_mirror 0 = .ok (.iload_n 1, 1) := by decide +kernel
theorem dX4_mirror_1 : decode cX4_mirror 1 = .ok (.iconst 0, 1) := by decide +kernel
theorem dX4_mirror_2 : decode cX4_mirror 2 = .ok (.bipush 14, 2) := by decide +kernel
theorem dX4_mirror_4 : decode cX4_mirror 4 = .ok (.invokestatic 45, 3) := by decide +kernel
theorem dX4_mirror_7 : decode cX4_mirror 7 = .ok (.ifCond .eq 13, 3) := by decide +kernel
theorem dX4_mirror_10 : decode cX4_mirror 10 = .ok (.iload_n 2, 1) := by decide +kernel
theorem dX4_mirror_11 : decode cX4_mirror 11 = .ok (.iconst 0, 1) := by decide +kernel
theorem dX4_mirror_12 : decode cX4_mirror 12 = .ok (.bipush 14, 2) := by decide +kernel
theorem dX4_mirror_14 : decode cX4_mirror 14 = .ok (.invokestatic 45, 3) := by decide +kernel
theorem dX4_mirror_17 : decode cX4_mirror 17 = .ok (.ifCond .ne 9, 3) := by decide +kernel
theorem dX4_mirror_20 : decode cX4_mirror 20 = .ok (.aload_n 0, 1) := by decide +kernel
theorem dX4_mirror_21 : decode cX4_mirror 21 = .ok (.iconst 2, 1) := by decide +kernel
theorem dX4_mirror_22 : decode cX4_mirror 22 = .ok (.invokevirtual 49, 3) := by decide +kernel
theorem dX4_mirror_25 : decode cX4_mirror 25 = .ok (.ireturn, 1) := by decide +kernel
theorem dX4_mirror_26 : decode cX4_mirror 26 = .ok (.iload_n 1, 1) := by decide +kernel
theorem dX4_mirror_27 : decode cX4_mirror 27 = .ok (.bipush 7, 2) := by decide +kernel
theorem dX4_mirror_29 : decode cX4_mirror 29 = .ok (.if_icmp .ne 11, 3) := by decide +kernel
theorem dX4_mirror_32 : decode cX4_mirror 32 = .ok (.iload_n 2, 1) := by decide +kernel
theorem dX4_mirror_33 : decode cX4_mirror 33 = .ok (.ifCond .ne 7, 3) := by decide +kernel
theorem dX4_mirror_36 : decode cX4_mirror 36 = .ok (.iconst 1, 1) := by decide +kernel
theorem dX4_mirror_37 : decode cX4_mirror 37 = .ok (.goto 4, 3) := by decide +kernel
theorem dX4_mirror_40 : decode cX4_mirror 40 = .ok (.iconst 0, 1) := by decide +kernel
theorem dX4_mirror_41 : decode cX4_mirror 41 = .ok (.istore_n 3, 1) := by decide +kernel
theorem dX4_mirror_42 : decode cX4_mirror 42 = .ok (.iload_n 3, 1) := by decide +kernel
theorem dX4_mirror_43 : decode cX4_mirror 43 = .ok (.ifCond .ne 15, 3) := by decide +kernel
theorem dX4_mirror_46 : decode cX4_mirror 46 = .ok (.aload_n 0, 1) := by decide +kernel
theorem dX4_mirror_47 : decode cX4_mirror 47 = .ok (.getfield 10, 3) := by decide +kernel
theorem dX4_mirror_50 : decode cX4_mirror 50 = .ok (.iload_n 1, 1) := by decide +kernel
theorem dX4_mirror_51 : decode cX4_mirror 51 = .ok (.iload_n 2, 1) := by decide +kernel
theorem dX4_mirror_52 : decode cX4_mirror 52 = .ok (.invokevirtual 53, 3) := by decide +kernel
theorem dX4_mirror_55 : decode cX4_mirror 55 = .ok (.ifCond .eq 9, 3) := by decide +kernel
theorem dX4_mirror_58 : decode cX4_mirror 58 = .ok (.aload_n 0, 1) := by decide +kernel
theorem dX4_mirror_59 : decode cX4_mirror 59 = .ok (.iconst 4, 1) := by decide +kernel
theorem dX4_mirror_60 : decode cX4_mirror 60 = .ok (.invokevirtual 49, 3) := by decide +kernel
theorem dX4_mirror_63 : decode cX4_mirror 63 = .ok (.ireturn, 1) := by decide +kernel
theorem dX4_mirror_64 : decode cX4_mirror 64 = .ok (.aload_n 0, 1) := by decide +kernel
theorem dX4_mirror_65 : decode cX4_mirror 65 = .ok (.getfield 10, 3) := by decide +kernel
theorem dX4_mirror_68 : decode cX4_mirror 68 = .ok (.invokevirtual 57, 3) := by decide +kernel
theorem dX4_mirror_71 : decode cX4_mirror 71 = .ok (.bipush 40, 2) := by decide +kernel
theorem dX4_mirror_73 : decode cX4_mirror 73 = .ok (.if_icmp .lt 9, 3) := by decide +kernel
theorem dX4_mirror_76 : decode cX4_mirror 76 = .ok (.aload_n 0, 1) := by decide +kernel
theorem dX4_mirror_77 : decode cX4_mirror 77 = .ok (.iconst 3, 1) := by decide +kernel
theorem dX4_mirror_78 : decode cX4_mirror 78 = .ok (.invokevirtual 49, 3) := by decide +kernel
theorem dX4_mirror_81 : decode cX4_mirror 81 = .ok (.ireturn, 1) := by decide +kernel
theorem dX4_mirror_82 : decode cX4_mirror 82 = .ok (.aload_n 0, 1) := by decide +kernel
theorem dX4_mirror_83 : decode cX4_mirror 83 = .ok (.aload_n 0, 1) := by decide +kernel
theorem dX4_mirror_84 : decode cX4_mirror 84 = .ok (.getfield 10, 3) := by decide +kernel
theorem dX4_mirror_87 : decode cX4_mirror 87 = .ok (.iload_n 1, 1) := by decide +kernel
theorem dX4_mirror_88 : decode cX4_mirror 88 = .ok (.iload_n 2, 1) := by decide +kernel
theorem dX4_mirror_89 : decode cX4_mirror 89 = .ok (.invokevirtual 61, 3) := by decide +kernel
theorem dX4_mirror_92 : decode cX4_mirror 92 = .ok (.invokevirtual 65, 3) := by decide +kernel
theorem dX4_mirror_95 : decode cX4_mirror 95 = .ok (.ireturn, 1) := by decide +kernel
set_option maxRecDepth 20000 in
theorem ggX4_sun_X4_isWithin : GoodIn wsX4_sun wsX4_isWithin := goodIn_r _ [5] rfl (by decide +kernel)
set_option maxRecDepth 20000 in
theorem gX4_sun_X4_isWithin : GoodIn wsX4_sun (va_wsS RX4 45 yX4_isWithin wsX4_isWithin) := goodIn_app (goodIn_of _ (by decide +kernel)) ggX4_sun_X4_isWithin
set_option maxRecDepth 20000 in
theorem ggX4_sun_X4_isHour : GoodIn wsX4_sun wsX4_isHour := goodIn_r _ [8, 2, 3, 4, 5] rfl (by decide +kernel)
set_option maxRecDepth 20000 in
theorem gX4_sun_X4_isHour : GoodIn wsX4_sun (va_wsS RX4 68 yX4_isHour wsX4_isHour) := goodIn_app (goodIn_of _ (by decide +kernel)) ggX4_sun_X4_isHour
set_option maxRecDepth 20000 in
theorem ggX4_sun_X4_denied : GoodIn wsX4_sun wsX4_denied := goodIn_r _ [12, 13, 26, 27, 28, 29, 30] rfl (by decide +kernel)
set_option maxRecDepth 20000 in
theorem gX4_sun_X4_denied : GoodIn wsX4_sun (wsV RX4 72 RX4 yX4_denied wsX4_denied) := goodIn_app (goodIn_of _ (by decide +kernel)) ggX4_sun_X4_denied
set_option maxRecDepth 20000 in
theorem ggX4_sun_X1_setSun : GoodIn wsX4_sun wsX1_setSun := goodIn_r _ [18, 19, 20, 21, 31, 32, 33, 34, 35, 36, 37, 38, 39, 40, 41] rfl (by decide +kernel)
set_option maxRecDepth 20000 in
theorem gX4_sun_X1_setSun : GoodIn wsX4_sun (wsV RX4 75 RX1 yX1_setSun wsX1_setSun) := goodIn_app (goodIn_of _ (by decide +kernel)) ggX4_sun_X1_setSun
set_option maxRecDepth 20000 in
theorem ggX4_sun_X4_allowed : GoodIn wsX4_sun wsX4_allowed := goodIn_r _ [25, 13, 26, 27, 28, 29, 30] rfl (by decide +kernel)
set_option maxRecDepth 20000 in
theorem gX4_sun_X4_allowed : GoodIn wsX4_sun (wsV RX4 79 RX4 yX4_allowed wsX4_allowed) := goodIn_app (goodIn_of _ (by decide +kernel)) ggX4_sun_X4_allowed
theorem dX4_sun_0 : decode cX4_sun 0 = .ok (.iload_n 2, 1) := by decide +kernel
theorem dX4_sun_1 : decode cX4_sun 1 = .ok (.bipush (-2), 2) := by decide +kernel
theorem dX4_sun_3 : decode cX4_sun 3 = .ok (.iconst 2, 1) := by decide +kernel
theorem dX4_sun_4 : decode cX4_sun 4 = .ok (.invokestatic 45, 3) := by decide +kernel
theorem dX4_sun_7 : decode cX4_sun 7 = .ok (.ifCond .eq 25, 3) := by decide +kernel
theorem dX4_sun_10 : decode cX4_sun 10 = .ok (.iload_n 3, 1) := by decide +kernel
theorem dX4_sun_11 : decode cX4_sun 11 = .ok (.bipush (-2), 2) := by decide +kernel
theorem dX4_sun_13 : decode cX4_sun 13 = .ok (.iconst 2, 1) := by decide +kernel
theorem dX4_sun_14 : decode cX4_sun 14 = .ok (.invokestatic 45, 3) := by decide +kernel
theorem dX4_sun_17 : decode cX4_sun 17 = .ok (.ifCond .eq 15, 3) := by decide +kernel
theorem dX4_sun_20 : decode cX4_sun 20 = .ok (.iload_n 2, 1) := by decide +kernel
theorem dX4_sun_21 : decode cX4_sun 21 = .ok (.ifCond .ne 7, 3) := by decide +kernel
theorem dX4_sun_24 : decode cX4_sun 24 = .ok (.iload_n 3, 1) := by decide +kernel
theorem dX4_sun_25 : decode cX4_sun 25 = .ok (.ifCond .eq 7, 3) := by decide +kernel
theorem dX4_sun_28 : decode cX4_sun 28 = .ok (.iconst 1, 1) := by decide +kernel
theorem dX4_sun_29 : decode cX4_sun 29 = .ok (.goto 4, 3) := by decide +kernel
theorem dX4_sun_32 : decode cX4_sun 32 = .ok (.iconst 0, 1) := by decide +kernel
theorem dX4_sun_33 : decode cX4_sun 33 = .ok (.istore 5, 2) := by decide +kernel
theorem dX4_sun_35 : decode cX4_sun 35 = .ok (.iload_n 1, 1) := by decide +kernel
theorem dX4_sun_36 : decode cX4_sun 36 = .ok (.invokestatic 68, 3) := by decide +kernel
theorem dX4_sun_39 : decode cX4_sun 39 = .ok (.ifCond .eq 19, 3) := by decide +kernel
theorem dX4_sun_42 : decode cX4_sun 42 = .ok (.iload 5, 2) := by decide +kernel
theorem dX4_sun_44 : decode cX4_sun 44 = .ok (.ifCond .eq 14, 3) := by decide +kernel
theorem dX4_sun_47 : decode cX4_sun 47 = .ok (.iload 4, 2) := by decide +kernel
theorem dX4_sun_49 : decode cX4_sun 49 = .ok (.iconst 0, 1) := by decide +kernel
theorem dX4_sun_50 : decode cX4_sun 50 = .ok (.bipush 9, 2) := by decide +kernel
theorem dX4_sun_52 : decode cX4_sun 52 = .ok (.invokestatic 45, 3) := by decide +kernel
theorem dX4_sun_55 : decode cX4_sun 55 = .ok (.ifCond .ne 9, 3) := by decide +kernel
theorem dX4_sun_58 : decode cX4_sun 58 = .ok (.aload_n 0, 1) := by decide +kernel
theorem dX4_sun_59 : decode cX4_sun 59 = .ok (.iconst 2, 1) := by decide +kernel
theorem dX4_sun_60 : decode cX4_sun 60 = .ok (.invokevirtual 72, 3) := by decide +kernel
theorem dX4_sun_63 : decode cX4_sun 63 = .ok (.ireturn, 1) := by decide +kernel
theorem dX4_sun_64 : decode cX4_sun 64 = .ok (.aload_n 0, 1) := by decide +kernel
theorem dX4_sun_65 : decode cX4_sun 65 = .ok (.getfield 10, 3) := by decide +kernel
theorem dX4_sun_68 : decode cX4_sun 68 = .ok (.iload_n 1, 1) := by decide +kernel
theorem dX4_sun_69 : decode cX4_sun 69 = .ok (.iload_n 2, 1) := by decide +kernel
theorem dX4_sun_70 : decode cX4_sun 70 = .ok (.iload_n 3, 1) := by decide +kernel
theorem dX4_sun_71 : decode cX4_sun 71 = .ok (.iload 4, 2) := by decide +kernel
theorem dX4_sun_73 : decode cX4_sun 73 = .ok (.invokevirtual 75, 3) := by decide +kernel
theorem dX4_sun_76 : decode cX4_sun 76 = .ok (.aload_n 0, 1) := by decide +kernel
theorem dX4_sun_77 : decode cX4_sun 77 = .ok (.invokevirtual 79, 3) := by decide +kernel
theorem dX4_sun_80 : decode cX4_sun 80 = .ok (.ireturn, 1) := by decide +kernel
set_option maxRecDepth 20000 in
theorem ggX4_limit_X4_isCell : GoodIn wsX4_limit wsX4_isCell := goodIn_r _ [5, 6, 7, 4, 8] rfl (by decide +kernel)
set_option maxRecDepth 20000 in
theorem gX4_limit_X4_isCell : GoodIn wsX4_limit (va_wsS RX4 83 yX4_isCell wsX4_isCell) := goodIn_app (goodIn_of _ (by decide +kernel)) ggX4_limit_X4_isCell
set_option maxRecDepth 20000 in
theorem ggX4_limit_X4_denied : GoodIn wsX4_limit wsX4_denied := goodIn_r _ [12, 13, 24, 25, 26, 27, 28] rfl (by decide +kernel)
set_option maxRecDepth 20000 in
theorem gX4_limit_X4_denied : GoodIn wsX4_limit (wsV RX4 72 RX4 yX4_denied wsX4_denied) := goodIn_app (goodIn_of _ (by decide +kernel)) ggX4_limit_X4_denied
set_option maxRecDepth 20000 in
theorem ggX4_limit_X4_isWithin : GoodIn wsX4_limit wsX4_isWithin := goodIn_r _ [8] rfl (by decide +kernel)
set_option maxRecDepth 20000 in
theorem gX4_limit_X4_isWithin : GoodIn wsX4_limit (va_wsS RX4 45 yX4_isWithin wsX4_isWithin) := goodIn_app (goodIn_of _ (by decide +kernel)) ggX4_limit_X4_isWithin
set_option maxRecDepth 20000 in
theorem ggX4_limit_X0_setLimit : GoodIn wsX4_limit wsX0_setLimit := goodIn_r _ [18, 19, 29, 30, 31, 32, 33, 34, 35, 36, 37, 38, 39] rfl (by decide +kernel)
set_option maxRecDepth 20000 in
theorem gX4_limit_X0_setLimit : GoodIn wsX4_limit (wsV RX4 86 RX0 yX0_setLimit wsX0_setLimit) := goodIn_app (goodIn_of _ (by decide +kernel)) ggX4_limit_X0_setLimit
set_option maxRecDepth 20000 in
theorem ggX4_limit_X4_allowed : GoodIn wsX4_limit wsX4_allowed := goodIn_r _ [23, 13, 24, 25, 26, 27, 28] rfl (by decide +kernel)
set_option maxRecDepth 20000 in
theorem gX4_limit_X4_allowed : GoodIn wsX4_limit (wsV RX4 79 RX4 yX4_allowed wsX4_allowed) := goodIn_app (goodIn_of _ (by decide +kernel)) ggX4_limit_X4_allowed
theorem dX4_limit_0 : decode cX4_limit 0 = .ok (.iload_n 1, 1) := by decide +kernel
theorem dX4_limit_1 : decode cX4_limit 1 = .ok (.invokestatic 83, 3) := by decide +kernel
theorem dX4_limit_4 : decode cX4_limit 4 = .ok (.ifCond .ne 9, 3) := by decide +kernel
theorem dX4_limit_7 : decode cX4_limit 7 = .ok (.aload_n 0, 1) := by decide +kernel
theorem dX4_limit_8 : decode cX4_limit 8 = .ok (.iconst 1, 1) := by decide +kernel
theorem dX4_limit_9 : decode cX4_limit 9 = .ok (.invokevirtual 72, 3) := by decide +kernel
theorem dX4_limit_12 : decode cX4_limit 12 = .ok (.ireturn, 1) := by decide +kernel
theorem dX4_limit_13 : decode cX4_limit 13 = .ok (.iload_n 2, 1) := by decide +kernel
theorem dX4_limit_14 : decode cX4_limit 14 = .ok (.iconst 0, 1) := by decide +kernel
theorem dX4_limit_15 : decode cX4_limit 15 = .ok (.sipush 10000, 3) := by decide +kernel
theorem dX4_limit_18 : decode cX4_limit 18 = .ok (.invokestatic 45, 3) := by decide +kernel
theorem dX4_limit_21 : decode cX4_limit 21 = .ok (.ifCond .ne 9, 3) := by decide +kernel
theorem dX4_limit_24 : decode cX4_limit 24 = .ok (.aload_n 0, 1) := by decide +kernel
end
section
theorem dX4_limit_25 : decode cX4_limit 25 = .ok (.iconst 2, 1) := by decide +kernel
theorem dX4_limit_26 : decode cX4_limit 26 = .ok (.invokevirtual 72, 3) := by decide +kernel
theorem dX4_limit_29 : decode cX4_limit 29 = .ok (.ireturn, 1) := by decide +kernel
theorem dX4_limit_30 : decode cX4_limit 30 = .ok (.aload_n 0, 1) := by decide +kernel
theorem dX4_limit_31 : decode cX4_limit 31 = .ok (.getfield 21, 3) := by decide +kernel
theorem dX4_limit_34 : decode cX4_limit 34 = .ok (.iload_n 1, 1) := by decide +kernel
theorem dX4_limit_35 : decode cX4_limit 35 = .ok (.iload_n 2, 1) := by decide +kernel
theorem dX4_limit_36 : decode cX4_limit 36 = .ok (.invokevirtual 86, 3) := by decide +kernel
theorem dX4_limit_39 : decode cX4_limit 39 = .ok (.aload_n 0, 1) := by decide +kernel
theorem dX4_limit_40 : decode cX4_limit 40 = .ok (.invokevirtual 79, 3) := by decide +kernel
theorem dX4_limit_43 : decode cX4_limit 43 = .ok (.ireturn, 1) := by decide +kernel
set_option maxRecDepth 20000 in
theorem ggX4_wind_X4_isHour : GoodIn wsX4_wind wsX4_isHour := goodIn_r _ [5, 6, 7, 4, 8] rfl (by decide +kernel)
set_option maxRecDepth 20000 in
theorem gX4_wind_X4_isHour : GoodIn wsX4_wind (va_wsS RX4 68 yX4_isHour wsX4_isHour) := goodIn_app (goodIn_of _ (by decide +kernel)) ggX4_wind_X4_isHour
set_option maxRecDepth 20000 in
theorem ggX4_wind_X4_isWithin : GoodIn wsX4_wind wsX4_isWithin := goodIn_r _ [8] rfl (by decide +kernel)
set_option maxRecDepth 20000 in
theorem gX4_wind_X4_isWithin : GoodIn wsX4_wind (va_wsS RX4 45 yX4_isWithin wsX4_isWithin) := goodIn_app (goodIn_of _ (by decide +kernel)) ggX4_wind_X4_isWithin
set_option maxRecDepth 20000 in
theorem ggX4_wind_X4_denied : GoodIn wsX4_wind wsX4_denied := goodIn_r _ [12, 13, 24, 25, 26, 27, 28] rfl (by decide +kernel)
set_option maxRecDepth 20000 in
theorem gX4_wind_X4_denied : GoodIn wsX4_wind (wsV RX4 72 RX4 yX4_denied wsX4_denied) := goodIn_app (goodIn_of _ (by decide +kernel)) ggX4_wind_X4_denied
set_option maxRecDepth 20000 in
theorem ggX4_wind_X1_setWind : GoodIn wsX4_wind wsX1_setWind := goodIn_r _ [18, 19, 29, 30, 31, 32, 33, 34, 35, 36, 37, 38, 39] rfl (by decide +kernel)
set_option maxRecDepth 20000 in
theorem gX4_wind_X1_setWind : GoodIn wsX4_wind (wsV RX4 90 RX1 yX1_setWind wsX1_setWind) := goodIn_app (goodIn_of _ (by decide +kernel)) ggX4_wind_X1_setWind
set_option maxRecDepth 20000 in
theorem ggX4_wind_X4_allowed : GoodIn wsX4_wind wsX4_allowed := goodIn_r _ [23, 13, 24, 25, 26, 27, 28] rfl (by decide +kernel)
set_option maxRecDepth 20000 in
theorem gX4_wind_X4_allowed : GoodIn wsX4_wind (wsV RX4 79 RX4 yX4_allowed wsX4_allowed) := goodIn_app (goodIn_of _ (by decide +kernel)) ggX4_wind_X4_allowed
theorem dX4_wind_0 : decode cX4_wind 0 = .ok (.iload_n 1, 1) := by decide +kernel
theorem dX4_wind_1 : decode cX4_wind 1 = .ok (.invokestatic 68, 3) := by decide +kernel
theorem dX4_wind_4 : decode cX4_wind 4 = .ok (.ifCond .eq 13, 3) := by decide +kernel
theorem dX4_wind_7 : decode cX4_wind 7 = .ok (.iload_n 2, 1) := by decide +kernel
theorem dX4_wind_8 : decode cX4_wind 8 = .ok (.iconst 0, 1) := by decide +kernel
theorem dX4_wind_9 : decode cX4_wind 9 = .ok (.bipush 99, 2) := by decide +kernel
theorem dX4_wind_11 : decode cX4_wind 11 = .ok (.invokestatic 45, 3) := by decide +kernel
theorem dX4_wind_14 : decode cX4_wind 14 = .ok (.ifCond .ne 9, 3) := by decide +kernel
theorem dX4_wind_17 : decode cX4_wind 17 = .ok (.aload_n 0, 1) := by decide +kernel
theorem dX4_wind_18 : decode cX4_wind 18 = .ok (.iconst 2, 1) := by decide +kernel
theorem dX4_wind_19 : decode cX4_wind 19 = .ok (.invokevirtual 72, 3) := by decide +kernel
theorem dX4_wind_22 : decode cX4_wind 22 = .ok (.ireturn, 1) := by decide +kernel
theorem dX4_wind_23 : decode cX4_wind 23 = .ok (.aload_n 0, 1) := by decide +kernel
theorem dX4_wind_24 : decode cX4_wind 24 = .ok (.getfield 10, 3) := by decide +kernel
theorem dX4_wind_27 : decode cX4_wind 27 = .ok (.iload_n 1, 1) := by decide +kernel
theorem dX4_wind_28 : decode cX4_wind 28 = .ok (.iload_n 2, 1) := by decide +kernel
theorem dX4_wind_29 : decode cX4_wind 29 = .ok (.invokevirtual 90, 3) := by decide +kernel
theorem dX4_wind_32 : decode cX4_wind 32 = .ok (.aload_n 0, 1) := by decide +kernel
theorem dX4_wind_33 : decode cX4_wind 33 = .ok (.invokevirtual 79, 3) := by decide +kernel
theorem dX4_wind_36 : decode cX4_wind 36 = .ok (.ireturn, 1) := by decide +kernel
set_option maxRecDepth 20000 in
theorem ggX4_price_X4_isHour : GoodIn wsX4_price wsX4_isHour := goodIn_r _ [5, 6, 7, 4, 8] rfl (by decide +kernel)
set_option maxRecDepth 20000 in
theorem gX4_price_X4_isHour : GoodIn wsX4_price (va_wsS RX4 68 yX4_isHour wsX4_isHour) := goodIn_app (goodIn_of _ (by decide +kernel)) ggX4_price_X4_isHour
set_option maxRecDepth 20000 in
theorem ggX4_price_X4_isWithin : GoodIn wsX4_price wsX4_isWithin := goodIn_r _ [8] rfl (by decide +kernel)
set_option maxRecDepth 20000 in
theorem gX4_price_X4_isWithin : GoodIn wsX4_price (va_wsS RX4 45 yX4_isWithin wsX4_isWithin) := goodIn_app (goodIn_of _ (by decide +kernel)) ggX4_price_X4_isWithin
set_option maxRecDepth 20000 in
theorem ggX4_price_X4_denied : GoodIn wsX4_price wsX4_denied := goodIn_r _ [12, 13, 24, 25, 26, 27, 28] rfl (by decide +kernel)
set_option maxRecDepth 20000 in
theorem gX4_price_X4_denied : GoodIn wsX4_price (wsV RX4 72 RX4 yX4_denied wsX4_denied) := goodIn_app (goodIn_of _ (by decide +kernel)) ggX4_price_X4_denied
set_option maxRecDepth 20000 in
theorem ggX4_price_X3_setPrice : GoodIn wsX4_price wsX3_setPrice := goodIn_r _ [18, 19, 29, 30, 31, 32, 33, 34, 35, 36, 37, 38, 39, 40, 41, 42] rfl (by decide +kernel)
set_option maxRecDepth 20000 in
theorem gX4_price_X3_setPrice : GoodIn wsX4_price (wsV RX4 93 RX3 yX3_setPrice wsX3_setPrice) := goodIn_app (goodIn_of _ (by decide +kernel)) ggX4_price_X3_setPrice
set_option maxRecDepth 20000 in
theorem ggX4_price_X4_allowed : GoodIn wsX4_price wsX4_allowed := goodIn_r _ [23, 13, 24, 25, 26, 27, 28] rfl (by decide +kernel)
set_option maxRecDepth 20000 in
theorem gX4_price_X4_allowed : GoodIn wsX4_price (wsV RX4 79 RX4 yX4_allowed wsX4_allowed) := goodIn_app (goodIn_of _ (by decide +kernel)) ggX4_price_X4_allowed
theorem dX4_price_0 : decode cX4_price 0 = .ok (.iload_n 1, 1) := by decide +kernel
theorem dX4_price_1 : decode cX4_price 1 = .ok (.invokestatic 68, 3) := by decide +kernel
theorem dX4_price_4 : decode cX4_price 4 = .ok (.ifCond .eq 14, 3) := by decide +kernel
theorem dX4_price_7 : decode cX4_price 7 = .ok (.iload_n 2, 1) := by decide +kernel
theorem dX4_price_8 : decode cX4_price 8 = .ok (.iconst 0, 1) := by decide +kernel
theorem dX4_price_9 : decode cX4_price 9 = .ok (.sipush 999, 3) := by decide +kernel
theorem dX4_price_12 : decode cX4_price 12 = .ok (.invokestatic 45, 3) := by decide +kernel
theorem dX4_price_15 : decode cX4_price 15 = .ok (.ifCond .ne 9, 3) := by decide +kernel
theorem dX4_price_18 : decode cX4_price 18 = .ok (.aload_n 0, 1) := by decide +kernel
theorem dX4_price_19 : decode cX4_price 19 = .ok (.iconst 2, 1) := by decide +kernel
theorem dX4_price_20 : decode cX4_price 20 = .ok (.invokevirtual 72, 3) := by decide +kernel
theorem dX4_price_23 : decode cX4_price 23 = .ok (.ireturn, 1) := by decide +kernel
theorem dX4_price_24 : decode cX4_price 24 = .ok (.aload_n 0, 1) := by decide +kernel
theorem dX4_price_25 : decode cX4_price 25 = .ok (.getfield 30, 3) := by decide +kernel
theorem dX4_price_28 : decode cX4_price 28 = .ok (.iload_n 1, 1) := by decide +kernel
theorem dX4_price_29 : decode cX4_price 29 = .ok (.iload_n 2, 1) := by decide +kernel
theorem dX4_price_30 : decode cX4_price 30 = .ok (.invokevirtual 93, 3) := by decide +kernel
theorem dX4_price_33 : decode cX4_price 33 = .ok (.aload_n 0, 1) := by decide +kernel
theorem dX4_price_34 : decode cX4_price 34 = .ok (.invokevirtual 79, 3) := by decide +kernel
theorem dX4_price_37 : decode cX4_price 37 = .ok (.ireturn, 1) := by decide +kernel
set_option maxRecDepth 20000 in
theorem ggX4_dust_X4_isWithin : GoodIn wsX4_dust wsX4_isWithin := goodIn_r _ [5] rfl (by decide +kernel)
set_option maxRecDepth 20000 in
theorem gX4_dust_X4_isWithin : GoodIn wsX4_dust (va_wsS RX4 45 yX4_isWithin wsX4_isWithin) := goodIn_app (goodIn_of _ (by decide +kernel)) ggX4_dust_X4_isWithin
set_option maxRecDepth 20000 in
theorem ggX4_dust_X4_denied : GoodIn wsX4_dust wsX4_denied := goodIn_r _ [9, 10, 21, 22, 23, 24, 25] rfl (by decide +kernel)
set_option maxRecDepth 20000 in
theorem gX4_dust_X4_denied : GoodIn wsX4_dust (wsV RX4 72 RX4 yX4_denied wsX4_denied) := goodIn_app (goodIn_of _ (by decide +kernel)) ggX4_dust_X4_denied
set_option maxRecDepth 20000 in
theorem ggX4_dust_X1_setDust : GoodIn wsX4_dust wsX1_setDust := goodIn_r _ [15, 16, 26, 27, 28, 29, 30, 31, 32, 33, 34, 35, 36] rfl (by decide +kernel)
set_option maxRecDepth 20000 in
theorem gX4_dust_X1_setDust : GoodIn wsX4_dust (wsV RX4 96 RX1 yX1_setDust wsX1_setDust) := goodIn_app (goodIn_of _ (by decide +kernel)) ggX4_dust_X1_setDust
set_option maxRecDepth 20000 in
theorem ggX4_dust_X4_allowed : GoodIn wsX4_dust wsX4_allowed := goodIn_r _ [20, 10, 21, 22, 23, 24, 25] rfl (by decide +kernel)
set_option maxRecDepth 20000 in
theorem gX4_dust_X4_allowed : GoodIn wsX4_dust (wsV RX4 79 RX4 yX4_allowed wsX4_allowed) := goodIn_app (goodIn_of _ (by decide +kernel)) ggX4_dust_X4_allowed
theorem dX4_dust_0 : decode cX4_dust 0 = .ok (.iload_n 1, 1) := by decide +kernel
theorem dX4_dust_1 : decode cX4_dust 1 = .ok (.iconst 0, 1) := by decide +kernel
theorem dX4_dust_2 : decode cX4_dust 2 = .ok (.bipush 20, 2) := by decide +kernel
theorem dX4_dust_4 : decode cX4_dust 4 = .ok (.invokestatic 45, 3) := by decide +kernel
theorem dX4_dust_7 : decode cX4_dust 7 = .ok (.ifCond .ne 9, 3) := by decide +kernel
theorem dX4_dust_10 : decode cX4_dust 10 = .ok (.aload_n 0, 1) := by decide +kernel
theorem dX4_dust_11 : decode cX4_dust 11 = .ok (.iconst 2, 1) := by decide +kernel
theorem dX4_dust_12 : decode cX4_dust 12 = .ok (.invokevirtual 72, 3) := by decide +kernel
theorem dX4_dust_15 : decode cX4_dust 15 = .ok (.ireturn, 1) := by decide +kernel
theorem dX4_dust_16 : decode cX4_dust 16 = .ok (.aload_n 0, 1) := by decide +kernel
theorem dX4_dust_17 : decode cX4_dust 17 = .ok (.getfield 10, 3) := by decide +kernel
theorem dX4_dust_20 : decode cX4_dust 20 = .ok (.iload_n 1, 1) := by decide +kernel
theorem dX4_dust_21 : decode cX4_dust 21 = .ok (.invokevirtual 96, 3) := by decide +kernel
theorem dX4_dust_24 : decode cX4_dust 24 = .ok (.aload_n 0, 1) := by decide +kernel
theorem dX4_dust_25 : decode cX4_dust 25 = .ok (.invokevirtual 79, 3) := by decide +kernel
theorem dX4_dust_28 : decode cX4_dust 28 = .ok (.ireturn, 1) := by decide +kernel
set_option maxRecDepth 20000 in
theorem ggX4_shaded_X4_isMirror : GoodIn wsX4_shaded wsX4_isMirror := goodIn_r _ [6, 1, 7, 8, 9, 10, 11, 12, 13, 14, 5, 15, 34, 35, 36, 37, 38, 39, 40, 41, 42, 43, 44, 45, 46, 47, 48, 49] rfl (by decide +kernel)
set_option maxRecDepth 20000 in
theorem gX4_shaded_X4_isMirror : GoodIn wsX4_shaded (wsV RX4 100 RX4 yX4_isMirror wsX4_isMirror) := goodIn_app (goodIn_of _ (by decide +kernel)) ggX4_shaded_X4_isMirror
set_option maxRecDepth 20000 in
theorem ggX4_shaded_X4_isHour : GoodIn wsX4_shaded wsX4_isHour := goodIn_r _ [18, 13, 14, 5, 15] rfl (by decide +kernel)
set_option maxRecDepth 20000 in
theorem gX4_shaded_X4_isHour : GoodIn wsX4_shaded (va_wsS RX4 68 yX4_isHour wsX4_isHour) := goodIn_app (goodIn_of _ (by decide +kernel)) ggX4_shaded_X4_isHour
set_option maxRecDepth 20000 in
theorem ggX4_shaded_X1_blockersOf : GoodIn wsX4_shaded wsX1_blockersOf := goodIn_r _ [22, 23, 39, 40, 41, 42, 43, 44, 45, 46, 47, 48, 49] rfl (by decide +kernel)
set_option maxRecDepth 20000 in
theorem gX4_shaded_X1_blockersOf : GoodIn wsX4_shaded (wsV RX4 103 RX1 yX1_blockersOf wsX1_blockersOf) := goodIn_app (goodIn_of _ (by decide +kernel)) ggX4_shaded_X1_blockersOf
set_option maxRecDepth 20000 in
theorem ggX4_shaded_X1_shadersOf : GoodIn wsX4_shaded wsX1_shadersOf := goodIn_r _ [27, 28, 29, 30, 31, 32, 33, 39, 40, 41, 42, 43, 44, 45, 46, 47, 48, 49] rfl (by decide +kernel)
set_option maxRecDepth 20000 in
theorem gX4_shaded_X1_shadersOf : GoodIn wsX4_shaded (wsV RX4 106 RX1 yX1_shadersOf wsX1_shadersOf) := goodIn_app (goodIn_of _ (by decide +kernel)) ggX4_shaded_X1_shadersOf
theorem dX4_shaded_0 : decode cX4_shaded 0 = .ok (.aload_n 0, 1) := by decide +kernel
theorem dX4_shaded_1 : decode cX4_shaded 1 = .ok (.iload_n 1, 1) := by decide +kernel
theorem dX4_shaded_2 : decode cX4_shaded 2 = .ok (.invokevirtual 100, 3) := by decide +kernel
theorem dX4_shaded_5 : decode cX4_shaded 5 = .ok (.ifCond .eq 10, 3) := by decide +kernel
theorem dX4_shaded_8 : decode cX4_shaded 8 = .ok (.iload_n 2, 1) := by decide +kernel
theorem dX4_shaded_9 : decode cX4_shaded 9 = .ok (.invokestatic 68, 3) := by decide +kernel
theorem dX4_shaded_12 : decode cX4_shaded 12 = .ok (.ifCond .ne 5, 3) := by decide +kernel
theorem dX4_shaded_15 : decode cX4_shaded 15 = .ok (.iconst (-1), 1) := by decide +kernel
theorem dX4_shaded_16 : decode cX4_shaded 16 = .ok (.ireturn, 1) := by decide +kernel
theorem dX4_shaded_17 : decode cX4_shaded 17 = .ok (.iload_n 3, 1) := by decide +kernel
theorem dX4_shaded_18 : decode cX4_shaded 18 = .ok (.ifCond .eq 14, 3) := by decide +kernel
theorem dX4_shaded_21 : decode cX4_shaded 21 = .ok (.aload_n 0, 1) := by decide +kernel
theorem dX4_shaded_22 : decode cX4_shaded 22 = .ok (.getfield 10, 3) := by decide +kernel
theorem dX4_shaded_25 : decode cX4_shaded 25 = .ok (.iload_n 1, 1) := by decide +kernel
theorem dX4_shaded_26 : decode cX4_shaded 26 = .ok (.invokevirtual 103, 3) := by decide +kernel
theorem dX4_shaded_29 : decode cX4_shaded 29 = .ok (.goto 12, 3) := by decide +kernel
theorem dX4_shaded_32 : decode cX4_shaded 32 = .ok (.aload_n 0, 1) := by decide +kernel
theorem dX4_shaded_33 : decode cX4_shaded 33 = .ok (.getfield 10, 3) := by decide +kernel
theorem dX4_shaded_36 : decode cX4_shaded 36 = .ok (.iload_n 1, 1) := by decide +kernel
theorem dX4_shaded_37 : decode cX4_shaded 37 = .ok (.iload_n 2, 1) := by decide +kernel
theorem dX4_shaded_38 : decode cX4_shaded 38 = .ok (.invokevirtual 106, 3) := by decide +kernel
theorem dX4_shaded_41 : decode cX4_shaded 41 = .ok (.ireturn, 1) := by decide +kernel
set_option maxRecDepth 20000 in
theorem ggX4_power_X4_isMirror : GoodIn wsX4_power wsX4_isMirror := goodIn_r _ [6, 1, 7, 8, 9, 10, 11, 12, 13, 14, 5, 15, 52, 53, 54, 55, 56, 57, 58, 59, 60, 61, 62, 63, 64, 65, 66, 67] rfl (by decide +kernel)
set_option maxRecDepth 20000 in
theorem gX4_power_X4_isMirror : GoodIn wsX4_power (wsV RX4 100 RX4 yX4_isMirror wsX4_isMirror) := goodIn_app (goodIn_of _ (by decide +kernel)) ggX4_power_X4_isMirror
set_option maxRecDepth 20000 in
theorem ggX4_power_X4_isHour : GoodIn wsX4_power wsX4_isHour := goodIn_r _ [18, 13, 14, 5, 15] rfl (by decide +kernel)
set_option maxRecDepth 20000 in
theorem gX4_power_X4_isHour : GoodIn wsX4_power (va_wsS RX4 68 yX4_isHour wsX4_isHour) := goodIn_app (goodIn_of _ (by decide +kernel)) ggX4_power_X4_isHour
set_option maxRecDepth 20000 in
theorem ggX4_power_X1_powerOf : GoodIn wsX4_power wsX1_powerOf := goodIn_r _ [22, 23, 24, 25, 26, 27, 28, 29, 30, 31, 10, 32, 33, 34, 35, 36, 37, 38, 39, 40, 41, 42, 43, 44, 45, 46, 47, 48, 49, 50, 51, 57, 58, 59, 60, 61, 62, 63, 64, 65, 66, 67] rfl (by decide +kernel)
set_option maxRecDepth 20000 in
theorem gX4_power_X1_powerOf : GoodIn wsX4_power (wsV RX4 109 RX1 yX1_powerOf wsX1_powerOf) := goodIn_app (goodIn_of _ (by decide +kernel)) ggX4_power_X1_powerOf
theorem dX4_power_0 : decode cX4_power 0 = .ok (.aload_n 0, 1) := by decide +kernel
theorem dX4_power_1 : decode cX4_power 1 = .ok (.iload_n 1, 1) := by decide +kernel
theorem dX4_power_2 : decode cX4_power 2 = .ok (.invokevirtual 100, 3) := by decide +kernel
theorem dX4_power_5 : decode cX4_power 5 = .ok (.ifCond .eq 10, 3) := by decide +kernel
theorem dX4_power_8 : decode cX4_power 8 = .ok (.iload_n 2, 1) := by decide +kernel
theorem dX4_power_9 : decode cX4_power 9 = .ok (.invokestatic 68, 3) := by decide +kernel
theorem dX4_power_12 : decode cX4_power 12 = .ok (.ifCond .ne 5, 3) := by decide +kernel
theorem dX4_power_15 : decode cX4_power 15 = .ok (.iconst (-1), 1) := by decide +kernel
theorem dX4_power_16 : decode cX4_power 16 = .ok (.ireturn, 1) := by decide +kernel
theorem dX4_power_17 : decode cX4_power 17 = .ok (.aload_n 0, 1) := by decide +kernel
theorem dX4_power_18 : decode cX4_power 18 = .ok (.getfield 10, 3) := by decide +kernel
theorem dX4_power_21 : decode cX4_power 21 = .ok (.iload_n 1, 1) := by decide +kernel
theorem dX4_power_22 : decode cX4_power 22 = .ok (.iload_n 2, 1) := by decide +kernel
theorem dX4_power_23 : decode cX4_power 23 = .ok (.iconst 0, 1) := by decide +kernel
theorem dX4_power_24 : decode cX4_power 24 = .ok (.invokevirtual 109, 3) := by decide +kernel
theorem dX4_power_27 : decode cX4_power 27 = .ok (.ireturn, 1) := by decide +kernel
set_option maxRecDepth 20000 in
theorem ggX4_stowed_X4_isHour : GoodIn wsX4_stowed wsX4_isHour := goodIn_r _ [5, 6, 7, 4, 8] rfl (by decide +kernel)
set_option maxRecDepth 20000 in
theorem gX4_stowed_X4_isHour : GoodIn wsX4_stowed (va_wsS RX4 68 yX4_isHour wsX4_isHour) := goodIn_app (goodIn_of _ (by decide +kernel)) ggX4_stowed_X4_isHour
set_option maxRecDepth 20000 in
theorem ggX4_stowed_X1_isStowed : GoodIn wsX4_stowed wsX1_isStowed := goodIn_r _ [13, 14, 20, 21, 22, 23, 24, 25, 26, 27, 28, 29, 30] rfl (by decide +kernel)
set_option maxRecDepth 20000 in
theorem gX4_stowed_X1_isStowed : GoodIn wsX4_stowed (wsV RX4 113 RX1 yX1_isStowed wsX1_isStowed) := goodIn_app (goodIn_of _ (by decide +kernel)) ggX4_stowed_X1_isStowed
theorem dX4_stowed_0 : decode cX4_stowed 0 = .ok (.iload_n 1, 1) := by decide +kernel
theorem dX4_stowed_1 : decode cX4_stowed 1 = .ok (.invokestatic 68, 3) := by decide +kernel
theorem dX4_stowed_4 : decode cX4_stowed 4 = .ok (.ifCond .ne 5, 3) := by decide +kernel
theorem dX4_stowed_7 : decode cX4_stowed 7 = .ok (.iconst (-1), 1) := by decide +kernel
theorem dX4_stowed_8 : decode cX4_stowed 8 = .ok (.ireturn, 1) := by decide +kernel
theorem dX4_stowed_9 : decode cX4_stowed 9 = .ok (.aload_n 0, 1) := by decide +kernel
theorem dX4_stowed_10 : decode cX4_stowed 10 = .ok (.getfield 10, 3) := by decide +kernel
theorem dX4_stowed_13 : decode cX4_stowed 13 = .ok (.iload_n 1, 1) := by decide +kernel
theorem dX4_stowed_14 : decode cX4_stowed 14 = .ok (.invokevirtual 113, 3) := by decide +kernel
theorem dX4_stowed_17 : decode cX4_stowed 17 = .ok (.ifCond .eq 7, 3) := by decide +kernel
theorem dX4_stowed_20 : decode cX4_stowed 20 = .ok (.iconst 1, 1) := by decide +kernel
theorem dX4_stowed_21 : decode cX4_stowed 21 = .ok (.goto 4, 3) := by decide +kernel
theorem dX4_stowed_24 : decode cX4_stowed 24 = .ok (.iconst 0, 1) := by decide +kernel
theorem dX4_stowed_25 : decode cX4_stowed 25 = .ok (.ireturn, 1) := by decide +kernel
set_option maxRecDepth 20000 in
theorem ggX4_soil_X4_isMirror : GoodIn wsX4_soil wsX4_isMirror := goodIn_r _ [6, 1, 7, 8, 9, 10, 11, 12, 13, 14, 5, 15, 26, 27, 28, 29, 30, 31, 32, 33, 34, 35, 36, 37, 38, 39, 40, 41] rfl (by decide +kernel)
set_option maxRecDepth 20000 in
theorem gX4_soil_X4_isMirror : GoodIn wsX4_soil (wsV RX4 100 RX4 yX4_isMirror wsX4_isMirror) := goodIn_app (goodIn_of _ (by decide +kernel)) ggX4_soil_X4_isMirror
set_option maxRecDepth 20000 in
theorem ggX4_soil_X1_soilOf : GoodIn wsX4_soil wsX1_soilOf := goodIn_r _ [19, 20, 21, 22, 23, 24, 25, 31, 32, 33, 34, 35, 36, 37, 38, 39, 40, 41] rfl (by decide +kernel)
set_option maxRecDepth 20000 in
theorem gX4_soil_X1_soilOf : GoodIn wsX4_soil (wsV RX4 116 RX1 yX1_soilOf wsX1_soilOf) := goodIn_app (goodIn_of _ (by decide +kernel)) ggX4_soil_X1_soilOf
theorem dX4_soil_0 : decode cX4_soil 0 = .ok (.aload_n 0, 1) := by decide +kernel
theorem dX4_soil_1 : decode cX4_soil 1 = .ok (.iload_n 1, 1) := by decide +kernel
theorem dX4_soil_2 : decode cX4_soil 2 = .ok (.invokevirtual 100, 3) := by decide +kernel
theorem dX4_soil_5 : decode cX4_soil 5 = .ok (.ifCond .eq 15, 3) := by decide +kernel
theorem dX4_soil_8 : decode cX4_soil 8 = .ok (.aload_n 0, 1) := by decide +kernel
theorem dX4_soil_9 : decode cX4_soil 9 = .ok (.getfield 10, 3) := by decide +kernel
theorem dX4_soil_12 : decode cX4_soil 12 = .ok (.iload_n 1, 1) := by decide +kernel
theorem dX4_soil_13 : decode cX4_soil 13 = .ok (.iconst 0, 1) := by decide +kernel
theorem dX4_soil_14 : decode cX4_soil 14 = .ok (.invokevirtual 116, 3) := by decide +kernel
theorem dX4_soil_17 : decode cX4_soil 17 = .ok (.goto 4, 3) := by decide +kernel
theorem dX4_soil_20 : decode cX4_soil 20 = .ok (.iconst (-1), 1) := by decide +kernel
theorem dX4_soil_21 : decode cX4_soil 21 = .ok (.ireturn, 1) := by decide +kernel
set_option maxRecDepth 20000 in
theorem ggX4_wash_X4_isWithin : GoodIn wsX4_wash wsX4_isWithin := goodIn_r _ [5] rfl (by decide +kernel)
set_option maxRecDepth 20000 in
theorem gX4_wash_X4_isWithin : GoodIn wsX4_wash (va_wsS RX4 45 yX4_isWithin wsX4_isWithin) := goodIn_app (goodIn_of _ (by decide +kernel)) ggX4_wash_X4_isWithin
set_option maxRecDepth 20000 in
theorem ggX4_wash_X4_refused : GoodIn wsX4_wash wsX4_refused := goodIn_r _ [9, 10, 30, 31, 32, 33, 34] rfl (by decide +kernel)
set_option maxRecDepth 20000 in
theorem gX4_wash_X4_refused : GoodIn wsX4_wash (wsV RX4 49 RX4 yX4_refused wsX4_refused) := goodIn_app (goodIn_of _ (by decide +kernel)) ggX4_wash_X4_refused
set_option maxRecDepth 20000 in
theorem ggX4_wash_X1_washMost : GoodIn wsX4_wash wsX1_washMost := goodIn_r _ [15, 16, 17, 18, 19, 20, 21, 22, 23, 24, 14, 25, 35, 36, 37, 38, 39, 40, 41, 42, 43, 44, 45] rfl (by decide +kernel)
set_option maxRecDepth 20000 in
theorem gX4_wash_X1_washMost : GoodIn wsX4_wash (wsV RX4 119 RX1 yX1_washMost wsX1_washMost) := goodIn_app (goodIn_of _ (by decide +kernel)) ggX4_wash_X1_washMost
set_option maxRecDepth 20000 in
theorem ggX4_wash_X4_granted : GoodIn wsX4_wash wsX4_granted := goodIn_r _ [29, 10, 30, 31, 32, 33, 34] rfl (by decide +kernel)
set_option maxRecDepth 20000 in
theorem gX4_wash_X4_granted : GoodIn wsX4_wash (wsV RX4 65 RX4 yX4_granted wsX4_granted) := goodIn_app (goodIn_of _ (by decide +kernel)) ggX4_wash_X4_granted
theorem dX4_wash_0 : decode cX4_wash 0 = .ok (.iload_n 1, 1) := by decide +kernel
theorem dX4_wash_1 : decode cX4_wash 1 = .ok (.iconst 1, 1) := by decide +kernel
theorem dX4_wash_2 : decode cX4_wash 2 = .ok (.bipush 40, 2) := by decide +kernel
theorem dX4_wash_4 : decode cX4_wash 4 = .ok (.invokestatic 45, 3) := by decide +kernel
theorem dX4_wash_7 : decode cX4_wash 7 = .ok (.ifCond .ne 9, 3) := by decide +kernel
theorem dX4_wash_10 : decode cX4_wash 10 = .ok (.aload_n 0, 1) := by decide +kernel
theorem dX4_wash_11 : decode cX4_wash 11 = .ok (.iconst 2, 1) := by decide +kernel
theorem dX4_wash_12 : decode cX4_wash 12 = .ok (.invokevirtual 49, 3) := by decide +kernel
theorem dX4_wash_15 : decode cX4_wash 15 = .ok (.ireturn, 1) := by decide +kernel
theorem dX4_wash_16 : decode cX4_wash 16 = .ok (.aload_n 0, 1) := by decide +kernel
theorem dX4_wash_17 : decode cX4_wash 17 = .ok (.aload_n 0, 1) := by decide +kernel
theorem dX4_wash_18 : decode cX4_wash 18 = .ok (.getfield 10, 3) := by decide +kernel
theorem dX4_wash_21 : decode cX4_wash 21 = .ok (.iload_n 1, 1) := by decide +kernel
theorem dX4_wash_22 : decode cX4_wash 22 = .ok (.invokevirtual 119, 3) := by decide +kernel
theorem dX4_wash_25 : decode cX4_wash 25 = .ok (.invokevirtual 65, 3) := by decide +kernel
theorem dX4_wash_28 : decode cX4_wash 28 = .ok (.ireturn, 1) := by decide +kernel
set_option maxRecDepth 20000 in
theorem ggX4_aim_X4_isHour : GoodIn wsX4_aim wsX4_isHour := goodIn_r _ [5, 6, 7, 4, 8] rfl (by decide +kernel)
set_option maxRecDepth 20000 in
theorem gX4_aim_X4_isHour : GoodIn wsX4_aim (va_wsS RX4 68 yX4_isHour wsX4_isHour) := goodIn_app (goodIn_of _ (by decide +kernel)) ggX4_aim_X4_isHour
set_option maxRecDepth 20000 in
theorem ggX4_aim_X4_refused : GoodIn wsX4_aim wsX4_refused := goodIn_r _ [12, 13, 91, 92, 93, 94, 95] rfl (by decide +kernel)
set_option maxRecDepth 20000 in
theorem gX4_aim_X4_refused : GoodIn wsX4_aim (wsV RX4 49 RX4 yX4_refused wsX4_refused) := goodIn_app (goodIn_of _ (by decide +kernel)) ggX4_aim_X4_refused
set_option maxRecDepth 20000 in
theorem ggX4_aim_X0_keepAims : GoodIn wsX4_aim wsX0_keepAims := goodIn_r _ [18, 19, 20, 21, 22, 23, 24, 25, 26, 27, 28, 29, 30, 31, 32, 17, 33, 34, 35, 36, 37, 38, 39, 40, 41, 42, 43, 44, 45, 46, 47, 48, 49, 50, 51, 52, 53, 54, 55, 56, 57, 58, 59, 60, 61, 62, 63, 64, 65, 66, 67, 68, 69, 70, 71, 72, 73, 74, 75, 76, 77, 78, 79, 80, 81, 82, 83, 84, 85, 86, 96, 97, 98, 99, 100, 101, 102, 103, 104, 105, 106, 107, 108, 109, 110, 111, 112, 113, 114, 115, 116, 117] rfl (by decide +kernel)
set_option maxRecDepth 20000 in
theorem gX4_aim_X0_keepAims : GoodIn wsX4_aim (wsV RX4 122 RX0 yX0_keepAims wsX0_keepAims) := goodIn_app (goodIn_of _ (by decide +kernel)) ggX4_aim_X0_keepAims
set_option maxRecDepth 20000 in
theorem ggX4_aim_X4_granted : GoodIn wsX4_aim wsX4_granted := goodIn_r _ [90, 13, 91, 92, 93, 94, 95] rfl (by decide +kernel)
set_option maxRecDepth 20000 in
theorem gX4_aim_X4_granted : GoodIn wsX4_aim (wsV RX4 65 RX4 yX4_granted wsX4_granted) := goodIn_app (goodIn_of _ (by decide +kernel)) ggX4_aim_X4_granted
theorem dX4_aim_0 : decode cX4_aim 0 = .ok (.iload_n 1, 1) := by decide +kernel
theorem dX4_aim_1 : decode cX4_aim 1 = .ok (.invokestatic 68, 3) := by decide +kernel
theorem dX4_aim_4 : decode cX4_aim 4 = .ok (.ifCond .ne 9, 3) := by decide +kernel
theorem dX4_aim_7 : decode cX4_aim 7 = .ok (.aload_n 0, 1) := by decide +kernel
theorem dX4_aim_8 : decode cX4_aim 8 = .ok (.iconst 2, 1) := by decide +kernel
theorem dX4_aim_9 : decode cX4_aim 9 = .ok (.invokevirtual 49, 3) := by decide +kernel
theorem dX4_aim_12 : decode cX4_aim 12 = .ok (.ireturn, 1) := by decide +kernel
theorem dX4_aim_13 : decode cX4_aim 13 = .ok (.aload_n 0, 1) := by decide +kernel
theorem dX4_aim_14 : decode cX4_aim 14 = .ok (.aload_n 0, 1) := by decide +kernel
theorem dX4_aim_15 : decode cX4_aim 15 = .ok (.getfield 21, 3) := by decide +kernel
theorem dX4_aim_18 : decode cX4_aim 18 = .ok (.iload_n 1, 1) := by decide +kernel
theorem dX4_aim_19 : decode cX4_aim 19 = .ok (.invokevirtual 122, 3) := by decide +kernel
theorem dX4_aim_22 : decode cX4_aim 22 = .ok (.invokevirtual 65, 3) := by decide +kernel
theorem dX4_aim_25 : decode cX4_aim 25 = .ok (.ireturn, 1) := by decide +kernel
set_option maxRecDepth 20000 in
theorem ggX4_aimed_X4_isMirror : GoodIn wsX4_aimed wsX4_isMirror := goodIn_r _ [6, 7, 8, 9, 10, 11, 12, 13, 14, 15, 5, 16, 24, 25, 26, 27, 28, 29, 30, 31, 32, 33, 34, 35, 36, 37, 38, 39] rfl (by decide +kernel)
set_option maxRecDepth 20000 in
theorem gX4_aimed_X4_isMirror : GoodIn wsX4_aimed (wsV RX4 100 RX4 yX4_isMirror wsX4_isMirror) := goodIn_app (goodIn_of _ (by decide +kernel)) ggX4_aimed_X4_isMirror
set_option maxRecDepth 20000 in
theorem ggX4_aimed_X0_keptCellOf : GoodIn wsX4_aimed wsX0_keptCellOf := goodIn_r _ [21, 22, 23, 40, 41, 42, 43, 44, 45, 46, 47, 48, 49, 50] rfl (by decide +kernel)
set_option maxRecDepth 20000 in
theorem gX4_aimed_X0_keptCellOf : GoodIn wsX4_aimed (wsV RX4 125 RX0 yX0_keptCellOf wsX0_keptCellOf) := goodIn_app (goodIn_of _ (by decide +kernel)) ggX4_aimed_X0_keptCellOf
theorem dX4_aimed_0 : decode cX4_aimed 0 = .ok (.aload_n 0, 1) := by decide +kernel
theorem dX4_aimed_1 : decode cX4_aimed 1 = .ok (.iload_n 1, 1) := by decide +kernel
theorem dX4_aimed_2 : decode cX4_aimed 2 = .ok (.invokevirtual 100, 3) := by decide +kernel
theorem dX4_aimed_5 : decode cX4_aimed 5 = .ok (.ifCond .eq 14, 3) := by decide +kernel
theorem dX4_aimed_8 : decode cX4_aimed 8 = .ok (.aload_n 0, 1) := by decide +kernel
theorem dX4_aimed_9 : decode cX4_aimed 9 = .ok (.getfield 21, 3) := by decide +kernel
theorem dX4_aimed_12 : decode cX4_aimed 12 = .ok (.iload_n 1, 1) := by decide +kernel
theorem dX4_aimed_13 : decode cX4_aimed 13 = .ok (.invokevirtual 125, 3) := by decide +kernel
theorem dX4_aimed_16 : decode cX4_aimed 16 = .ok (.goto 4, 3) := by decide +kernel
theorem dX4_aimed_19 : decode cX4_aimed 19 = .ok (.iconst (-1), 1) := by decide +kernel
theorem dX4_aimed_20 : decode cX4_aimed 20 = .ok (.ireturn, 1) := by decide +kernel
set_option maxRecDepth 20000 in
theorem ggX4_face_X4_isCell : GoodIn wsX4_face wsX4_isCell := goodIn_r _ [5, 6, 7, 4, 8] rfl (by decide +kernel)
set_option maxRecDepth 20000 in
theorem gX4_face_X4_isCell : GoodIn wsX4_face (va_wsS RX4 83 yX4_isCell wsX4_isCell) := goodIn_app (goodIn_of _ (by decide +kernel)) ggX4_face_X4_isCell
set_option maxRecDepth 20000 in
theorem ggX4_face_X0_keptPowerAt : GoodIn wsX4_face wsX0_keptPowerAt := goodIn_r _ [13, 14, 20, 21, 22, 23, 24, 25, 26, 27, 28, 29, 30] rfl (by decide +kernel)
set_option maxRecDepth 20000 in
theorem gX4_face_X0_keptPowerAt : GoodIn wsX4_face (wsV RX4 128 RX0 yX0_keptPowerAt wsX0_keptPowerAt) := goodIn_app (goodIn_of _ (by decide +kernel)) ggX4_face_X0_keptPowerAt
theorem dX4_face_0 : decode cX4_face 0 = .ok (.iload_n 1, 1) := by decide +kernel
theorem dX4_face_1 : decode cX4_face 1 = .ok (.invokestatic 83, 3) := by decide +kernel
theorem dX4_face_4 : decode cX4_face 4 = .ok (.ifCond .eq 14, 3) := by decide +kernel
theorem dX4_face_7 : decode cX4_face 7 = .ok (.aload_n 0, 1) := by decide +kernel
theorem dX4_face_8 : decode cX4_face 8 = .ok (.getfield 21, 3) := by decide +kernel
theorem dX4_face_11 : decode cX4_face 11 = .ok (.iload_n 1, 1) := by decide +kernel
theorem dX4_face_12 : decode cX4_face 12 = .ok (.invokevirtual 128, 3) := by decide +kernel
theorem dX4_face_15 : decode cX4_face 15 = .ok (.goto 4, 3) := by decide +kernel
theorem dX4_face_18 : decode cX4_face 18 = .ok (.iconst (-1), 1) := by decide +kernel
theorem dX4_face_19 : decode cX4_face 19 = .ok (.ireturn, 1) := by decide +kernel
set_option maxRecDepth 20000 in
theorem ggX4_best_X4_isHour : GoodIn wsX4_best wsX4_isHour := goodIn_r _ [5, 6, 7, 4, 8] rfl (by decide +kernel)
set_option maxRecDepth 20000 in
theorem gX4_best_X4_isHour : GoodIn wsX4_best (va_wsS RX4 68 yX4_isHour wsX4_isHour) := goodIn_app (goodIn_of _ (by decide +kernel)) ggX4_best_X4_isHour
set_option maxRecDepth 20000 in
theorem ggX4_best_X4_refused : GoodIn wsX4_best wsX4_refused := goodIn_r _ [12, 13, 86, 87, 88, 89, 90] rfl (by decide +kernel)
set_option maxRecDepth 20000 in
theorem gX4_best_X4_refused : GoodIn wsX4_best (wsV RX4 49 RX4 yX4_refused wsX4_refused) := goodIn_app (goodIn_of _ (by decide +kernel)) ggX4_best_X4_refused
set_option maxRecDepth 20000 in
theorem ggX4_best_X0_bestHeat : GoodIn wsX4_best wsX0_bestHeat := goodIn_r _ [18, 19, 20, 21, 22, 23, 24, 25, 26, 27, 28, 29, 30, 31, 32, 17, 33, 34, 35, 36, 37, 38, 39, 40, 41, 42, 43, 44, 45, 46, 47, 48, 49, 50, 51, 52, 53, 54, 55, 56, 57, 58, 59, 60, 61, 62, 63, 64, 65, 66, 67, 68, 69, 70, 71, 72, 73, 74, 75, 76, 77, 78, 79, 80, 81, 91, 92, 93, 94, 95, 96, 97, 98, 99, 100, 101, 102, 103, 104, 105, 106, 107, 108, 109, 110, 111, 112] rfl (by decide +kernel)
set_option maxRecDepth 20000 in
theorem gX4_best_X0_bestHeat : GoodIn wsX4_best (wsV RX4 131 RX0 yX0_bestHeat wsX0_bestHeat) := goodIn_app (goodIn_of _ (by decide +kernel)) ggX4_best_X0_bestHeat
set_option maxRecDepth 20000 in
theorem ggX4_best_X4_granted : GoodIn wsX4_best wsX4_granted := goodIn_r _ [85, 13, 86, 87, 88, 89, 90] rfl (by decide +kernel)
set_option maxRecDepth 20000 in
theorem gX4_best_X4_granted : GoodIn wsX4_best (wsV RX4 65 RX4 yX4_granted wsX4_granted) := goodIn_app (goodIn_of _ (by decide +kernel)) ggX4_best_X4_granted
theorem dX4_best_0 : decode cX4_best 0 = .ok (.iload_n 1, 1) := by decide +kernel
theorem dX4_best_1 : decode cX4_best 1 = .ok (.invokestatic 68, 3) := by decide +kernel
theorem dX4_best_4 : decode cX4_best 4 = .ok (.ifCond .ne 9, 3) := by decide +kernel
theorem dX4_best_7 : decode cX4_best 7 = .ok (.aload_n 0, 1) := by decide +kernel
theorem dX4_best_8 : decode cX4_best 8 = .ok (.iconst 2, 1) := by decide +kernel
theorem dX4_best_9 : decode cX4_best 9 = .ok (.invokevirtual 49, 3) := by decide +kernel
theorem dX4_best_12 : decode cX4_best 12 = .ok (.ireturn, 1) := by decide +kernel
theorem dX4_best_13 : decode cX4_best 13 = .ok (.aload_n 0, 1) := by decide +kernel
theorem dX4_best_14 : decode cX4_best 14 = .ok (.aload_n 0, 1) := by decide +kernel
theorem dX4_best_15 : decode cX4_best 15 = .ok (.getfield 21, 3) := by decide +kernel
theorem dX4_best_18 : decode cX4_best 18 = .ok (.iload_n 1, 1) := by decide +kernel
theorem dX4_best_19 : decode cX4_best 19 = .ok (.invokevirtual 131, 3) := by decide +kernel
theorem dX4_best_22 : decode cX4_best 22 = .ok (.invokevirtual 65, 3) := by decide +kernel
theorem dX4_best_25 : decode cX4_best 25 = .ok (.ireturn, 1) := by decide +kernel
set_option maxRecDepth 20000 in
theorem ggX4_comes_X3_hourNow : GoodIn wsX4_comes wsX3_hourNow := goodIn_r _ [7, 8, 84, 85, 86, 87, 88, 89, 90, 91, 92, 93, 94, 95, 96, 97] rfl (by decide +kernel)
set_option maxRecDepth 20000 in
theorem gX4_comes_X3_hourNow : GoodIn wsX4_comes (wsV RX4 134 RX3 yX3_hourNow wsX3_hourNow) := goodIn_app (goodIn_of _ (by decide +kernel)) ggX4_comes_X3_hourNow
set_option maxRecDepth 20000 in
theorem ggX4_comes_X4_isWithin : GoodIn wsX4_comes wsX4_isWithin := goodIn_r _ [12] rfl (by decide +kernel)
set_option maxRecDepth 20000 in
theorem gX4_comes_X4_isWithin : GoodIn wsX4_comes (va_wsS RX4 45 yX4_isWithin wsX4_isWithin) := goodIn_app (goodIn_of _ (by decide +kernel)) ggX4_comes_X4_isWithin
set_option maxRecDepth 20000 in
theorem ggX4_comes_X0_aimAll : GoodIn wsX4_comes wsX0_aimAll := goodIn_r _ [17, 18, 19, 20, 21, 22, 23, 24, 25, 26, 27, 28, 29, 30, 16, 31, 32, 33, 34, 35, 36, 37, 38, 39, 40, 41, 42, 43, 44, 45, 46, 47, 48, 49, 50, 51, 52, 53, 54, 55, 56, 57, 58, 59, 60, 61, 62, 63, 64, 65, 66, 67, 68, 69, 70, 71, 72, 73, 74, 75, 76, 77, 78, 98, 99, 100, 101, 102, 103, 104, 105, 106, 107, 108, 109, 110, 111, 112, 113, 114, 115, 116, 117, 118, 119] rfl (by decide +kernel)
set_option maxRecDepth 20000 in
theorem gX4_comes_X0_aimAll : GoodIn wsX4_comes (wsV RX4 137 RX0 yX0_aimAll wsX0_aimAll) := goodIn_app (goodIn_of _ (by decide +kernel)) ggX4_comes_X0_aimAll
theorem dX4_comes_0 : decode cX4_comes 0 = .ok (.aload_n 0, 1) := by decide +kernel
theorem dX4_comes_1 : decode cX4_comes 1 = .ok (.getfield 30, 3) := by decide +kernel
theorem dX4_comes_4 : decode cX4_comes 4 = .ok (.invokevirtual 134, 3) := by decide +kernel
theorem dX4_comes_7 : decode cX4_comes 7 = .ok (.istore_n 2, 1) := by decide +kernel
theorem dX4_comes_8 : decode cX4_comes 8 = .ok (.iload_n 1, 1) := by decide +kernel
theorem dX4_comes_9 : decode cX4_comes 9 = .ok (.iload_n 2, 1) := by decide +kernel
theorem dX4_comes_10 : decode cX4_comes 10 = .ok (.bipush 23, 2) := by decide +kernel
theorem dX4_comes_12 : decode cX4_comes 12 = .ok (.invokestatic 45, 3) := by decide +kernel
theorem dX4_comes_15 : decode cX4_comes 15 = .ok (.ifCond .ne 5, 3) := by decide +kernel
theorem dX4_comes_18 : decode cX4_comes 18 = .ok (.iconst (-1), 1) := by decide +kernel
theorem dX4_comes_19 : decode cX4_comes 19 = .ok (.ireturn, 1) := by decide +kernel
theorem dX4_comes_20 : decode cX4_comes 20 = .ok (.aload_n 0, 1) := by decide +kernel
theorem dX4_comes_21 : decode cX4_comes 21 = .ok (.getfield 21, 3) := by decide +kernel
theorem dX4_comes_24 : decode cX4_comes 24 = .ok (.iload_n 1, 1) := by decide +kernel
theorem dX4_comes_25 : decode cX4_comes 25 = .ok (.iload_n 1, 1) := by decide +kernel
theorem dX4_comes_26 : decode cX4_comes 26 = .ok (.iload_n 2, 1) := by decide +kernel
theorem dX4_comes_27 : decode cX4_comes 27 = .ok (.isub, 1) := by decide +kernel
theorem dX4_comes_28 : decode cX4_comes 28 = .ok (.invokevirtual 137, 3) := by decide +kernel
theorem dX4_comes_31 : decode cX4_comes 31 = .ok (.ireturn, 1) := by decide +kernel
set_option maxRecDepth 20000 in
theorem ggX4_plan_X3_layPlan : GoodIn wsX4_plan wsX3_layPlan := goodIn_r _ [6, 7, 8, 9, 10, 11, 12, 13, 14, 15, 5, 16, 17, 18, 19, 20, 21, 22, 23, 24, 25, 26, 27, 28, 29, 30, 31, 32, 33, 34, 35, 36, 37, 38, 39, 40, 41, 42, 43, 44, 45, 46, 47, 48, 49, 50, 51, 52, 53, 54, 55, 56, 57, 58, 59, 60, 61, 62, 63, 64, 65, 66, 67, 68, 69, 70, 71, 72, 73, 74, 75, 76, 77, 78, 79, 80, 81, 82, 83, 84, 85, 86, 87, 88, 89, 90, 91, 92, 93, 94, 95, 96, 97, 98, 99, 100, 101, 102, 103, 104, 105, 106, 107, 108, 109, 110, 111, 112, 113, 114, 115, 116, 117, 118, 124, 125, 126, 127, 128, 129, 130, 131, 132, 133, 134, 135, 136, 137, 138, 139, 140, 141, 142, 143, 144, 145, 146, 147, 148, 149, 150, 151, 152, 153, 154, 155, 156, 157, 158, 159] rfl (by decide +kernel)
set_option maxRecDepth 20000 in
theorem gX4_plan_X3_layPlan : GoodIn wsX4_plan (wsV RX4 140 RX3 yX3_layPlan wsX3_layPlan) := goodIn_app (goodIn_of _ (by decide +kernel)) ggX4_plan_X3_layPlan
theorem dX4_plan_0 : decode cX4_plan 0 = .ok (.aload_n 0, 1) := by decide +kernel
theorem dX4_plan_1 : decode cX4_plan 1 = .ok (.getfield 30, 3) := by decide +kernel
theorem dX4_plan_4 : decode cX4_plan 4 = .ok (.invokevirtual 140, 3) := by decide +kernel
theorem dX4_plan_7 : decode cX4_plan 7 = .ok (.ireturn, 1) := by decide +kernel
set_option maxRecDepth 20000 in
theorem ggX4_runs_X4_isHour : GoodIn wsX4_runs wsX4_isHour := goodIn_r _ [5, 6, 7, 4, 8] rfl (by decide +kernel)
set_option maxRecDepth 20000 in
theorem gX4_runs_X4_isHour : GoodIn wsX4_runs (va_wsS RX4 68 yX4_isHour wsX4_isHour) := goodIn_app (goodIn_of _ (by decide +kernel)) ggX4_runs_X4_isHour
set_option maxRecDepth 20000 in
theorem ggX4_runs_X3_plannedRun : GoodIn wsX4_runs wsX3_plannedRun := goodIn_r _ [13, 14, 15, 21, 22, 23, 24, 25, 26, 27, 28, 29, 30, 31, 32, 33, 34] rfl (by decide +kernel)
set_option maxRecDepth 20000 in
theorem gX4_runs_X3_plannedRun : GoodIn wsX4_runs (wsV RX4 143 RX3 yX3_plannedRun wsX3_plannedRun) := goodIn_app (goodIn_of _ (by decide +kernel)) ggX4_runs_X3_plannedRun
theorem dX4_runs_0 : decode cX4_runs 0 = .ok (.iload_n 1, 1) := by decide +kernel
theorem dX4_runs_1 : decode cX4_runs 1 = .ok (.invokestatic 68, 3) := by decide +kernel
theorem dX4_runs_4 : decode cX4_runs 4 = .ok (.ifCond .eq 14, 3) := by decide +kernel
theorem dX4_runs_7 : decode cX4_runs 7 = .ok (.aload_n 0, 1) := by decide +kernel
theorem dX4_runs_8 : decode cX4_runs 8 = .ok (.getfield 30, 3) := by decide +kernel
theorem dX4_runs_11 : decode cX4_runs 11 = .ok (.iload_n 1, 1) := by decide +kernel
theorem dX4_runs_12 : decode cX4_runs 12 = .ok (.invokevirtual 143, 3) := by decide +kernel
theorem dX4_runs_15 : decode cX4_runs 15 = .ok (.goto 4, 3) := by decide +kernel
theorem dX4_runs_18 : decode cX4_runs 18 = .ok (.iconst (-1), 1) := by decide +kernel
theorem dX4_runs_19 : decode cX4_runs 19 = .ok (.ireturn, 1) := by decide +kernel
set_option maxRecDepth 20000 in
theorem ggX4_step_X3_passHour : GoodIn wsX4_step wsX3_passHour := goodIn_r _ [6, 7, 8, 9, 10, 11, 12, 13, 14, 15, 16, 17, 18, 19, 20, 21, 22, 23, 24, 25, 26, 27, 28, 29, 30, 31, 32, 33, 34, 35, 36, 37, 38, 39, 40, 41, 42, 43, 44, 45, 46, 47, 48, 49, 50, 51, 52, 53, 54, 55, 56, 57, 58, 59, 60, 61, 62, 63, 64, 65, 66, 67, 68, 69, 70, 71, 72, 73, 74, 75, 76, 77, 78, 79, 80, 5, 81, 82, 83, 84, 85, 86, 87, 88, 89, 90, 91, 92, 93, 94, 110, 111, 112, 113, 114, 115, 116, 117, 118, 119, 120, 121, 122, 123, 124, 125, 126, 127, 128, 129, 130, 131, 132, 133, 134, 135, 136, 137, 138, 139, 140, 141, 142, 143, 144, 145] rfl (by decide +kernel)
set_option maxRecDepth 20000 in
theorem gX4_step_X3_passHour : GoodIn wsX4_step (wsV RX4 146 RX3 yX3_passHour wsX3_passHour) := goodIn_app (goodIn_of _ (by decide +kernel)) ggX4_step_X3_passHour
set_option maxRecDepth 20000 in
theorem ggX4_step_X4_refused : GoodIn wsX4_step wsX4_refused := goodIn_r _ [99, 100, 105, 106, 107, 108, 109] rfl (by decide +kernel)
set_option maxRecDepth 20000 in
theorem gX4_step_X4_refused : GoodIn wsX4_step (wsV RX4 49 RX4 yX4_refused wsX4_refused) := goodIn_app (goodIn_of _ (by decide +kernel)) ggX4_step_X4_refused
set_option maxRecDepth 20000 in
theorem ggX4_step_X4_granted : GoodIn wsX4_step wsX4_granted := goodIn_r _ [104, 100, 105, 106, 107, 108, 109] rfl (by decide +kernel)
set_option maxRecDepth 20000 in
theorem gX4_step_X4_granted : GoodIn wsX4_step (wsV RX4 65 RX4 yX4_granted wsX4_granted) := goodIn_app (goodIn_of _ (by decide +kernel)) ggX4_step_X4_granted
theorem dX4_step_0 : decode cX4_step 0 = .ok (.aload_n 0, 1) := by decide +kernel
theorem dX4_step_1 : decode cX4_step 1 = .ok (.getfield 30, 3) := by decide +kernel
theorem dX4_step_4 : decode cX4_step 4 = .ok (.iload_n 1, 1) := by decide +kernel
theorem dX4_step_5 : decode cX4_step 5 = .ok (.invokevirtual 146, 3) := by decide +kernel
theorem dX4_step_8 : decode cX4_step 8 = .ok (.istore_n 2, 1) := by decide +kernel
theorem dX4_step_9 : decode cX4_step 9 = .ok (.iload_n 2, 1) := by decide +kernel
theorem dX4_step_10 : decode cX4_step 10 = .ok (.iconst (-1), 1) := by decide +kernel
theorem dX4_step_11 : decode cX4_step 11 = .ok (.if_icmp .ne 11, 3) := by decide +kernel
theorem dX4_step_14 : decode cX4_step 14 = .ok (.aload_n 0, 1) := by decide +kernel
theorem dX4_step_15 : decode cX4_step 15 = .ok (.iconst 2, 1) := by decide +kernel
theorem dX4_step_16 : decode cX4_step 16 = .ok (.invokevirtual 49, 3) := by decide +kernel
theorem dX4_step_19 : decode cX4_step 19 = .ok (.goto 8, 3) := by decide +kernel
theorem dX4_step_22 : decode cX4_step 22 = .ok (.aload_n 0, 1) := by decide +kernel
theorem dX4_step_23 : decode cX4_step 23 = .ok (.iload_n 2, 1) := by decide +kernel
theorem dX4_step_24 : decode cX4_step 24 = .ok (.invokevirtual 65, 3) := by decide +kernel
theorem dX4_step_27 : decode cX4_step 27 = .ok (.ireturn, 1) := by decide +kernel
set_option maxRecDepth 20000 in
theorem ggX4_earned_X3_earnedInAll : GoodIn wsX4_earned wsX3_earnedInAll := goodIn_r _ [6, 7, 13, 14, 15, 16, 17, 18, 19, 20, 21, 22, 23, 24, 25, 26] rfl (by decide +kernel)
set_option maxRecDepth 20000 in
theorem gX4_earned_X3_earnedInAll : GoodIn wsX4_earned (wsV RX4 150 RX3 yX3_earnedInAll wsX3_earnedInAll) := goodIn_app (goodIn_of _ (by decide +kernel)) ggX4_earned_X3_earnedInAll
theorem dX4_earned_0 : decode cX4_earned 0 = .ok (.aload_n 0, 1) := by decide +kernel
theorem dX4_earned_1 : decode cX4_earned 1 = .ok (.getfield 30, 3) := by decide +kernel
theorem dX4_earned_4 : decode cX4_earned 4 = .ok (.invokevirtual 150, 3) := by decide +kernel
theorem dX4_earned_7 : decode cX4_earned 7 = .ok (.ireturn, 1) := by decide +kernel
set_option maxRecDepth 20000 in
theorem ggX4_shot_J13_bitCount_95d88 : GoodIn wsX4_shot wsJ13_bitCount_95d88 := goodIn_r _ [11, 12, 13, 14] rfl (by decide +kernel)
set_option maxRecDepth 20000 in
theorem gX4_shot_J13_bitCount_95d88 : GoodIn wsX4_shot (va_wsS RX4 155 yJ13_bitCount_95d88 wsJ13_bitCount_95d88) := goodIn_app (goodIn_of _ (by decide +kernel)) ggX4_shot_J13_bitCount_95d88
set_option maxRecDepth 20000 in
theorem ggX4_shot_X4_isWithin : GoodIn wsX4_shot wsX4_isWithin := goodIn_r _ [18] rfl (by decide +kernel)
set_option maxRecDepth 20000 in
theorem gX4_shot_X4_isWithin : GoodIn wsX4_shot (va_wsS RX4 45 yX4_isWithin wsX4_isWithin) := goodIn_app (goodIn_of _ (by decide +kernel)) ggX4_shot_X4_isWithin
set_option maxRecDepth 20000 in
theorem ggX4_shot_X4_refused : GoodIn wsX4_shot wsX4_refused := goodIn_r _ [22, 23, 48, 49, 50, 51, 52] rfl (by decide +kernel)
set_option maxRecDepth 20000 in
theorem gX4_shot_X4_refused : GoodIn wsX4_shot (wsV RX4 49 RX4 yX4_refused wsX4_refused) := goodIn_app (goodIn_of _ (by decide +kernel)) ggX4_shot_X4_refused
set_option maxRecDepth 20000 in
theorem ggX4_shot_X1_size : GoodIn wsX4_shot wsX1_size := goodIn_r _ [28, 29, 53, 54, 55, 56, 57, 58, 59, 60, 61, 62, 63] rfl (by decide +kernel)
set_option maxRecDepth 20000 in
theorem gX4_shot_X1_size : GoodIn wsX4_shot (wsV RX4 57 RX1 yX1_size wsX1_size) := goodIn_app (goodIn_of _ (by decide +kernel)) ggX4_shot_X1_size
set_option maxRecDepth 20000 in
theorem ggX4_shot_X2_size : GoodIn wsX4_shot wsX2_size := goodIn_r _ [34, 35, 64, 65, 66, 67, 68] rfl (by decide +kernel)
set_option maxRecDepth 20000 in
theorem gX4_shot_X2_size : GoodIn wsX4_shot (wsV RX4 166 RX2 yX2_size wsX2_size) := goodIn_app (goodIn_of _ (by decide +kernel)) ggX4_shot_X2_size
set_option maxRecDepth 20000 in
theorem ggX4_shot_X2_note : GoodIn wsX4_shot wsX2_note := goodIn_r _ [39, 35, 40, 41, 42, 3, 4, 5, 43, 9, 10, 11, 12, 13, 14, 64, 65, 66, 67, 68] rfl (by decide +kernel)
set_option maxRecDepth 20000 in
theorem gX4_shot_X2_note : GoodIn wsX4_shot (wsV RX4 167 RX2 yX2_note wsX2_note) := goodIn_app (goodIn_of _ (by decide +kernel)) ggX4_shot_X2_note
set_option maxRecDepth 20000 in
theorem ggX4_shot_X4_granted : GoodIn wsX4_shot wsX4_granted := goodIn_r _ [47, 23, 48, 49, 50, 51, 52] rfl (by decide +kernel)
set_option maxRecDepth 20000 in
theorem gX4_shot_X4_granted : GoodIn wsX4_shot (wsV RX4 65 RX4 yX4_granted wsX4_granted) := goodIn_app (goodIn_of _ (by decide +kernel)) ggX4_shot_X4_granted
theorem dX4_shot_0 : decode cX4_shot 0 = .ok (.iload_n 2, 1) := by decide +kernel
theorem dX4_shot_1 : decode cX4_shot 1 = .ok (.i2l, 1) := by decide +kernel
theorem dX4_shot_2 : decode cX4_shot 2 = .ok (.bipush 32, 2) := by decide +kernel
theorem dX4_shot_4 : decode cX4_shot 4 = .ok (.lshl, 1) := by decide +kernel
theorem dX4_shot_5 : decode cX4_shot 5 = .ok (.iload_n 1, 1) := by decide +kernel
theorem dX4_shot_6 : decode cX4_shot 6 = .ok (.i2l, 1) := by decide +kernel
theorem dX4_shot_7 : decode cX4_shot 7 = .ok (.ldc2_w 153, 3) := by decide +kernel
theorem dX4_shot_10 : decode cX4_shot 10 = .ok (.land, 1) := by decide +kernel
theorem dX4_shot_11 : decode cX4_shot 11 = .ok (.lor, 1) := by decide +kernel
theorem dX4_shot_12 : decode cX4_shot 12 = .ok (.lstore 4, 2) := by decide +kernel
theorem dX4_shot_14 : decode cX4_shot 14 = .ok (.iload_n 3, 1) := by decide +kernel
theorem dX4_shot_15 : decode cX4_shot 15 = .ok (.iconst 0, 1) := by decide +kernel
theorem dX4_shot_16 : decode cX4_shot 16 = .ok (.bipush 40, 2) := by decide +kernel
theorem dX4_shot_18 : decode cX4_shot 18 = .ok (.lload 4, 2) := by decide +kernel
theorem dX4_shot_20 : decode cX4_shot 20 = .ok (.invokestatic 155, 3) := by decide +kernel
theorem dX4_shot_23 : decode cX4_shot 23 = .ok (.invokestatic 161, 3) := by decide +kernel
theorem dX4_shot_26 : decode cX4_shot 26 = .ok (.invokestatic 45, 3) := by decide +kernel
theorem dX4_shot_29 : decode cX4_shot 29 = .ok (.ifCond .ne 9, 3) := by decide +kernel
theorem dX4_shot_32 : decode cX4_shot 32 = .ok (.aload_n 0, 1) := by decide +kernel
theorem dX4_shot_33 : decode cX4_shot 33 = .ok (.iconst 2, 1) := by decide +kernel
theorem dX4_shot_34 : decode cX4_shot 34 = .ok (.invokevirtual 49, 3) := by decide +kernel
theorem dX4_shot_37 : decode cX4_shot 37 = .ok (.ireturn, 1) := by decide +kernel
theorem dX4_shot_38 : decode cX4_shot 38 = .ok (.lload 4, 2) := by decide +kernel
theorem dX4_shot_40 : decode cX4_shot 40 = .ok (.lconst 0, 1) := by decide +kernel
theorem dX4_shot_41 : decode cX4_shot 41 = .ok (.lcmp, 1) := by decide +kernel
theorem dX4_shot_42 : decode cX4_shot 42 = .ok (.ifCond .eq 18, 3) := by decide +kernel
theorem dX4_shot_45 : decode cX4_shot 45 = .ok (.lload 4, 2) := by decide +kernel
theorem dX4_shot_47 : decode cX4_shot 47 = .ok (.aload_n 0, 1) := by decide +kernel
theorem dX4_shot_48 : decode cX4_shot 48 = .ok (.getfield 10, 3) := by decide +kernel
theorem dX4_shot_51 : decode cX4_shot 51 = .ok (.invokevirtual 57, 3) := by decide +kernel
theorem dX4_shot_54 : decode cX4_shot 54 = .ok (.lushr, 1) := by decide +kernel
theorem dX4_shot_55 : decode cX4_shot 55 = .ok (.lconst 0, 1) := by decide +kernel
theorem dX4_shot_56 : decode cX4_shot 56 = .ok (.lcmp, 1) := by decide +kernel
theorem dX4_shot_57 : decode cX4_shot 57 = .ok (.ifCond .eq 9, 3) := by decide +kernel
theorem dX4_shot_60 : decode cX4_shot 60 = .ok (.aload_n 0, 1) := by decide +kernel
theorem dX4_shot_61 : decode cX4_shot 61 = .ok (.iconst 4, 1) := by decide +kernel
theorem dX4_shot_62 : decode cX4_shot 62 = .ok (.invokevirtual 49, 3) := by decide +kernel
theorem dX4_shot_65 : decode cX4_shot 65 = .ok (.ireturn, 1) := by decide +kernel
theorem dX4_shot_66 : decode cX4_shot 66 = .ok (.aload_n 0, 1) := by decide +kernel
theorem dX4_shot_67 : decode cX4_shot 67 = .ok (.getfield 37, 3) := by decide +kernel
theorem dX4_shot_70 : decode cX4_shot 70 = .ok (.invokevirtual 166, 3) := by decide +kernel
theorem dX4_shot_73 : decode cX4_shot 73 = .ok (.bipush 12, 2) := by decide +kernel
theorem dX4_shot_75 : decode cX4_shot 75 = .ok (.if_icmp .lt 9, 3) := by decide +kernel
theorem dX4_shot_78 : decode cX4_shot 78 = .ok (.aload_n 0, 1) := by decide +kernel
theorem dX4_shot_79 : decode cX4_shot 79 = .ok (.iconst 3, 1) := by decide +kernel
theorem dX4_shot_80 : decode cX4_shot 80 = .ok (.invokevirtual 49, 3) := by decide +kernel
theorem dX4_shot_83 : decode cX4_shot 83 = .ok (.ireturn, 1) := by decide +kernel
theorem dX4_shot_84 : decode cX4_shot 84 = .ok (.aload_n 0, 1) := by decide +kernel
theorem dX4_shot_85 : decode cX4_shot 85 = .ok (.aload_n 0, 1) := by decide +kernel
theorem dX4_shot_86 : decode cX4_shot 86 = .ok (.getfield 37, 3) := by decide +kernel
theorem dX4_shot_89 : decode cX4_shot 89 = .ok (.lload 4, 2) := by decide +kernel
theorem dX4_shot_91 : decode cX4_shot 91 = .ok (.iload_n 3, 1) := by decide +kernel
theorem dX4_shot_92 : decode cX4_shot 92 = .ok (.invokevirtual 167, 3) := by decide +kernel
theorem dX4_shot_95 : decode cX4_shot 95 = .ok (.invokevirtual 65, 3) := by decide +kernel
theorem dX4_shot_98 : decode cX4_shot 98 = .ok (.ireturn, 1) := by decide +kernel
set_option maxRecDepth 20000 in
theorem ggX4_forget_X2_drop : GoodIn wsX4_forget wsX2_drop := goodIn_r _ [6, 7, 8, 9, 10, 11, 12, 13, 19, 20, 21, 22, 23] rfl (by decide +kernel)
set_option maxRecDepth 20000 in
theorem gX4_forget_X2_drop : GoodIn wsX4_forget (wsV RX4 171 RX2 yX2_drop wsX2_drop) := goodIn_app (goodIn_of _ (by decide +kernel)) ggX4_forget_X2_drop
theorem dX4_forget_0 : decode cX4_forget 0 = .ok (.aload_n 0, 1) := by decide +kernel
theorem dX4_forget_1 : decode cX4_forget 1 = .ok (.getfield 37, 3) := by decide +kernel
theorem dX4_forget_4 : decode cX4_forget 4 = .ok (.invokevirtual 171, 3) := by decide +kernel
theorem dX4_forget_7 : decode cX4_forget 7 = .ok (.ireturn, 1) := by decide +kernel
set_option maxRecDepth 20000 in
theorem ggX4_agree_X1_size : GoodIn wsX4_agree wsX1_size := goodIn_r _ [7, 8, 31, 32, 33, 34, 35, 36, 37, 38, 39, 40, 41] rfl (by decide +kernel)
set_option maxRecDepth 20000 in
theorem gX4_agree_X1_size : GoodIn wsX4_agree (wsV RX4 57 RX1 yX1_size wsX1_size) := goodIn_app (goodIn_of _ (by decide +kernel)) ggX4_agree_X1_size
set_option maxRecDepth 20000 in
theorem ggX4_agree_X2_setsOf : GoodIn wsX4_agree wsX2_setsOf := goodIn_r _ [13, 14, 15, 16, 17, 12, 18, 19, 20, 21, 22, 23, 24, 25, 42, 43, 44, 45, 46] rfl (by decide +kernel)
set_option maxRecDepth 20000 in
theorem gX4_agree_X2_setsOf : GoodIn wsX4_agree (wsV RX4 174 RX2 yX2_setsOf wsX2_setsOf) := goodIn_app (goodIn_of _ (by decide +kernel)) ggX4_agree_X2_setsOf
theorem dX4_agree_0 : decode cX4_agree 0 = .ok (.aload_n 0, 1) := by decide +kernel
theorem dX4_agree_1 : decode cX4_agree 1 = .ok (.getfield 37, 3) := by decide +kernel
theorem dX4_agree_4 : decode cX4_agree 4 = .ok (.aload_n 0, 1) := by decide +kernel
theorem dX4_agree_5 : decode cX4_agree 5 = .ok (.getfield 10, 3) := by decide +kernel
theorem dX4_agree_8 : decode cX4_agree 8 = .ok (.invokevirtual 57, 3) := by decide +kernel
theorem dX4_agree_11 : decode cX4_agree 11 = .ok (.invokevirtual 174, 3) := by decide +kernel
theorem dX4_agree_14 : decode cX4_agree 14 = .ok (.ireturn, 1) := by decide +kernel
set_option maxRecDepth 20000 in
theorem ggX4_stuck_X4_isMirror : GoodIn wsX4_stuck wsX4_isMirror := goodIn_r _ [7, 2, 8, 9, 10, 11, 12, 13, 14, 15, 6, 16, 38, 39, 40, 41, 42, 43, 44, 45, 46, 47, 48, 49, 50, 51, 52, 53] rfl (by decide +kernel)
set_option maxRecDepth 20000 in
theorem gX4_stuck_X4_isMirror : GoodIn wsX4_stuck (wsV RX4 100 RX4 yX4_isMirror wsX4_isMirror) := goodIn_app (goodIn_of _ (by decide +kernel)) ggX4_stuck_X4_isMirror
set_option maxRecDepth 20000 in
theorem ggX4_stuck_X1_size : GoodIn wsX4_stuck wsX1_size := goodIn_r _ [12, 13, 43, 44, 45, 46, 47, 48, 49, 50, 51, 52, 53] rfl (by decide +kernel)
set_option maxRecDepth 20000 in
theorem gX4_stuck_X1_size : GoodIn wsX4_stuck (wsV RX4 57 RX1 yX1_size wsX1_size) := goodIn_app (goodIn_of _ (by decide +kernel)) ggX4_stuck_X1_size
set_option maxRecDepth 20000 in
theorem ggX4_stuck_X2_verdictOn : GoodIn wsX4_stuck wsX2_verdictOn := goodIn_r _ [21, 22, 23, 24, 25, 20, 26, 27, 28, 29, 30, 31, 32, 33, 34, 35, 36, 37, 54, 55, 56, 57, 58] rfl (by decide +kernel)
set_option maxRecDepth 20000 in
theorem gX4_stuck_X2_verdictOn : GoodIn wsX4_stuck (wsV RX4 177 RX2 yX2_verdictOn wsX2_verdictOn) := goodIn_app (goodIn_of _ (by decide +kernel)) ggX4_stuck_X2_verdictOn
theorem dX4_stuck_0 : decode cX4_stuck 0 = .ok (.aload_n 0, 1) := by decide +kernel
theorem dX4_stuck_1 : decode cX4_stuck 1 = .ok (.iload_n 1, 1) := by decide +kernel
theorem dX4_stuck_2 : decode cX4_stuck 2 = .ok (.invokevirtual 100, 3) := by decide +kernel
theorem dX4_stuck_5 : decode cX4_stuck 5 = .ok (.ifCond .eq 21, 3) := by decide +kernel
theorem dX4_stuck_8 : decode cX4_stuck 8 = .ok (.aload_n 0, 1) := by decide +kernel
theorem dX4_stuck_9 : decode cX4_stuck 9 = .ok (.getfield 37, 3) := by decide +kernel
theorem dX4_stuck_12 : decode cX4_stuck 12 = .ok (.iload_n 1, 1) := by decide +kernel
theorem dX4_stuck_13 : decode cX4_stuck 13 = .ok (.aload_n 0, 1) := by decide +kernel
theorem dX4_stuck_14 : decode cX4_stuck 14 = .ok (.getfield 10, 3) := by decide +kernel
theorem dX4_stuck_17 : decode cX4_stuck 17 = .ok (.invokevirtual 57, 3) := by decide +kernel
theorem dX4_stuck_20 : decode cX4_stuck 20 = .ok (.invokevirtual 177, 3) := by decide +kernel
theorem dX4_stuck_23 : decode cX4_stuck 23 = .ok (.goto 4, 3) := by decide +kernel
theorem dX4_stuck_26 : decode cX4_stuck 26 = .ok (.iconst (-1), 1) := by decide +kernel
theorem dX4_stuck_27 : decode cX4_stuck 27 = .ok (.ireturn, 1) := by decide +kernel
set_option maxRecDepth 20000 in
theorem ggX4_unsure_X1_size : GoodIn wsX4_unsure wsX1_size := goodIn_r _ [7, 8, 35, 36, 37, 38, 39, 40, 41, 42, 43, 44, 45] rfl (by decide +kernel)
set_option maxRecDepth 20000 in
theorem gX4_unsure_X1_size : GoodIn wsX4_unsure (wsV RX4 57 RX1 yX1_size wsX1_size) := goodIn_app (goodIn_of _ (by decide +kernel)) ggX4_unsure_X1_size
set_option maxRecDepth 20000 in
theorem ggX4_unsure_X2_unsureOf : GoodIn wsX4_unsure wsX2_unsureOf := goodIn_r _ [13, 14, 15, 16, 12, 17, 18, 19, 20, 21, 22, 23, 24, 25, 26, 27, 28, 29, 46, 47, 48, 49, 50] rfl (by decide +kernel)
set_option maxRecDepth 20000 in
theorem gX4_unsure_X2_unsureOf : GoodIn wsX4_unsure (wsV RX4 180 RX2 yX2_unsureOf wsX2_unsureOf) := goodIn_app (goodIn_of _ (by decide +kernel)) ggX4_unsure_X2_unsureOf
theorem dX4_unsure_0 : decode cX4_unsure 0 = .ok (.aload_n 0, 1) := by decide +kernel
theorem dX4_unsure_1 : decode cX4_unsure 1 = .ok (.getfield 37, 3) := by decide +kernel
theorem dX4_unsure_4 : decode cX4_unsure 4 = .ok (.aload_n 0, 1) := by decide +kernel
theorem dX4_unsure_5 : decode cX4_unsure 5 = .ok (.getfield 10, 3) := by decide +kernel
theorem dX4_unsure_8 : decode cX4_unsure 8 = .ok (.invokevirtual 57, 3) := by decide +kernel
theorem dX4_unsure_11 : decode cX4_unsure 11 = .ok (.invokevirtual 180, 3) := by decide +kernel
theorem dX4_unsure_14 : decode cX4_unsure 14 = .ok (.ireturn, 1) := by decide +kernel
set_option maxRecDepth 20000 in
theorem ggX4_count_X1_size : GoodIn wsX4_count wsX1_size := goodIn_r _ [8, 9, 42, 43, 44, 45, 46, 47, 48, 49, 50, 51, 52] rfl (by decide +kernel)
set_option maxRecDepth 20000 in
theorem gX4_count_X1_size : GoodIn wsX4_count (wsV RX4 57 RX1 yX1_size wsX1_size) := goodIn_app (goodIn_of _ (by decide +kernel)) ggX4_count_X1_size
set_option maxRecDepth 20000 in
theorem ggX4_count_X3_hourNow : GoodIn wsX4_count wsX3_hourNow := goodIn_r _ [14, 15, 53, 54, 55, 56, 57, 58, 59, 60, 61, 62, 63, 64, 65, 66] rfl (by decide +kernel)
set_option maxRecDepth 20000 in
theorem gX4_count_X3_hourNow : GoodIn wsX4_count (wsV RX4 134 RX3 yX3_hourNow wsX3_hourNow) := goodIn_app (goodIn_of _ (by decide +kernel)) ggX4_count_X3_hourNow
set_option maxRecDepth 20000 in
theorem ggX4_count_X3_unitsHeld : GoodIn wsX4_count wsX3_unitsHeld := goodIn_r _ [19, 20, 53, 54, 55, 56, 57, 58, 59, 60, 61, 62, 63, 64, 65, 66] rfl (by decide +kernel)
set_option maxRecDepth 20000 in
theorem gX4_count_X3_unitsHeld : GoodIn wsX4_count (wsV RX4 183 RX3 yX3_unitsHeld wsX3_unitsHeld) := goodIn_app (goodIn_of _ (by decide +kernel)) ggX4_count_X3_unitsHeld
set_option maxRecDepth 20000 in
theorem ggX4_count_X3_isWarm : GoodIn wsX4_count wsX3_isWarm := goodIn_r _ [24, 25, 53, 54, 55, 56, 57, 58, 59, 60, 61, 62, 63, 64, 65, 66] rfl (by decide +kernel)
set_option maxRecDepth 20000 in
theorem gX4_count_X3_isWarm : GoodIn wsX4_count (wsV RX4 186 RX3 yX3_isWarm wsX3_isWarm) := goodIn_app (goodIn_of _ (by decide +kernel)) ggX4_count_X3_isWarm
set_option maxRecDepth 20000 in
theorem ggX4_count_X2_size : GoodIn wsX4_count wsX2_size := goodIn_r _ [30, 31, 67, 68, 69, 70, 71] rfl (by decide +kernel)
set_option maxRecDepth 20000 in
theorem gX4_count_X2_size : GoodIn wsX4_count (wsV RX4 166 RX2 yX2_size wsX2_size) := goodIn_app (goodIn_of _ (by decide +kernel)) ggX4_count_X2_size
set_option maxRecDepth 20000 in
theorem ggX4_count_X1_soilInAll : GoodIn wsX4_count wsX1_soilInAll := goodIn_r _ [35, 9, 36, 42, 43, 44, 45, 46, 47, 48, 49, 50, 51, 52] rfl (by decide +kernel)
set_option maxRecDepth 20000 in
theorem gX4_count_X1_soilInAll : GoodIn wsX4_count (wsV RX4 189 RX1 yX1_soilInAll wsX1_soilInAll) := goodIn_app (goodIn_of _ (by decide +kernel)) ggX4_count_X1_soilInAll
theorem dX4_count_0 : decode cX4_count 0 = .ok (.iload_n 1, 1) := by decide +kernel
theorem dX4_count_1 : decode cX4_count 1 = .ok (.tableswitch 95 0 5 #[39, 47, 55, 63, 79, 87], 39) := by decide +kernel
theorem dX4_count_40 : decode cX4_count 40 = .ok (.aload_n 0, 1) := by decide +kernel
theorem dX4_count_41 : decode cX4_count 41 = .ok (.getfield 10, 3) := by decide +kernel
theorem dX4_count_44 : decode cX4_count 44 = .ok (.invokevirtual 57, 3) := by decide +kernel
theorem dX4_count_47 : decode cX4_count 47 = .ok (.ireturn, 1) := by decide +kernel
theorem dX4_count_48 : decode cX4_count 48 = .ok (.aload_n 0, 1) := by decide +kernel
theorem dX4_count_49 : decode cX4_count 49 = .ok (.getfield 30, 3) := by decide +kernel
theorem dX4_count_52 : decode cX4_count 52 = .ok (.invokevirtual 134, 3) := by decide +kernel
theorem dX4_count_55 : decode cX4_count 55 = .ok (.ireturn, 1) := by decide +kernel
theorem dX4_count_56 : decode cX4_count 56 = .ok (.aload_n 0, 1) := by decide +kernel
theorem dX4_count_57 : decode cX4_count 57 = .ok (.getfield 30, 3) := by decide +kernel
theorem dX4_count_60 : decode cX4_count 60 = .ok (.invokevirtual 183, 3) := by decide +kernel
theorem dX4_count_63 : decode cX4_count 63 = .ok (.ireturn, 1) := by decide +kernel
theorem dX4_count_64 : decode cX4_count 64 = .ok (.aload_n 0, 1) := by decide +kernel
theorem dX4_count_65 : decode cX4_count 65 = .ok (.getfield 30, 3) := by decide +kernel
theorem dX4_count_68 : decode cX4_count 68 = .ok (.invokevirtual 186, 3) := by decide +kernel
theorem dX4_count_71 : decode cX4_count 71 = .ok (.ifCond .eq 7, 3) := by decide +kernel
theorem dX4_count_74 : decode cX4_count 74 = .ok (.iconst 1, 1) := by decide +kernel
theorem dX4_count_75 : decode cX4_count 75 = .ok (.goto 4, 3) := by decide +kernel
theorem dX4_count_78 : decode cX4_count 78 = .ok (.iconst 0, 1) := by decide +kernel
theorem dX4_count_79 : decode cX4_count 79 = .ok (.ireturn, 1) := by decide +kernel
theorem dX4_count_80 : decode cX4_count 80 = .ok (.aload_n 0, 1) := by decide +kernel
theorem dX4_count_81 : decode cX4_count 81 = .ok (.getfield 37, 3) := by decide +kernel
theorem dX4_count_84 : decode cX4_count 84 = .ok (.invokevirtual 166, 3) := by decide +kernel
theorem dX4_count_87 : decode cX4_count 87 = .ok (.ireturn, 1) := by decide +kernel
theorem dX4_count_88 : decode cX4_count 88 = .ok (.aload_n 0, 1) := by decide +kernel
theorem dX4_count_89 : decode cX4_count 89 = .ok (.getfield 10, 3) := by decide +kernel
theorem dX4_count_92 : decode cX4_count 92 = .ok (.invokevirtual 189, 3) := by decide +kernel
theorem dX4_count_95 : decode cX4_count 95 = .ok (.ireturn, 1) := by decide +kernel
theorem dX4_count_96 : decode cX4_count 96 = .ok (.iconst (-1), 1) := by decide +kernel
theorem dX4_count_97 : decode cX4_count 97 = .ok (.ireturn, 1) := by decide +kernel
theorem dX4_trouble_0 : decode cX4_trouble 0 = .ok (.aload_n 0, 1) := by decide +kernel
theorem dX4_trouble_1 : decode cX4_trouble 1 = .ok (.getfield 41, 3) := by decide +kernel
theorem dX4_trouble_4 : decode cX4_trouble 4 = .ok (.ireturn, 1) := by decide +kernel
set_option maxRecDepth 20000 in
theorem ggX4_isMirror_X1_size : GoodIn wsX4_isMirror wsX1_size := goodIn_r _ [6, 7, 17, 18, 19, 20, 21, 22, 23, 24, 25, 26, 27] rfl (by decide +kernel)
set_option maxRecDepth 20000 in
theorem gX4_isMirror_X1_size : GoodIn wsX4_isMirror (wsV RX4 57 RX1 yX1_size wsX1_size) := goodIn_app (goodIn_of _ (by decide +kernel)) ggX4_isMirror_X1_size
set_option maxRecDepth 20000 in
theorem ggX4_isMirror_X4_isWithin : GoodIn wsX4_isMirror wsX4_isWithin := goodIn_r _ [11] rfl (by decide +kernel)
set_option maxRecDepth 20000 in
theorem gX4_isMirror_X4_isWithin : GoodIn wsX4_isMirror (va_wsS RX4 45 yX4_isWithin wsX4_isWithin) := goodIn_app (goodIn_of _ (by decide +kernel)) ggX4_isMirror_X4_isWithin
theorem dX4_isMirror_0 : decode cX4_isMirror 0 = .ok (.iload_n 1, 1) := by decide +kernel
theorem dX4_isMirror_1 : decode cX4_isMirror 1 = .ok (.iconst 0, 1) := by decide +kernel
theorem dX4_isMirror_2 : decode cX4_isMirror 2 = .ok (.aload_n 0, 1) := by decide +kernel
theorem dX4_isMirror_3 : decode cX4_isMirror 3 = .ok (.getfield 10, 3) := by decide +kernel
theorem dX4_isMirror_6 : decode cX4_isMirror 6 = .ok (.invokevirtual 57, 3) := by decide +kernel
theorem dX4_isMirror_9 : decode cX4_isMirror 9 = .ok (.iconst 1, 1) := by decide +kernel
theorem dX4_isMirror_10 : decode cX4_isMirror 10 = .ok (.isub, 1) := by decide +kernel
theorem dX4_isMirror_11 : decode cX4_isMirror 11 = .ok (.invokestatic 45, 3) := by decide +kernel
theorem dX4_isMirror_14 : decode cX4_isMirror 14 = .ok (.ireturn, 1) := by decide +kernel
set_option maxRecDepth 20000 in
theorem ggX4_isHour_X4_isWithin : GoodIn wsX4_isHour wsX4_isWithin := goodIn_r _ [4] rfl (by decide +kernel)
set_option maxRecDepth 20000 in
theorem gX4_isHour_X4_isWithin : GoodIn wsX4_isHour (va_wsS RX4 45 yX4_isWithin wsX4_isWithin) := goodIn_app (goodIn_of _ (by decide +kernel)) ggX4_isHour_X4_isWithin
theorem dX4_isHour_0 : decode cX4_isHour 0 = .ok (.iload_n 0, 1) := by decide +kernel
theorem dX4_isHour_1 : decode cX4_isHour 1 = .ok (.iconst 0, 1) := by decide +kernel
theorem dX4_isHour_2 : decode cX4_isHour 2 = .ok (.bipush 23, 2) := by decide +kernel
theorem dX4_isHour_4 : decode cX4_isHour 4 = .ok (.invokestatic 45, 3) := by decide +kernel
theorem dX4_isHour_7 : decode cX4_isHour 7 = .ok (.ireturn, 1) := by decide +kernel
set_option maxRecDepth 20000 in
theorem ggX4_isCell_X4_isWithin : GoodIn wsX4_isCell wsX4_isWithin := goodIn_r _ [4] rfl (by decide +kernel)
set_option maxRecDepth 20000 in
theorem gX4_isCell_X4_isWithin : GoodIn wsX4_isCell (va_wsS RX4 45 yX4_isWithin wsX4_isWithin) := goodIn_app (goodIn_of _ (by decide +kernel)) ggX4_isCell_X4_isWithin
theorem dX4_isCell_0 : decode cX4_isCell 0 = .ok (.iload_n 0, 1) := by decide +kernel
theorem dX4_isCell_1 : decode cX4_isCell 1 = .ok (.iconst 0, 1) := by decide +kernel
theorem dX4_isCell_2 : decode cX4_isCell 2 = .ok (.iconst 3, 1) := by decide +kernel
theorem dX4_isCell_3 : decode cX4_isCell 3 = .ok (.invokestatic 45, 3) := by decide +kernel
theorem dX4_isCell_6 : decode cX4_isCell 6 = .ok (.ireturn, 1) := by decide +kernel
theorem dX4_isWithin_0 : decode cX4_isWithin 0 = .ok (.iload_n 0, 1) := by decide +kernel
theorem dX4_isWithin_1 : decode cX4_isWithin 1 = .ok (.iload_n 1, 1) := by decide +kernel
theorem dX4_isWithin_2 : decode cX4_isWithin 2 = .ok (.if_icmp .lt 12, 3) := by decide +kernel
theorem dX4_isWithin_5 : decode cX4_isWithin 5 = .ok (.iload_n 0, 1) := by decide +kernel
theorem dX4_isWithin_6 : decode cX4_isWithin 6 = .ok (.iload_n 2, 1) := by decide +kernel
theorem dX4_isWithin_7 : decode cX4_isWithin 7 = .ok (.if_icmp .gt 7, 3) := by decide +kernel
end
section
theorem dX4_isWithin_10 : decode cX4_isWithin 10 = .ok (.iconst 1, 1) := by decide +kernel
theorem dX4_isWithin_11 : decode cX4_isWithin 11 = .ok (.goto 4, 3) := by decide +kernel
theorem dX4_isWithin_14 : decode cX4_isWithin 14 = .ok (.iconst 0, 1) := by decide +kernel
theorem dX4_isWithin_15 : decode cX4_isWithin 15 = .ok (.ireturn, 1) := by decide +kernel
theorem dX4_granted_0 : decode cX4_granted 0 = .ok (.aload_n 0, 1) := by decide +kernel
theorem dX4_granted_1 : decode cX4_granted 1 = .ok (.iconst 0, 1) := by decide +kernel
theorem dX4_granted_2 : decode cX4_granted 2 = .ok (.putfield 41, 3) := by decide +kernel
theorem dX4_granted_5 : decode cX4_granted 5 = .ok (.iload_n 1, 1) := by decide +kernel
theorem dX4_granted_6 : decode cX4_granted 6 = .ok (.ireturn, 1) := by decide +kernel
theorem dX4_refused_0 : decode cX4_refused 0 = .ok (.aload_n 0, 1) := by decide +kernel
theorem dX4_refused_1 : decode cX4_refused 1 = .ok (.iload_n 1, 1) := by decide +kernel
theorem dX4_refused_2 : decode cX4_refused 2 = .ok (.putfield 41, 3) := by decide +kernel
theorem dX4_refused_5 : decode cX4_refused 5 = .ok (.iconst (-1), 1) := by decide +kernel
theorem dX4_refused_6 : decode cX4_refused 6 = .ok (.ireturn, 1) := by decide +kernel
theorem dX4_allowed_0 : decode cX4_allowed 0 = .ok (.aload_n 0, 1) := by decide +kernel
theorem dX4_allowed_1 : decode cX4_allowed 1 = .ok (.iconst 0, 1) := by decide +kernel
theorem dX4_allowed_2 : decode cX4_allowed 2 = .ok (.putfield 41, 3) := by decide +kernel
theorem dX4_allowed_5 : decode cX4_allowed 5 = .ok (.iconst 1, 1) := by decide +kernel
theorem dX4_allowed_6 : decode cX4_allowed 6 = .ok (.ireturn, 1) := by decide +kernel
theorem dX4_denied_0 : decode cX4_denied 0 = .ok (.aload_n 0, 1) := by decide +kernel
theorem dX4_denied_1 : decode cX4_denied 1 = .ok (.iload_n 1, 1) := by decide +kernel
theorem dX4_denied_2 : decode cX4_denied 2 = .ok (.putfield 41, 3) := by decide +kernel
theorem dX4_denied_5 : decode cX4_denied 5 = .ok (.iconst 0, 1) := by decide +kernel
theorem dX4_denied_6 : decode cX4_denied 6 = .ok (.ireturn, 1) := by decide +kernel
theorem dX5_refused_0 : decode cX5_refused 0 = .ok (.aload_n 0, 1) := by decide +kernel
theorem dX5_refused_1 : decode cX5_refused 1 = .ok (.iload_n 1, 1) := by decide +kernel
theorem dX5_refused_2 : decode cX5_refused 2 = .ok (.putfield 7, 3) := by decide +kernel
theorem dX5_refused_5 : decode cX5_refused 5 = .ok (.iconst (-1), 1) := by decide +kernel
theorem dX5_refused_6 : decode cX5_refused 6 = .ok (.ireturn, 1) := by decide +kernel
theorem dX5_denied_0 : decode cX5_denied 0 = .ok (.aload_n 0, 1) := by decide +kernel
theorem dX5_denied_1 : decode cX5_denied 1 = .ok (.iload_n 1, 1) := by decide +kernel
theorem dX5_denied_2 : decode cX5_denied 2 = .ok (.putfield 7, 3) := by decide +kernel
theorem dX5_denied_5 : decode cX5_denied 5 = .ok (.iconst 0, 1) := by decide +kernel
theorem dX5_denied_6 : decode cX5_denied 6 = .ok (.ireturn, 1) := by decide +kernel
theorem dX5_done_0 : decode cX5_done 0 = .ok (.aload_n 0, 1) := by decide +kernel
theorem dX5_done_1 : decode cX5_done 1 = .ok (.iconst 0, 1) := by decide +kernel
theorem dX5_done_2 : decode cX5_done 2 = .ok (.putfield 7, 3) := by decide +kernel
theorem dX5_done_5 : decode cX5_done 5 = .ok (.iload_n 1, 1) := by decide +kernel
theorem dX5_done_6 : decode cX5_done 6 = .ok (.ireturn, 1) := by decide +kernel
theorem dX5_granted_0 : decode cX5_granted 0 = .ok (.aload_n 0, 1) := by decide +kernel
theorem dX5_granted_1 : decode cX5_granted 1 = .ok (.iconst 0, 1) := by decide +kernel
theorem dX5_granted_2 : decode cX5_granted 2 = .ok (.putfield 7, 3) := by decide +kernel
theorem dX5_granted_5 : decode cX5_granted 5 = .ok (.iconst 1, 1) := by decide +kernel
theorem dX5_granted_6 : decode cX5_granted 6 = .ok (.ireturn, 1) := by decide +kernel
theorem dX5_in_0 : decode cX5_in 0 = .ok (.iload_n 0, 1) := by decide +kernel
theorem dX5_in_1 : decode cX5_in 1 = .ok (.iload_n 1, 1) := by decide +kernel
theorem dX5_in_2 : decode cX5_in 2 = .ok (.if_icmp .lt 12, 3) := by decide +kernel
theorem dX5_in_5 : decode cX5_in 5 = .ok (.iload_n 0, 1) := by decide +kernel
theorem dX5_in_6 : decode cX5_in 6 = .ok (.iload_n 2, 1) := by decide +kernel
theorem dX5_in_7 : decode cX5_in 7 = .ok (.if_icmp .gt 7, 3) := by decide +kernel
theorem dX5_in_10 : decode cX5_in 10 = .ok (.iconst 1, 1) := by decide +kernel
theorem dX5_in_11 : decode cX5_in 11 = .ok (.goto 4, 3) := by decide +kernel
theorem dX5_in_14 : decode cX5_in 14 = .ok (.iconst 0, 1) := by decide +kernel
theorem dX5_in_15 : decode cX5_in 15 = .ok (.ireturn, 1) := by decide +kernel
theorem dX5_init_0 : decode cX5_init 0 = .ok (.aload_n 0, 1) := by decide +kernel
theorem dX5_init_1 : decode cX5_init 1 = .ok (.invokespecial 10, 3) := by decide +kernel
theorem dX5_init_4 : decode cX5_init 4 = .ok (.aload_n 0, 1) := by decide +kernel
theorem dX5_init_5 : decode cX5_init 5 = .ok (.iconst 1, 1) := by decide +kernel
theorem dX5_init_6 : decode cX5_init 6 = .ok (.putfield 16, 3) := by decide +kernel
theorem dX5_init_9 : decode cX5_init 9 = .ok (.aload_n 0, 1) := by decide +kernel
theorem dX5_init_10 : decode cX5_init 10 = .ok (.bipush 40, 2) := by decide +kernel
theorem dX5_init_12 : decode cX5_init 12 = .ok (.newarray .int, 2) := by decide +kernel
theorem dX5_init_14 : decode cX5_init 14 = .ok (.putfield 19, 3) := by decide +kernel
theorem dX5_init_17 : decode cX5_init 17 = .ok (.aload_n 0, 1) := by decide +kernel
theorem dX5_init_18 : decode cX5_init 18 = .ok (.bipush 40, 2) := by decide +kernel
theorem dX5_init_20 : decode cX5_init 20 = .ok (.newarray .int, 2) := by decide +kernel
theorem dX5_init_22 : decode cX5_init 22 = .ok (.putfield 23, 3) := by decide +kernel
theorem dX5_init_25 : decode cX5_init 25 = .ok (.aload_n 0, 1) := by decide +kernel
theorem dX5_init_26 : decode cX5_init 26 = .ok (.bipush 40, 2) := by decide +kernel
theorem dX5_init_28 : decode cX5_init 28 = .ok (.newarray .int, 2) := by decide +kernel
theorem dX5_init_30 : decode cX5_init 30 = .ok (.putfield 26, 3) := by decide +kernel
theorem dX5_init_33 : decode cX5_init 33 = .ok (.aload_n 0, 1) := by decide +kernel
theorem dX5_init_34 : decode cX5_init 34 = .ok (.iconst 4, 1) := by decide +kernel
theorem dX5_init_35 : decode cX5_init 35 = .ok (.newarray .int, 2) := by decide +kernel
theorem dX5_init_37 : decode cX5_init 37 = .ok (.putfield 29, 3) := by decide +kernel
theorem dX5_init_40 : decode cX5_init 40 = .ok (.aload_n 0, 1) := by decide +kernel
theorem dX5_init_41 : decode cX5_init 41 = .ok (.bipush 24, 2) := by decide +kernel
theorem dX5_init_43 : decode cX5_init 43 = .ok (.newarray .int, 2) := by decide +kernel
theorem dX5_init_45 : decode cX5_init 45 = .ok (.putfield 32, 3) := by decide +kernel
theorem dX5_init_48 : decode cX5_init 48 = .ok (.aload_n 0, 1) := by decide +kernel
theorem dX5_init_49 : decode cX5_init 49 = .ok (.bipush 24, 2) := by decide +kernel
theorem dX5_init_51 : decode cX5_init 51 = .ok (.newarray .int, 2) := by decide +kernel
theorem dX5_init_53 : decode cX5_init 53 = .ok (.putfield 35, 3) := by decide +kernel
theorem dX5_init_56 : decode cX5_init 56 = .ok (.aload_n 0, 1) := by decide +kernel
theorem dX5_init_57 : decode cX5_init 57 = .ok (.bipush 24, 2) := by decide +kernel
theorem dX5_init_59 : decode cX5_init 59 = .ok (.newarray .int, 2) := by decide +kernel
theorem dX5_init_61 : decode cX5_init 61 = .ok (.putfield 38, 3) := by decide +kernel
theorem dX5_init_64 : decode cX5_init 64 = .ok (.aload_n 0, 1) := by decide +kernel
theorem dX5_init_65 : decode cX5_init 65 = .ok (.bipush 24, 2) := by decide +kernel
theorem dX5_init_67 : decode cX5_init 67 = .ok (.newarray .int, 2) := by decide +kernel
theorem dX5_init_69 : decode cX5_init 69 = .ok (.putfield 41, 3) := by decide +kernel
theorem dX5_init_72 : decode cX5_init 72 = .ok (.aload_n 0, 1) := by decide +kernel
theorem dX5_init_73 : decode cX5_init 73 = .ok (.bipush 24, 2) := by decide +kernel
theorem dX5_init_75 : decode cX5_init 75 = .ok (.newarray .int, 2) := by decide +kernel
theorem dX5_init_77 : decode cX5_init 77 = .ok (.putfield 44, 3) := by decide +kernel
theorem dX5_init_80 : decode cX5_init 80 = .ok (.aload_n 0, 1) := by decide +kernel
theorem dX5_init_81 : decode cX5_init 81 = .ok (.bipush 40, 2) := by decide +kernel
theorem dX5_init_83 : decode cX5_init 83 = .ok (.newarray .int, 2) := by decide +kernel
theorem dX5_init_85 : decode cX5_init 85 = .ok (.putfield 47, 3) := by decide +kernel
theorem dX5_init_88 : decode cX5_init 88 = .ok (.aload_n 0, 1) := by decide +kernel
theorem dX5_init_89 : decode cX5_init 89 = .ok (.bipush 40, 2) := by decide +kernel
theorem dX5_init_91 : decode cX5_init 91 = .ok (.newarray .int, 2) := by decide +kernel
theorem dX5_init_93 : decode cX5_init 93 = .ok (.putfield 50, 3) := by decide +kernel
theorem dX5_init_96 : decode cX5_init 96 = .ok (.aload_n 0, 1) := by decide +kernel
theorem dX5_init_97 : decode cX5_init 97 = .ok (.iconst 4, 1) := by decide +kernel
theorem dX5_init_98 : decode cX5_init 98 = .ok (.newarray .int, 2) := by decide +kernel
theorem dX5_init_100 : decode cX5_init 100 = .ok (.putfield 53, 3) := by decide +kernel
theorem dX5_init_103 : decode cX5_init 103 = .ok (.aload_n 0, 1) := by decide +kernel
theorem dX5_init_104 : decode cX5_init 104 = .ok (.bipush 40, 2) := by decide +kernel
theorem dX5_init_106 : decode cX5_init 106 = .ok (.newarray .int, 2) := by decide +kernel
theorem dX5_init_108 : decode cX5_init 108 = .ok (.putfield 56, 3) := by decide +kernel
theorem dX5_init_111 : decode cX5_init 111 = .ok (.aload_n 0, 1) := by decide +kernel
theorem dX5_init_112 : decode cX5_init 112 = .ok (.bipush 40, 2) := by decide +kernel
theorem dX5_init_114 : decode cX5_init 114 = .ok (.newarray .int, 2) := by decide +kernel
theorem dX5_init_116 : decode cX5_init 116 = .ok (.putfield 59, 3) := by decide +kernel
theorem dX5_init_119 : decode cX5_init 119 = .ok (.aload_n 0, 1) := by decide +kernel
theorem dX5_init_120 : decode cX5_init 120 = .ok (.iconst 4, 1) := by decide +kernel
theorem dX5_init_121 : decode cX5_init 121 = .ok (.newarray .int, 2) := by decide +kernel
theorem dX5_init_123 : decode cX5_init 123 = .ok (.putfield 62, 3) := by decide +kernel
theorem dX5_init_126 : decode cX5_init 126 = .ok (.aload_n 0, 1) := by decide +kernel
theorem dX5_init_127 : decode cX5_init 127 = .ok (.iconst (-1), 1) := by decide +kernel
theorem dX5_init_128 : decode cX5_init 128 = .ok (.putfield 65, 3) := by decide +kernel
theorem dX5_init_131 : decode cX5_init 131 = .ok (.aload_n 0, 1) := by decide +kernel
theorem dX5_init_132 : decode cX5_init 132 = .ok (.sipush 10050, 3) := by decide +kernel
theorem dX5_init_135 : decode cX5_init 135 = .ok (.newarray .int, 2) := by decide +kernel
theorem dX5_init_137 : decode cX5_init 137 = .ok (.putfield 68, 3) := by decide +kernel
theorem dX5_init_140 : decode cX5_init 140 = .ok (.aload_n 0, 1) := by decide +kernel
theorem dX5_init_141 : decode cX5_init 141 = .ok (.bipush 24, 2) := by decide +kernel
theorem dX5_init_143 : decode cX5_init 143 = .ok (.newarray .boolean, 2) := by decide +kernel
theorem dX5_init_145 : decode cX5_init 145 = .ok (.putfield 71, 3) := by decide +kernel
theorem dX5_init_148 : decode cX5_init 148 = .ok (.aload_n 0, 1) := by decide +kernel
theorem dX5_init_149 : decode cX5_init 149 = .ok (.bipush 24, 2) := by decide +kernel
theorem dX5_init_151 : decode cX5_init 151 = .ok (.putfield 75, 3) := by decide +kernel
theorem dX5_init_154 : decode cX5_init 154 = .ok (.aload_n 0, 1) := by decide +kernel
theorem dX5_init_155 : decode cX5_init 155 = .ok (.bipush 24, 2) := by decide +kernel
theorem dX5_init_157 : decode cX5_init 157 = .ok (.newarray .int, 2) := by decide +kernel
theorem dX5_init_159 : decode cX5_init 159 = .ok (.putfield 78, 3) := by decide +kernel
theorem dX5_init_162 : decode cX5_init 162 = .ok (.aload_n 0, 1) := by decide +kernel
theorem dX5_init_163 : decode cX5_init 163 = .ok (.bipush 12, 2) := by decide +kernel
theorem dX5_init_165 : decode cX5_init 165 = .ok (.newarray .long, 2) := by decide +kernel
theorem dX5_init_167 : decode cX5_init 167 = .ok (.putfield 81, 3) := by decide +kernel
theorem dX5_init_170 : decode cX5_init 170 = .ok (.aload_n 0, 1) := by decide +kernel
theorem dX5_init_171 : decode cX5_init 171 = .ok (.bipush 12, 2) := by decide +kernel
theorem dX5_init_173 : decode cX5_init 173 = .ok (.newarray .int, 2) := by decide +kernel
theorem dX5_init_175 : decode cX5_init 175 = .ok (.putfield 85, 3) := by decide +kernel
theorem dX5_init_178 : decode cX5_init 178 = .ok (.aload_n 0, 1) := by decide +kernel
theorem dX5_init_179 : decode cX5_init 179 = .ok (.bipush 40, 2) := by decide +kernel
theorem dX5_init_181 : decode cX5_init 181 = .ok (.newarray .int, 2) := by decide +kernel
theorem dX5_init_183 : decode cX5_init 183 = .ok (.putfield 88, 3) := by decide +kernel
theorem dX5_init_186 : decode cX5_init 186 = .ok (.iconst 0, 1) := by decide +kernel
theorem dX5_init_187 : decode cX5_init 187 = .ok (.istore_n 1, 1) := by decide +kernel
theorem dX5_init_188 : decode cX5_init 188 = .ok (.iload_n 1, 1) := by decide +kernel
theorem dX5_init_189 : decode cX5_init 189 = .ok (.iconst 4, 1) := by decide +kernel
theorem dX5_init_190 : decode cX5_init 190 = .ok (.if_icmp .ge 18, 3) := by decide +kernel
theorem dX5_init_193 : decode cX5_init 193 = .ok (.aload_n 0, 1) := by decide +kernel
theorem dX5_init_194 : decode cX5_init 194 = .ok (.getfield 29, 3) := by decide +kernel
theorem dX5_init_197 : decode cX5_init 197 = .ok (.iload_n 1, 1) := by decide +kernel
theorem dX5_init_198 : decode cX5_init 198 = .ok (.sipush 500, 3) := by decide +kernel
theorem dX5_init_201 : decode cX5_init 201 = .ok (.iastore, 1) := by decide +kernel
theorem dX5_init_202 : decode cX5_init 202 = .ok (.iinc 1 1, 3) := by decide +kernel
theorem dX5_init_205 : decode cX5_init 205 = .ok (.goto (-17), 3) := by decide +kernel
theorem dX5_init_208 : decode cX5_init 208 = .ok (.iconst 0, 1) := by decide +kernel
theorem dX5_init_209 : decode cX5_init 209 = .ok (.istore_n 1, 1) := by decide +kernel
theorem dX5_init_210 : decode cX5_init 210 = .ok (.iload_n 1, 1) := by decide +kernel
theorem dX5_init_211 : decode cX5_init 211 = .ok (.bipush 24, 2) := by decide +kernel
theorem dX5_init_213 : decode cX5_init 213 = .ok (.if_icmp .ge 17, 3) := by decide +kernel
theorem dX5_init_216 : decode cX5_init 216 = .ok (.aload_n 0, 1) := by decide +kernel
theorem dX5_init_217 : decode cX5_init 217 = .ok (.getfield 44, 3) := by decide +kernel
theorem dX5_init_220 : decode cX5_init 220 = .ok (.iload_n 1, 1) := by decide +kernel
theorem dX5_init_221 : decode cX5_init 221 = .ok (.bipush 10, 2) := by decide +kernel
theorem dX5_init_223 : decode cX5_init 223 = .ok (.iastore, 1) := by decide +kernel
theorem dX5_init_224 : decode cX5_init 224 = .ok (.iinc 1 1, 3) := by decide +kernel
theorem dX5_init_227 : decode cX5_init 227 = .ok (.goto (-17), 3) := by decide +kernel
theorem dX5_init_230 : decode cX5_init 230 = .ok (.return_, 1) := by decide +kernel
theorem dX5_isMirror_0 : decode cX5_isMirror 0 = .ok (.iload_n 1, 1) := by decide +kernel
theorem dX5_isMirror_1 : decode cX5_isMirror 1 = .ok (.ifCond .lt 15, 3) := by decide +kernel
theorem dX5_isMirror_4 : decode cX5_isMirror 4 = .ok (.iload_n 1, 1) := by decide +kernel
theorem dX5_isMirror_5 : decode cX5_isMirror 5 = .ok (.aload_n 0, 1) := by decide +kernel
theorem dX5_isMirror_6 : decode cX5_isMirror 6 = .ok (.getfield 91, 3) := by decide +kernel
theorem dX5_isMirror_9 : decode cX5_isMirror 9 = .ok (.if_icmp .ge 7, 3) := by decide +kernel
theorem dX5_isMirror_12 : decode cX5_isMirror 12 = .ok (.iconst 1, 1) := by decide +kernel
theorem dX5_isMirror_13 : decode cX5_isMirror 13 = .ok (.goto 4, 3) := by decide +kernel
theorem dX5_isMirror_16 : decode cX5_isMirror 16 = .ok (.iconst 0, 1) := by decide +kernel
theorem dX5_isMirror_17 : decode cX5_isMirror 17 = .ok (.ireturn, 1) := by decide +kernel
theorem dX5_isHour_0 : decode cX5_isHour 0 = .ok (.iload_n 0, 1) := by decide +kernel
theorem dX5_isHour_1 : decode cX5_isHour 1 = .ok (.ifCond .lt 13, 3) := by decide +kernel
theorem dX5_isHour_4 : decode cX5_isHour 4 = .ok (.iload_n 0, 1) := by decide +kernel
theorem dX5_isHour_5 : decode cX5_isHour 5 = .ok (.bipush 24, 2) := by decide +kernel
theorem dX5_isHour_7 : decode cX5_isHour 7 = .ok (.if_icmp .ge 7, 3) := by decide +kernel
theorem dX5_isHour_10 : decode cX5_isHour 10 = .ok (.iconst 1, 1) := by decide +kernel
theorem dX5_isHour_11 : decode cX5_isHour 11 = .ok (.goto 4, 3) := by decide +kernel
theorem dX5_isHour_14 : decode cX5_isHour 14 = .ok (.iconst 0, 1) := by decide +kernel
theorem dX5_isHour_15 : decode cX5_isHour 15 = .ok (.ireturn, 1) := by decide +kernel
set_option maxRecDepth 20000 in
theorem ggX5_mirror_X5_in : GoodIn wsX5_mirror wsX5_in := goodIn_r _ [8] rfl (by decide +kernel)
set_option maxRecDepth 20000 in
theorem gX5_mirror_X5_in : GoodIn wsX5_mirror (va_wsS RX5 94 yX5_in wsX5_in) := goodIn_app (goodIn_of _ (by decide +kernel)) ggX5_mirror_X5_in
set_option maxRecDepth 20000 in
theorem ggX5_mirror_X5_refused : GoodIn wsX5_mirror wsX5_refused := goodIn_r _ [12, 13, 18, 19, 20, 21, 22, 23, 24, 25, 26, 27, 28, 29, 30, 31, 32, 33, 34, 35, 36, 37, 38, 39, 40, 41, 42, 43, 44, 45, 46, 47, 48, 49, 50] rfl (by decide +kernel)
set_option maxRecDepth 20000 in
theorem gX5_mirror_X5_refused : GoodIn wsX5_mirror (wsV RX5 98 RX5 yX5_refused wsX5_refused) := goodIn_app (goodIn_of _ (by decide +kernel)) ggX5_mirror_X5_refused
set_option maxRecDepth 20000 in
theorem ggX5_mirror_X5_done : GoodIn wsX5_mirror wsX5_done := goodIn_r _ [17, 13, 18, 19, 20, 21, 22, 23, 24, 25, 26, 27, 28, 29, 30, 31, 32, 33, 34, 35, 36, 37, 38, 39, 40, 41, 42, 43, 44, 45, 46, 47, 48, 49, 50] rfl (by decide +kernel)
set_option maxRecDepth 20000 in
theorem gX5_mirror_X5_done : GoodIn wsX5_mirror (wsV RX5 102 RX5 yX5_done wsX5_done) := goodIn_app (goodIn_of _ (by decide +kernel)) ggX5_mirror_X5_done
theorem dX5_mirror_0 : decode cX5_mirror 0 = .ok (.aload_n 0, 1) := by decide +kernel
theorem dX5_mirror_1 : decode cX5_mirror 1 = .ok (.iconst 0, 1) := by decide +kernel
theorem dX5_mirror_2 : decode cX5_mirror 2 = .ok (.putfield 1, 3) := by decide +kernel
theorem dX5_mirror_5 : decode cX5_mirror 5 = .ok (.iload_n 1, 1) := by decide +kernel
theorem dX5_mirror_6 : decode cX5_mirror 6 = .ok (.iconst 0, 1) := by decide +kernel
theorem dX5_mirror_7 : decode cX5_mirror 7 = .ok (.bipush 14, 2) := by decide +kernel
theorem dX5_mirror_9 : decode cX5_mirror 9 = .ok (.invokestatic 94, 3) := by decide +kernel
theorem dX5_mirror_12 : decode cX5_mirror 12 = .ok (.ifCond .eq 13, 3) := by decide +kernel
theorem dX5_mirror_15 : decode cX5_mirror 15 = .ok (.iload_n 2, 1) := by decide +kernel
theorem dX5_mirror_16 : decode cX5_mirror 16 = .ok (.iconst 0, 1) := by decide +kernel
theorem dX5_mirror_17 : decode cX5_mirror 17 = .ok (.bipush 14, 2) := by decide +kernel
theorem dX5_mirror_19 : decode cX5_mirror 19 = .ok (.invokestatic 94, 3) := by decide +kernel
theorem dX5_mirror_22 : decode cX5_mirror 22 = .ok (.ifCond .ne 9, 3) := by decide +kernel
theorem dX5_mirror_25 : decode cX5_mirror 25 = .ok (.aload_n 0, 1) := by decide +kernel
theorem dX5_mirror_26 : decode cX5_mirror 26 = .ok (.iconst 2, 1) := by decide +kernel
theorem dX5_mirror_27 : decode cX5_mirror 27 = .ok (.invokevirtual 98, 3) := by decide +kernel
theorem dX5_mirror_30 : decode cX5_mirror 30 = .ok (.ireturn, 1) := by decide +kernel
theorem dX5_mirror_31 : decode cX5_mirror 31 = .ok (.iload_n 1, 1) := by decide +kernel
theorem dX5_mirror_32 : decode cX5_mirror 32 = .ok (.bipush 7, 2) := by decide +kernel
theorem dX5_mirror_34 : decode cX5_mirror 34 = .ok (.if_icmp .ne 11, 3) := by decide +kernel
theorem dX5_mirror_37 : decode cX5_mirror 37 = .ok (.iload_n 2, 1) := by decide +kernel
theorem dX5_mirror_38 : decode cX5_mirror 38 = .ok (.ifCond .ne 7, 3) := by decide +kernel
theorem dX5_mirror_41 : decode cX5_mirror 41 = .ok (.iconst 1, 1) := by decide +kernel
theorem dX5_mirror_42 : decode cX5_mirror 42 = .ok (.goto 4, 3) := by decide +kernel
theorem dX5_mirror_45 : decode cX5_mirror 45 = .ok (.iconst 0, 1) := by decide +kernel
theorem dX5_mirror_46 : decode cX5_mirror 46 = .ok (.istore_n 3, 1) := by decide +kernel
theorem dX5_mirror_47 : decode cX5_mirror 47 = .ok (.iconst 0, 1) := by decide +kernel
theorem dX5_mirror_48 : decode cX5_mirror 48 = .ok (.istore 4, 2) := by decide +kernel
theorem dX5_mirror_50 : decode cX5_mirror 50 = .ok (.iload 4, 2) := by decide +kernel
theorem dX5_mirror_52 : decode cX5_mirror 52 = .ok (.aload_n 0, 1) := by decide +kernel
theorem dX5_mirror_53 : decode cX5_mirror 53 = .ok (.getfield 91, 3) := by decide +kernel
theorem dX5_mirror_56 : decode cX5_mirror 56 = .ok (.if_icmp .ge 41, 3) := by decide +kernel
theorem dX5_mirror_59 : decode cX5_mirror 59 = .ok (.iload_n 3, 1) := by decide +kernel
theorem dX5_mirror_60 : decode cX5_mirror 60 = .ok (.ifCond .ne 25, 3) := by decide +kernel
theorem dX5_mirror_63 : decode cX5_mirror 63 = .ok (.aload_n 0, 1) := by decide +kernel
theorem dX5_mirror_64 : decode cX5_mirror 64 = .ok (.getfield 19, 3) := by decide +kernel
theorem dX5_mirror_67 : decode cX5_mirror 67 = .ok (.iload 4, 2) := by decide +kernel
theorem dX5_mirror_69 : decode cX5_mirror 69 = .ok (.iaload, 1) := by decide +kernel
theorem dX5_mirror_70 : decode cX5_mirror 70 = .ok (.iload_n 1, 1) := by decide +kernel
theorem dX5_mirror_71 : decode cX5_mirror 71 = .ok (.if_icmp .ne 18, 3) := by decide +kernel
theorem dX5_mirror_74 : decode cX5_mirror 74 = .ok (.aload_n 0, 1) := by decide +kernel
theorem dX5_mirror_75 : decode cX5_mirror 75 = .ok (.getfield 23, 3) := by decide +kernel
theorem dX5_mirror_78 : decode cX5_mirror 78 = .ok (.iload 4, 2) := by decide +kernel
theorem dX5_mirror_80 : decode cX5_mirror 80 = .ok (.iaload, 1) := by decide +kernel
theorem dX5_mirror_81 : decode cX5_mirror 81 = .ok (.iload_n 2, 1) := by decide +kernel
theorem dX5_mirror_82 : decode cX5_mirror 82 = .ok (.if_icmp .ne 7, 3) := by decide +kernel
theorem dX5_mirror_85 : decode cX5_mirror 85 = .ok (.iconst 1, 1) := by decide +kernel
theorem dX5_mirror_86 : decode cX5_mirror 86 = .ok (.goto 4, 3) := by decide +kernel
theorem dX5_mirror_89 : decode cX5_mirror 89 = .ok (.iconst 0, 1) := by decide +kernel
theorem dX5_mirror_90 : decode cX5_mirror 90 = .ok (.istore_n 3, 1) := by decide +kernel
theorem dX5_mirror_91 : decode cX5_mirror 91 = .ok (.iinc 4 1, 3) := by decide +kernel
theorem dX5_mirror_94 : decode cX5_mirror 94 = .ok (.goto (-44), 3) := by decide +kernel
theorem dX5_mirror_97 : decode cX5_mirror 97 = .ok (.iload_n 3, 1) := by decide +kernel
theorem dX5_mirror_98 : decode cX5_mirror 98 = .ok (.ifCond .eq 9, 3) := by decide +kernel
theorem dX5_mirror_101 : decode cX5_mirror 101 = .ok (.aload_n 0, 1) := by decide +kernel
theorem dX5_mirror_102 : decode cX5_mirror 102 = .ok (.iconst 4, 1) := by decide +kernel
theorem dX5_mirror_103 : decode cX5_mirror 103 = .ok (.invokevirtual 98, 3) := by decide +kernel
theorem dX5_mirror_106 : decode cX5_mirror 106 = .ok (.ireturn, 1) := by decide +kernel
theorem dX5_mirror_107 : decode cX5_mirror 107 = .ok (.aload_n 0, 1) := by decide +kernel
theorem dX5_mirror_108 : decode cX5_mirror 108 = .ok (.getfield 91, 3) := by decide +kernel
theorem dX5_mirror_111 : decode cX5_mirror 111 = .ok (.bipush 40, 2) := by decide +kernel
theorem dX5_mirror_113 : decode cX5_mirror 113 = .ok (.if_icmp .ne 9, 3) := by decide +kernel
theorem dX5_mirror_116 : decode cX5_mirror 116 = .ok (.aload_n 0, 1) := by decide +kernel
theorem dX5_mirror_117 : decode cX5_mirror 117 = .ok (.iconst 3, 1) := by decide +kernel
theorem dX5_mirror_118 : decode cX5_mirror 118 = .ok (.invokevirtual 98, 3) := by decide +kernel
theorem dX5_mirror_121 : decode cX5_mirror 121 = .ok (.ireturn, 1) := by decide +kernel
theorem dX5_mirror_122 : decode cX5_mirror 122 = .ok (.aload_n 0, 1) := by decide +kernel
theorem dX5_mirror_123 : decode cX5_mirror 123 = .ok (.getfield 19, 3) := by decide +kernel
theorem dX5_mirror_126 : decode cX5_mirror 126 = .ok (.aload_n 0, 1) := by decide +kernel
theorem dX5_mirror_127 : decode cX5_mirror 127 = .ok (.getfield 91, 3) := by decide +kernel
theorem dX5_mirror_130 : decode cX5_mirror 130 = .ok (.iload_n 1, 1) := by decide +kernel
theorem dX5_mirror_131 : decode cX5_mirror 131 = .ok (.iastore, 1) := by decide +kernel
theorem dX5_mirror_132 : decode cX5_mirror 132 = .ok (.aload_n 0, 1) := by decide +kernel
theorem dX5_mirror_133 : decode cX5_mirror 133 = .ok (.getfield 23, 3) := by decide +kernel
theorem dX5_mirror_136 : decode cX5_mirror 136 = .ok (.aload_n 0, 1) := by decide +kernel
theorem dX5_mirror_137 : decode cX5_mirror 137 = .ok (.getfield 91, 3) := by decide +kernel
theorem dX5_mirror_140 : decode cX5_mirror 140 = .ok (.iload_n 2, 1) := by decide +kernel
theorem dX5_mirror_141 : decode cX5_mirror 141 = .ok (.iastore, 1) := by decide +kernel
theorem dX5_mirror_142 : decode cX5_mirror 142 = .ok (.aload_n 0, 1) := by decide +kernel
theorem dX5_mirror_143 : decode cX5_mirror 143 = .ok (.dup, 1) := by decide +kernel
theorem dX5_mirror_144 : decode cX5_mirror 144 = .ok (.getfield 91, 3) := by decide +kernel
theorem dX5_mirror_147 : decode cX5_mirror 147 = .ok (.iconst 1, 1) := by decide +kernel
theorem dX5_mirror_148 : decode cX5_mirror 148 = .ok (.iadd, 1) := by decide +kernel
theorem dX5_mirror_149 : decode cX5_mirror 149 = .ok (.putfield 91, 3) := by decide +kernel
theorem dX5_mirror_152 : decode cX5_mirror 152 = .ok (.aload_n 0, 1) := by decide +kernel
theorem dX5_mirror_153 : decode cX5_mirror 153 = .ok (.aload_n 0, 1) := by decide +kernel
theorem dX5_mirror_154 : decode cX5_mirror 154 = .ok (.getfield 91, 3) := by decide +kernel
theorem dX5_mirror_157 : decode cX5_mirror 157 = .ok (.iconst 1, 1) := by decide +kernel
theorem dX5_mirror_158 : decode cX5_mirror 158 = .ok (.isub, 1) := by decide +kernel
theorem dX5_mirror_159 : decode cX5_mirror 159 = .ok (.invokevirtual 102, 3) := by decide +kernel
theorem dX5_mirror_162 : decode cX5_mirror 162 = .ok (.ireturn, 1) := by decide +kernel
set_option maxRecDepth 20000 in
theorem ggX5_sun_X5_isHour : GoodIn wsX5_sun wsX5_isHour := goodIn_r _ [8] rfl (by decide +kernel)
set_option maxRecDepth 20000 in
theorem gX5_sun_X5_isHour : GoodIn wsX5_sun (va_wsS RX5 105 yX5_isHour wsX5_isHour) := goodIn_app (goodIn_of _ (by decide +kernel)) ggX5_sun_X5_isHour
set_option maxRecDepth 20000 in
theorem ggX5_sun_X5_in : GoodIn wsX5_sun wsX5_in := goodIn_r _ [11] rfl (by decide +kernel)
set_option maxRecDepth 20000 in
theorem gX5_sun_X5_in : GoodIn wsX5_sun (va_wsS RX5 94 yX5_in wsX5_in) := goodIn_app (goodIn_of _ (by decide +kernel)) ggX5_sun_X5_in
set_option maxRecDepth 20000 in
theorem ggX5_sun_X5_denied : GoodIn wsX5_sun wsX5_denied := goodIn_r _ [15, 16, 21, 22, 23, 24, 25, 26, 27, 28, 29, 30, 31, 32, 33, 34, 35, 36, 37, 38, 39, 40, 41, 42, 43, 44, 45, 46, 47, 48, 49, 50, 51, 52, 53] rfl (by decide +kernel)
set_option maxRecDepth 20000 in
theorem gX5_sun_X5_denied : GoodIn wsX5_sun (wsV RX5 109 RX5 yX5_denied wsX5_denied) := goodIn_app (goodIn_of _ (by decide +kernel)) ggX5_sun_X5_denied
set_option maxRecDepth 20000 in
theorem ggX5_sun_X5_granted : GoodIn wsX5_sun wsX5_granted := goodIn_r _ [20, 16, 21, 22, 23, 24, 25, 26, 27, 28, 29, 30, 31, 32, 33, 34, 35, 36, 37, 38, 39, 40, 41, 42, 43, 44, 45, 46, 47, 48, 49, 50, 51, 52, 53] rfl (by decide +kernel)
set_option maxRecDepth 20000 in
theorem gX5_sun_X5_granted : GoodIn wsX5_sun (wsV RX5 112 RX5 yX5_granted wsX5_granted) := goodIn_app (goodIn_of _ (by decide +kernel)) ggX5_sun_X5_granted
theorem dX5_sun_0 : decode cX5_sun 0 = .ok (.aload_n 0, 1) := by decide +kernel
theorem dX5_sun_1 : decode cX5_sun 1 = .ok (.iconst 0, 1) := by decide +kernel
theorem dX5_sun_2 : decode cX5_sun 2 = .ok (.putfield 1, 3) := by decide +kernel
theorem dX5_sun_5 : decode cX5_sun 5 = .ok (.iload_n 1, 1) := by decide +kernel
theorem dX5_sun_6 : decode cX5_sun 6 = .ok (.invokestatic 105, 3) := by decide +kernel
theorem dX5_sun_9 : decode cX5_sun 9 = .ok (.ifCond .eq 42, 3) := by decide +kernel
theorem dX5_sun_12 : decode cX5_sun 12 = .ok (.iload_n 2, 1) := by decide +kernel
theorem dX5_sun_13 : decode cX5_sun 13 = .ok (.bipush (-2), 2) := by decide +kernel
theorem dX5_sun_15 : decode cX5_sun 15 = .ok (.iconst 2, 1) := by decide +kernel
theorem dX5_sun_16 : decode cX5_sun 16 = .ok (.invokestatic 94, 3) := by decide +kernel
theorem dX5_sun_19 : decode cX5_sun 19 = .ok (.ifCond .eq 32, 3) := by decide +kernel
theorem dX5_sun_22 : decode cX5_sun 22 = .ok (.iload_n 3, 1) := by decide +kernel
theorem dX5_sun_23 : decode cX5_sun 23 = .ok (.bipush (-2), 2) := by decide +kernel
theorem dX5_sun_25 : decode cX5_sun 25 = .ok (.iconst 2, 1) := by decide +kernel
theorem dX5_sun_26 : decode cX5_sun 26 = .ok (.invokestatic 94, 3) := by decide +kernel
theorem dX5_sun_29 : decode cX5_sun 29 = .ok (.ifCond .eq 22, 3) := by decide +kernel
theorem dX5_sun_32 : decode cX5_sun 32 = .ok (.iload_n 2, 1) := by decide +kernel
theorem dX5_sun_33 : decode cX5_sun 33 = .ok (.ifCond .ne 7, 3) := by decide +kernel
theorem dX5_sun_36 : decode cX5_sun 36 = .ok (.iload_n 3, 1) := by decide +kernel
theorem dX5_sun_37 : decode cX5_sun 37 = .ok (.ifCond .eq 14, 3) := by decide +kernel
theorem dX5_sun_40 : decode cX5_sun 40 = .ok (.iload 4, 2) := by decide +kernel
theorem dX5_sun_42 : decode cX5_sun 42 = .ok (.iconst 0, 1) := by decide +kernel
theorem dX5_sun_43 : decode cX5_sun 43 = .ok (.bipush 9, 2) := by decide +kernel
theorem dX5_sun_45 : decode cX5_sun 45 = .ok (.invokestatic 94, 3) := by decide +kernel
theorem dX5_sun_48 : decode cX5_sun 48 = .ok (.ifCond .ne 9, 3) := by decide +kernel
theorem dX5_sun_51 : decode cX5_sun 51 = .ok (.aload_n 0, 1) := by decide +kernel
theorem dX5_sun_52 : decode cX5_sun 52 = .ok (.iconst 2, 1) := by decide +kernel
theorem dX5_sun_53 : decode cX5_sun 53 = .ok (.invokevirtual 109, 3) := by decide +kernel
theorem dX5_sun_56 : decode cX5_sun 56 = .ok (.ireturn, 1) := by decide +kernel
theorem dX5_sun_57 : decode cX5_sun 57 = .ok (.aload_n 0, 1) := by decide +kernel
theorem dX5_sun_58 : decode cX5_sun 58 = .ok (.getfield 32, 3) := by decide +kernel
theorem dX5_sun_61 : decode cX5_sun 61 = .ok (.iload_n 1, 1) := by decide +kernel
theorem dX5_sun_62 : decode cX5_sun 62 = .ok (.iload_n 2, 1) := by decide +kernel
theorem dX5_sun_63 : decode cX5_sun 63 = .ok (.iastore, 1) := by decide +kernel
theorem dX5_sun_64 : decode cX5_sun 64 = .ok (.aload_n 0, 1) := by decide +kernel
theorem dX5_sun_65 : decode cX5_sun 65 = .ok (.getfield 35, 3) := by decide +kernel
theorem dX5_sun_68 : decode cX5_sun 68 = .ok (.iload_n 1, 1) := by decide +kernel
theorem dX5_sun_69 : decode cX5_sun 69 = .ok (.iload_n 3, 1) := by decide +kernel
theorem dX5_sun_70 : decode cX5_sun 70 = .ok (.iastore, 1) := by decide +kernel
theorem dX5_sun_71 : decode cX5_sun 71 = .ok (.aload_n 0, 1) := by decide +kernel
theorem dX5_sun_72 : decode cX5_sun 72 = .ok (.getfield 38, 3) := by decide +kernel
theorem dX5_sun_75 : decode cX5_sun 75 = .ok (.iload_n 1, 1) := by decide +kernel
theorem dX5_sun_76 : decode cX5_sun 76 = .ok (.iload 4, 2) := by decide +kernel
theorem dX5_sun_78 : decode cX5_sun 78 = .ok (.iastore, 1) := by decide +kernel
theorem dX5_sun_79 : decode cX5_sun 79 = .ok (.aload_n 0, 1) := by decide +kernel
theorem dX5_sun_80 : decode cX5_sun 80 = .ok (.invokevirtual 112, 3) := by decide +kernel
theorem dX5_sun_83 : decode cX5_sun 83 = .ok (.ireturn, 1) := by decide +kernel
set_option maxRecDepth 20000 in
theorem ggX5_limit_X5_in : GoodIn wsX5_limit wsX5_in := goodIn_r _ [6] rfl (by decide +kernel)
set_option maxRecDepth 20000 in
theorem gX5_limit_X5_in : GoodIn wsX5_limit (va_wsS RX5 94 yX5_in wsX5_in) := goodIn_app (goodIn_of _ (by decide +kernel)) ggX5_limit_X5_in
set_option maxRecDepth 20000 in
theorem ggX5_limit_X5_denied : GoodIn wsX5_limit wsX5_denied := goodIn_r _ [10, 11, 16, 17, 18, 19, 20, 21, 22, 23, 24, 25, 26, 27, 28, 29, 30, 31, 32, 33, 34, 35, 36, 37, 38, 39, 40, 41, 42, 43, 44, 45, 46, 47, 48] rfl (by decide +kernel)
set_option maxRecDepth 20000 in
theorem gX5_limit_X5_denied : GoodIn wsX5_limit (wsV RX5 109 RX5 yX5_denied wsX5_denied) := goodIn_app (goodIn_of _ (by decide +kernel)) ggX5_limit_X5_denied
set_option maxRecDepth 20000 in
theorem ggX5_limit_X5_granted : GoodIn wsX5_limit wsX5_granted := goodIn_r _ [15, 11, 16, 17, 18, 19, 20, 21, 22, 23, 24, 25, 26, 27, 28, 29, 30, 31, 32, 33, 34, 35, 36, 37, 38, 39, 40, 41, 42, 43, 44, 45, 46, 47, 48] rfl (by decide +kernel)
set_option maxRecDepth 20000 in
theorem gX5_limit_X5_granted : GoodIn wsX5_limit (wsV RX5 112 RX5 yX5_granted wsX5_granted) := goodIn_app (goodIn_of _ (by decide +kernel)) ggX5_limit_X5_granted
theorem dX5_limit_0 : decode cX5_limit 0 = .ok (.aload_n 0, 1) := by decide +kernel
theorem dX5_limit_1 : decode cX5_limit 1 = .ok (.iconst 0, 1) := by decide +kernel
theorem dX5_limit_2 : decode cX5_limit 2 = .ok (.putfield 1, 3) := by decide +kernel
theorem dX5_limit_5 : decode cX5_limit 5 = .ok (.iload_n 1, 1) := by decide +kernel
theorem dX5_limit_6 : decode cX5_limit 6 = .ok (.iconst 0, 1) := by decide +kernel
theorem dX5_limit_7 : decode cX5_limit 7 = .ok (.iconst 3, 1) := by decide +kernel
theorem dX5_limit_8 : decode cX5_limit 8 = .ok (.invokestatic 94, 3) := by decide +kernel
theorem dX5_limit_11 : decode cX5_limit 11 = .ok (.ifCond .ne 9, 3) := by decide +kernel
theorem dX5_limit_14 : decode cX5_limit 14 = .ok (.aload_n 0, 1) := by decide +kernel
theorem dX5_limit_15 : decode cX5_limit 15 = .ok (.iconst 1, 1) := by decide +kernel
theorem dX5_limit_16 : decode cX5_limit 16 = .ok (.invokevirtual 109, 3) := by decide +kernel
theorem dX5_limit_19 : decode cX5_limit 19 = .ok (.ireturn, 1) := by decide +kernel
theorem dX5_limit_20 : decode cX5_limit 20 = .ok (.iload_n 2, 1) := by decide +kernel
theorem dX5_limit_21 : decode cX5_limit 21 = .ok (.iconst 0, 1) := by decide +kernel
theorem dX5_limit_22 : decode cX5_limit 22 = .ok (.sipush 10000, 3) := by decide +kernel
theorem dX5_limit_25 : decode cX5_limit 25 = .ok (.invokestatic 94, 3) := by decide +kernel
theorem dX5_limit_28 : decode cX5_limit 28 = .ok (.ifCond .ne 9, 3) := by decide +kernel
theorem dX5_limit_31 : decode cX5_limit 31 = .ok (.aload_n 0, 1) := by decide +kernel
theorem dX5_limit_32 : decode cX5_limit 32 = .ok (.iconst 2, 1) := by decide +kernel
theorem dX5_limit_33 : decode cX5_limit 33 = .ok (.invokevirtual 109, 3) := by decide +kernel
theorem dX5_limit_36 : decode cX5_limit 36 = .ok (.ireturn, 1) := by decide +kernel
theorem dX5_limit_37 : decode cX5_limit 37 = .ok (.aload_n 0, 1) := by decide +kernel
theorem dX5_limit_38 : decode cX5_limit 38 = .ok (.getfield 29, 3) := by decide +kernel
theorem dX5_limit_41 : decode cX5_limit 41 = .ok (.iload_n 1, 1) := by decide +kernel
theorem dX5_limit_42 : decode cX5_limit 42 = .ok (.iload_n 2, 1) := by decide +kernel
theorem dX5_limit_43 : decode cX5_limit 43 = .ok (.iastore, 1) := by decide +kernel
theorem dX5_limit_44 : decode cX5_limit 44 = .ok (.aload_n 0, 1) := by decide +kernel
theorem dX5_limit_45 : decode cX5_limit 45 = .ok (.invokevirtual 112, 3) := by decide +kernel
theorem dX5_limit_48 : decode cX5_limit 48 = .ok (.ireturn, 1) := by decide +kernel
set_option maxRecDepth 20000 in
theorem ggX5_wind_X5_isHour : GoodIn wsX5_wind wsX5_isHour := goodIn_r _ [6] rfl (by decide +kernel)
set_option maxRecDepth 20000 in
theorem gX5_wind_X5_isHour : GoodIn wsX5_wind (va_wsS RX5 105 yX5_isHour wsX5_isHour) := goodIn_app (goodIn_of _ (by decide +kernel)) ggX5_wind_X5_isHour
set_option maxRecDepth 20000 in
theorem ggX5_wind_X5_in : GoodIn wsX5_wind wsX5_in := goodIn_r _ [9] rfl (by decide +kernel)
set_option maxRecDepth 20000 in
theorem gX5_wind_X5_in : GoodIn wsX5_wind (va_wsS RX5 94 yX5_in wsX5_in) := goodIn_app (goodIn_of _ (by decide +kernel)) ggX5_wind_X5_in
set_option maxRecDepth 20000 in
theorem ggX5_wind_X5_denied : GoodIn wsX5_wind wsX5_denied := goodIn_r _ [13, 14, 19, 20, 21, 22, 23, 24, 25, 26, 27, 28, 29, 30, 31, 32, 33, 34, 35, 36, 37, 38, 39, 40, 41, 42, 43, 44, 45, 46, 47, 48, 49, 50, 51] rfl (by decide +kernel)
set_option maxRecDepth 20000 in
theorem gX5_wind_X5_denied : GoodIn wsX5_wind (wsV RX5 109 RX5 yX5_denied wsX5_denied) := goodIn_app (goodIn_of _ (by decide +kernel)) ggX5_wind_X5_denied
set_option maxRecDepth 20000 in
theorem ggX5_wind_X5_granted : GoodIn wsX5_wind wsX5_granted := goodIn_r _ [18, 14, 19, 20, 21, 22, 23, 24, 25, 26, 27, 28, 29, 30, 31, 32, 33, 34, 35, 36, 37, 38, 39, 40, 41, 42, 43, 44, 45, 46, 47, 48, 49, 50, 51] rfl (by decide +kernel)
set_option maxRecDepth 20000 in
theorem gX5_wind_X5_granted : GoodIn wsX5_wind (wsV RX5 112 RX5 yX5_granted wsX5_granted) := goodIn_app (goodIn_of _ (by decide +kernel)) ggX5_wind_X5_granted
theorem dX5_wind_0 : decode cX5_wind 0 = .ok (.aload_n 0, 1) := by decide +kernel
theorem dX5_wind_1 : decode cX5_wind 1 = .ok (.iconst 0, 1) := by decide +kernel
theorem dX5_wind_2 : decode cX5_wind 2 = .ok (.putfield 1, 3) := by decide +kernel
theorem dX5_wind_5 : decode cX5_wind 5 = .ok (.iload_n 1, 1) := by decide +kernel
theorem dX5_wind_6 : decode cX5_wind 6 = .ok (.invokestatic 105, 3) := by decide +kernel
theorem dX5_wind_9 : decode cX5_wind 9 = .ok (.ifCond .eq 13, 3) := by decide +kernel
theorem dX5_wind_12 : decode cX5_wind 12 = .ok (.iload_n 2, 1) := by decide +kernel
theorem dX5_wind_13 : decode cX5_wind 13 = .ok (.iconst 0, 1) := by decide +kernel
theorem dX5_wind_14 : decode cX5_wind 14 = .ok (.bipush 99, 2) := by decide +kernel
theorem dX5_wind_16 : decode cX5_wind 16 = .ok (.invokestatic 94, 3) := by decide +kernel
theorem dX5_wind_19 : decode cX5_wind 19 = .ok (.ifCond .ne 9, 3) := by decide +kernel
theorem dX5_wind_22 : decode cX5_wind 22 = .ok (.aload_n 0, 1) := by decide +kernel
theorem dX5_wind_23 : decode cX5_wind 23 = .ok (.iconst 2, 1) := by decide +kernel
theorem dX5_wind_24 : decode cX5_wind 24 = .ok (.invokevirtual 109, 3) := by decide +kernel
theorem dX5_wind_27 : decode cX5_wind 27 = .ok (.ireturn, 1) := by decide +kernel
theorem dX5_wind_28 : decode cX5_wind 28 = .ok (.aload_n 0, 1) := by decide +kernel
theorem dX5_wind_29 : decode cX5_wind 29 = .ok (.getfield 41, 3) := by decide +kernel
theorem dX5_wind_32 : decode cX5_wind 32 = .ok (.iload_n 1, 1) := by decide +kernel
theorem dX5_wind_33 : decode cX5_wind 33 = .ok (.iload_n 2, 1) := by decide +kernel
theorem dX5_wind_34 : decode cX5_wind 34 = .ok (.iastore, 1) := by decide +kernel
theorem dX5_wind_35 : decode cX5_wind 35 = .ok (.aload_n 0, 1) := by decide +kernel
theorem dX5_wind_36 : decode cX5_wind 36 = .ok (.invokevirtual 112, 3) := by decide +kernel
theorem dX5_wind_39 : decode cX5_wind 39 = .ok (.ireturn, 1) := by decide +kernel
set_option maxRecDepth 20000 in
theorem ggX5_price_X5_isHour : GoodIn wsX5_price wsX5_isHour := goodIn_r _ [6] rfl (by decide +kernel)
set_option maxRecDepth 20000 in
theorem gX5_price_X5_isHour : GoodIn wsX5_price (va_wsS RX5 105 yX5_isHour wsX5_isHour) := goodIn_app (goodIn_of _ (by decide +kernel)) ggX5_price_X5_isHour
set_option maxRecDepth 20000 in
theorem ggX5_price_X5_in : GoodIn wsX5_price wsX5_in := goodIn_r _ [9] rfl (by decide +kernel)
set_option maxRecDepth 20000 in
theorem gX5_price_X5_in : GoodIn wsX5_price (va_wsS RX5 94 yX5_in wsX5_in) := goodIn_app (goodIn_of _ (by decide +kernel)) ggX5_price_X5_in
set_option maxRecDepth 20000 in
theorem ggX5_price_X5_denied : GoodIn wsX5_price wsX5_denied := goodIn_r _ [13, 14, 19, 20, 21, 22, 23, 24, 25, 26, 27, 28, 29, 30, 31, 32, 33, 34, 35, 36, 37, 38, 39, 40, 41, 42, 43, 44, 45, 46, 47, 48, 49, 50, 51] rfl (by decide +kernel)
set_option maxRecDepth 20000 in
theorem gX5_price_X5_denied : GoodIn wsX5_price (wsV RX5 109 RX5 yX5_denied wsX5_denied) := goodIn_app (goodIn_of _ (by decide +kernel)) ggX5_price_X5_denied
set_option maxRecDepth 20000 in
theorem ggX5_price_X5_granted : GoodIn wsX5_price wsX5_granted := goodIn_r _ [18, 14, 19, 20, 21, 22, 23, 24, 25, 26, 27, 28, 29, 30, 31, 32, 33, 34, 35, 36, 37, 38, 39, 40, 41, 42, 43, 44, 45, 46, 47, 48, 49, 50, 51] rfl (by decide +kernel)
set_option maxRecDepth 20000 in
theorem gX5_price_X5_granted : GoodIn wsX5_price (wsV RX5 112 RX5 yX5_granted wsX5_granted) := goodIn_app (goodIn_of _ (by decide +kernel)) ggX5_price_X5_granted
theorem dX5_price_0 : decode cX5_price 0 = .ok (.aload_n 0, 1) := by decide +kernel
theorem dX5_price_1 : decode cX5_price 1 = .ok (.iconst 0, 1) := by decide +kernel
theorem dX5_price_2 : decode cX5_price 2 = .ok (.putfield 1, 3) := by decide +kernel
theorem dX5_price_5 : decode cX5_price 5 = .ok (.iload_n 1, 1) := by decide +kernel
theorem dX5_price_6 : decode cX5_price 6 = .ok (.invokestatic 105, 3) := by decide +kernel
theorem dX5_price_9 : decode cX5_price 9 = .ok (.ifCond .eq 14, 3) := by decide +kernel
theorem dX5_price_12 : decode cX5_price 12 = .ok (.iload_n 2, 1) := by decide +kernel
theorem dX5_price_13 : decode cX5_price 13 = .ok (.iconst 0, 1) := by decide +kernel
theorem dX5_price_14 : decode cX5_price 14 = .ok (.sipush 999, 3) := by decide +kernel
theorem dX5_price_17 : decode cX5_price 17 = .ok (.invokestatic 94, 3) := by decide +kernel
theorem dX5_price_20 : decode cX5_price 20 = .ok (.ifCond .ne 9, 3) := by decide +kernel
theorem dX5_price_23 : decode cX5_price 23 = .ok (.aload_n 0, 1) := by decide +kernel
theorem dX5_price_24 : decode cX5_price 24 = .ok (.iconst 2, 1) := by decide +kernel
theorem dX5_price_25 : decode cX5_price 25 = .ok (.invokevirtual 109, 3) := by decide +kernel
theorem dX5_price_28 : decode cX5_price 28 = .ok (.ireturn, 1) := by decide +kernel
theorem dX5_price_29 : decode cX5_price 29 = .ok (.aload_n 0, 1) := by decide +kernel
theorem dX5_price_30 : decode cX5_price 30 = .ok (.getfield 44, 3) := by decide +kernel
theorem dX5_price_33 : decode cX5_price 33 = .ok (.iload_n 1, 1) := by decide +kernel
theorem dX5_price_34 : decode cX5_price 34 = .ok (.iload_n 2, 1) := by decide +kernel
theorem dX5_price_35 : decode cX5_price 35 = .ok (.iastore, 1) := by decide +kernel
theorem dX5_price_36 : decode cX5_price 36 = .ok (.aload_n 0, 1) := by decide +kernel
theorem dX5_price_37 : decode cX5_price 37 = .ok (.invokevirtual 112, 3) := by decide +kernel
theorem dX5_price_40 : decode cX5_price 40 = .ok (.ireturn, 1) := by decide +kernel
set_option maxRecDepth 20000 in
theorem ggX5_dust_X5_in : GoodIn wsX5_dust wsX5_in := goodIn_r _ [6] rfl (by decide +kernel)
set_option maxRecDepth 20000 in
theorem gX5_dust_X5_in : GoodIn wsX5_dust (va_wsS RX5 94 yX5_in wsX5_in) := goodIn_app (goodIn_of _ (by decide +kernel)) ggX5_dust_X5_in
set_option maxRecDepth 20000 in
theorem ggX5_dust_X5_denied : GoodIn wsX5_dust wsX5_denied := goodIn_r _ [10, 11, 16, 17, 18, 19, 20, 21, 22, 23, 24, 25, 26, 27, 28, 29, 30, 31, 32, 33, 34, 35, 36, 37, 38, 39, 40, 41, 42, 43, 44, 45, 46, 47, 48] rfl (by decide +kernel)
set_option maxRecDepth 20000 in
theorem gX5_dust_X5_denied : GoodIn wsX5_dust (wsV RX5 109 RX5 yX5_denied wsX5_denied) := goodIn_app (goodIn_of _ (by decide +kernel)) ggX5_dust_X5_denied
set_option maxRecDepth 20000 in
theorem ggX5_dust_X5_granted : GoodIn wsX5_dust wsX5_granted := goodIn_r _ [15, 11, 16, 17, 18, 19, 20, 21, 22, 23, 24, 25, 26, 27, 28, 29, 30, 31, 32, 33, 34, 35, 36, 37, 38, 39, 40, 41, 42, 43, 44, 45, 46, 47, 48] rfl (by decide +kernel)
set_option maxRecDepth 20000 in
theorem gX5_dust_X5_granted : GoodIn wsX5_dust (wsV RX5 112 RX5 yX5_granted wsX5_granted) := goodIn_app (goodIn_of _ (by decide +kernel)) ggX5_dust_X5_granted
theorem dX5_dust_0 : decode cX5_dust 0 = .ok (.aload_n 0, 1) := by decide +kernel
theorem dX5_dust_1 : decode cX5_dust 1 = .ok (.iconst 0, 1) := by decide +kernel
theorem dX5_dust_2 : decode cX5_dust 2 = .ok (.putfield 1, 3) := by decide +kernel
theorem dX5_dust_5 : decode cX5_dust 5 = .ok (.iload_n 1, 1) := by decide +kernel
theorem dX5_dust_6 : decode cX5_dust 6 = .ok (.iconst 0, 1) := by decide +kernel
theorem dX5_dust_7 : decode cX5_dust 7 = .ok (.bipush 20, 2) := by decide +kernel
theorem dX5_dust_9 : decode cX5_dust 9 = .ok (.invokestatic 94, 3) := by decide +kernel
theorem dX5_dust_12 : decode cX5_dust 12 = .ok (.ifCond .ne 9, 3) := by decide +kernel
theorem dX5_dust_15 : decode cX5_dust 15 = .ok (.aload_n 0, 1) := by decide +kernel
theorem dX5_dust_16 : decode cX5_dust 16 = .ok (.iconst 2, 1) := by decide +kernel
theorem dX5_dust_17 : decode cX5_dust 17 = .ok (.invokevirtual 109, 3) := by decide +kernel
theorem dX5_dust_20 : decode cX5_dust 20 = .ok (.ireturn, 1) := by decide +kernel
theorem dX5_dust_21 : decode cX5_dust 21 = .ok (.aload_n 0, 1) := by decide +kernel
theorem dX5_dust_22 : decode cX5_dust 22 = .ok (.iload_n 1, 1) := by decide +kernel
theorem dX5_dust_23 : decode cX5_dust 23 = .ok (.putfield 16, 3) := by decide +kernel
theorem dX5_dust_26 : decode cX5_dust 26 = .ok (.aload_n 0, 1) := by decide +kernel
theorem dX5_dust_27 : decode cX5_dust 27 = .ok (.invokevirtual 112, 3) := by decide +kernel
theorem dX5_dust_30 : decode cX5_dust 30 = .ok (.ireturn, 1) := by decide +kernel
theorem dX5_shades_0 : decode cX5_shades 0 = .ok (.iconst 0, 1) := by decide +kernel
theorem dX5_shades_1 : decode cX5_shades 1 = .ok (.istore_n 3, 1) := by decide +kernel
theorem dX5_shades_2 : decode cX5_shades 2 = .ok (.iconst 1, 1) := by decide +kernel
theorem dX5_shades_3 : decode cX5_shades 3 = .ok (.istore 4, 2) := by decide +kernel
theorem dX5_shades_5 : decode cX5_shades 5 = .ok (.iload 4, 2) := by decide +kernel
theorem dX5_shades_7 : decode cX5_shades 7 = .ok (.bipush 10, 2) := by decide +kernel
theorem dX5_shades_9 : decode cX5_shades 9 = .ok (.aload_n 0, 1) := by decide +kernel
theorem dX5_shades_10 : decode cX5_shades 10 = .ok (.getfield 38, 3) := by decide +kernel
theorem dX5_shades_13 : decode cX5_shades 13 = .ok (.iload_n 2, 1) := by decide +kernel
theorem dX5_shades_14 : decode cX5_shades 14 = .ok (.iaload, 1) := by decide +kernel
theorem dX5_shades_15 : decode cX5_shades 15 = .ok (.isub, 1) := by decide +kernel
theorem dX5_shades_16 : decode cX5_shades 16 = .ok (.if_icmp .gt 96, 3) := by decide +kernel
theorem dX5_shades_19 : decode cX5_shades 19 = .ok (.aload_n 0, 1) := by decide +kernel
theorem dX5_shades_20 : decode cX5_shades 20 = .ok (.getfield 38, 3) := by decide +kernel
theorem dX5_shades_23 : decode cX5_shades 23 = .ok (.iload_n 2, 1) := by decide +kernel
theorem dX5_shades_24 : decode cX5_shades 24 = .ok (.iaload, 1) := by decide +kernel
theorem dX5_shades_25 : decode cX5_shades 25 = .ok (.ifCond .le 87, 3) := by decide +kernel
theorem dX5_shades_28 : decode cX5_shades 28 = .ok (.iconst 0, 1) := by decide +kernel
theorem dX5_shades_29 : decode cX5_shades 29 = .ok (.istore 5, 2) := by decide +kernel
theorem dX5_shades_31 : decode cX5_shades 31 = .ok (.iload 5, 2) := by decide +kernel
theorem dX5_shades_33 : decode cX5_shades 33 = .ok (.aload_n 0, 1) := by decide +kernel
theorem dX5_shades_34 : decode cX5_shades 34 = .ok (.getfield 91, 3) := by decide +kernel
theorem dX5_shades_37 : decode cX5_shades 37 = .ok (.if_icmp .ge 69, 3) := by decide +kernel
theorem dX5_shades_40 : decode cX5_shades 40 = .ok (.iload_n 3, 1) := by decide +kernel
theorem dX5_shades_41 : decode cX5_shades 41 = .ok (.aload_n 0, 1) := by decide +kernel
theorem dX5_shades_42 : decode cX5_shades 42 = .ok (.getfield 19, 3) := by decide +kernel
theorem dX5_shades_45 : decode cX5_shades 45 = .ok (.iload 5, 2) := by decide +kernel
theorem dX5_shades_47 : decode cX5_shades 47 = .ok (.iaload, 1) := by decide +kernel
theorem dX5_shades_48 : decode cX5_shades 48 = .ok (.aload_n 0, 1) := by decide +kernel
theorem dX5_shades_49 : decode cX5_shades 49 = .ok (.getfield 19, 3) := by decide +kernel
theorem dX5_shades_52 : decode cX5_shades 52 = .ok (.iload_n 1, 1) := by decide +kernel
theorem dX5_shades_53 : decode cX5_shades 53 = .ok (.iaload, 1) := by decide +kernel
theorem dX5_shades_54 : decode cX5_shades 54 = .ok (.iload 4, 2) := by decide +kernel
theorem dX5_shades_56 : decode cX5_shades 56 = .ok (.aload_n 0, 1) := by decide +kernel
theorem dX5_shades_57 : decode cX5_shades 57 = .ok (.getfield 32, 3) := by decide +kernel
theorem dX5_shades_60 : decode cX5_shades 60 = .ok (.iload_n 2, 1) := by decide +kernel
theorem dX5_shades_61 : decode cX5_shades 61 = .ok (.iaload, 1) := by decide +kernel
theorem dX5_shades_62 : decode cX5_shades 62 = .ok (.imul, 1) := by decide +kernel
theorem dX5_shades_63 : decode cX5_shades 63 = .ok (.iadd, 1) := by decide +kernel
theorem dX5_shades_64 : decode cX5_shades 64 = .ok (.if_icmp .ne 33, 3) := by decide +kernel
theorem dX5_shades_67 : decode cX5_shades 67 = .ok (.aload_n 0, 1) := by decide +kernel
theorem dX5_shades_68 : decode cX5_shades 68 = .ok (.getfield 23, 3) := by decide +kernel
theorem dX5_shades_71 : decode cX5_shades 71 = .ok (.iload 5, 2) := by decide +kernel
theorem dX5_shades_73 : decode cX5_shades 73 = .ok (.iaload, 1) := by decide +kernel
theorem dX5_shades_74 : decode cX5_shades 74 = .ok (.aload_n 0, 1) := by decide +kernel
theorem dX5_shades_75 : decode cX5_shades 75 = .ok (.getfield 23, 3) := by decide +kernel
theorem dX5_shades_78 : decode cX5_shades 78 = .ok (.iload_n 1, 1) := by decide +kernel
theorem dX5_shades_79 : decode cX5_shades 79 = .ok (.iaload, 1) := by decide +kernel
theorem dX5_shades_80 : decode cX5_shades 80 = .ok (.iload 4, 2) := by decide +kernel
theorem dX5_shades_82 : decode cX5_shades 82 = .ok (.aload_n 0, 1) := by decide +kernel
theorem dX5_shades_83 : decode cX5_shades 83 = .ok (.getfield 35, 3) := by decide +kernel
theorem dX5_shades_86 : decode cX5_shades 86 = .ok (.iload_n 2, 1) := by decide +kernel
theorem dX5_shades_87 : decode cX5_shades 87 = .ok (.iaload, 1) := by decide +kernel
theorem dX5_shades_88 : decode cX5_shades 88 = .ok (.imul, 1) := by decide +kernel
theorem dX5_shades_89 : decode cX5_shades 89 = .ok (.iadd, 1) := by decide +kernel
theorem dX5_shades_90 : decode cX5_shades 90 = .ok (.if_icmp .ne 7, 3) := by decide +kernel
theorem dX5_shades_93 : decode cX5_shades 93 = .ok (.iconst 1, 1) := by decide +kernel
theorem dX5_shades_94 : decode cX5_shades 94 = .ok (.goto 4, 3) := by decide +kernel
theorem dX5_shades_97 : decode cX5_shades 97 = .ok (.iconst 0, 1) := by decide +kernel
theorem dX5_shades_98 : decode cX5_shades 98 = .ok (.iadd, 1) := by decide +kernel
theorem dX5_shades_99 : decode cX5_shades 99 = .ok (.istore_n 3, 1) := by decide +kernel
theorem dX5_shades_100 : decode cX5_shades 100 = .ok (.iinc 5 1, 3) := by decide +kernel
theorem dX5_shades_103 : decode cX5_shades 103 = .ok (.goto (-72), 3) := by decide +kernel
theorem dX5_shades_106 : decode cX5_shades 106 = .ok (.iinc 4 1, 3) := by decide +kernel
theorem dX5_shades_109 : decode cX5_shades 109 = .ok (.goto (-104), 3) := by decide +kernel
theorem dX5_shades_112 : decode cX5_shades 112 = .ok (.iload_n 3, 1) := by decide +kernel
theorem dX5_shades_113 : decode cX5_shades 113 = .ok (.ireturn, 1) := by decide +kernel
theorem dX5_blocks_0 : decode cX5_blocks 0 = .ok (.iconst 0, 1) := by decide +kernel
theorem dX5_blocks_1 : decode cX5_blocks 1 = .ok (.istore_n 2, 1) := by decide +kernel
theorem dX5_blocks_2 : decode cX5_blocks 2 = .ok (.bipush 7, 2) := by decide +kernel
theorem dX5_blocks_4 : decode cX5_blocks 4 = .ok (.aload_n 0, 1) := by decide +kernel
theorem dX5_blocks_5 : decode cX5_blocks 5 = .ok (.getfield 19, 3) := by decide +kernel
theorem dX5_blocks_8 : decode cX5_blocks 8 = .ok (.iload_n 1, 1) := by decide +kernel
theorem dX5_blocks_9 : decode cX5_blocks 9 = .ok (.iaload, 1) := by decide +kernel
theorem dX5_blocks_10 : decode cX5_blocks 10 = .ok (.isub, 1) := by decide +kernel
theorem dX5_blocks_11 : decode cX5_blocks 11 = .ok (.istore_n 3, 1) := by decide +kernel
theorem dX5_blocks_12 : decode cX5_blocks 12 = .ok (.aload_n 0, 1) := by decide +kernel
theorem dX5_blocks_13 : decode cX5_blocks 13 = .ok (.getfield 23, 3) := by decide +kernel
theorem dX5_blocks_16 : decode cX5_blocks 16 = .ok (.iload_n 1, 1) := by decide +kernel
theorem dX5_blocks_17 : decode cX5_blocks 17 = .ok (.iaload, 1) := by decide +kernel
theorem dX5_blocks_18 : decode cX5_blocks 18 = .ok (.ineg, 1) := by decide +kernel
theorem dX5_blocks_19 : decode cX5_blocks 19 = .ok (.istore 4, 2) := by decide +kernel
theorem dX5_blocks_21 : decode cX5_blocks 21 = .ok (.iconst 0, 1) := by decide +kernel
theorem dX5_blocks_22 : decode cX5_blocks 22 = .ok (.istore 5, 2) := by decide +kernel
theorem dX5_blocks_24 : decode cX5_blocks 24 = .ok (.iload 5, 2) := by decide +kernel
theorem dX5_blocks_26 : decode cX5_blocks 26 = .ok (.aload_n 0, 1) := by decide +kernel
theorem dX5_blocks_27 : decode cX5_blocks 27 = .ok (.getfield 91, 3) := by decide +kernel
theorem dX5_blocks_30 : decode cX5_blocks 30 = .ok (.if_icmp .ge 98, 3) := by decide +kernel
theorem dX5_blocks_33 : decode cX5_blocks 33 = .ok (.aload_n 0, 1) := by decide +kernel
theorem dX5_blocks_34 : decode cX5_blocks 34 = .ok (.getfield 19, 3) := by decide +kernel
theorem dX5_blocks_37 : decode cX5_blocks 37 = .ok (.iload 5, 2) := by decide +kernel
theorem dX5_blocks_39 : decode cX5_blocks 39 = .ok (.iaload, 1) := by decide +kernel
theorem dX5_blocks_40 : decode cX5_blocks 40 = .ok (.aload_n 0, 1) := by decide +kernel
theorem dX5_blocks_41 : decode cX5_blocks 41 = .ok (.getfield 19, 3) := by decide +kernel
theorem dX5_blocks_44 : decode cX5_blocks 44 = .ok (.iload_n 1, 1) := by decide +kernel
theorem dX5_blocks_45 : decode cX5_blocks 45 = .ok (.iaload, 1) := by decide +kernel
theorem dX5_blocks_46 : decode cX5_blocks 46 = .ok (.isub, 1) := by decide +kernel
theorem dX5_blocks_47 : decode cX5_blocks 47 = .ok (.istore 6, 2) := by decide +kernel
theorem dX5_blocks_49 : decode cX5_blocks 49 = .ok (.aload_n 0, 1) := by decide +kernel
theorem dX5_blocks_50 : decode cX5_blocks 50 = .ok (.getfield 23, 3) := by decide +kernel
theorem dX5_blocks_53 : decode cX5_blocks 53 = .ok (.iload 5, 2) := by decide +kernel
theorem dX5_blocks_55 : decode cX5_blocks 55 = .ok (.iaload, 1) := by decide +kernel
theorem dX5_blocks_56 : decode cX5_blocks 56 = .ok (.aload_n 0, 1) := by decide +kernel
theorem dX5_blocks_57 : decode cX5_blocks 57 = .ok (.getfield 23, 3) := by decide +kernel
theorem dX5_blocks_60 : decode cX5_blocks 60 = .ok (.iload_n 1, 1) := by decide +kernel
theorem dX5_blocks_61 : decode cX5_blocks 61 = .ok (.iaload, 1) := by decide +kernel
theorem dX5_blocks_62 : decode cX5_blocks 62 = .ok (.isub, 1) := by decide +kernel
theorem dX5_blocks_63 : decode cX5_blocks 63 = .ok (.istore 7, 2) := by decide +kernel
theorem dX5_blocks_65 : decode cX5_blocks 65 = .ok (.iload 6, 2) := by decide +kernel
theorem dX5_blocks_67 : decode cX5_blocks 67 = .ok (.iload_n 3, 1) := by decide +kernel
theorem dX5_blocks_68 : decode cX5_blocks 68 = .ok (.imul, 1) := by decide +kernel
theorem dX5_blocks_69 : decode cX5_blocks 69 = .ok (.iload 7, 2) := by decide +kernel
theorem dX5_blocks_71 : decode cX5_blocks 71 = .ok (.iload 4, 2) := by decide +kernel
theorem dX5_blocks_73 : decode cX5_blocks 73 = .ok (.imul, 1) := by decide +kernel
theorem dX5_blocks_74 : decode cX5_blocks 74 = .ok (.iadd, 1) := by decide +kernel
theorem dX5_blocks_75 : decode cX5_blocks 75 = .ok (.istore 8, 2) := by decide +kernel
theorem dX5_blocks_77 : decode cX5_blocks 77 = .ok (.iload_n 2, 1) := by decide +kernel
theorem dX5_blocks_78 : decode cX5_blocks 78 = .ok (.iload 5, 2) := by decide +kernel
theorem dX5_blocks_80 : decode cX5_blocks 80 = .ok (.iload_n 1, 1) := by decide +kernel
theorem dX5_blocks_81 : decode cX5_blocks 81 = .ok (.if_icmp .eq 38, 3) := by decide +kernel
theorem dX5_blocks_84 : decode cX5_blocks 84 = .ok (.iload 6, 2) := by decide +kernel
theorem dX5_blocks_86 : decode cX5_blocks 86 = .ok (.iload 4, 2) := by decide +kernel
theorem dX5_blocks_88 : decode cX5_blocks 88 = .ok (.imul, 1) := by decide +kernel
theorem dX5_blocks_89 : decode cX5_blocks 89 = .ok (.iload 7, 2) := by decide +kernel
theorem dX5_blocks_91 : decode cX5_blocks 91 = .ok (.iload_n 3, 1) := by decide +kernel
theorem dX5_blocks_92 : decode cX5_blocks 92 = .ok (.imul, 1) := by decide +kernel
theorem dX5_blocks_93 : decode cX5_blocks 93 = .ok (.if_icmp .ne 26, 3) := by decide +kernel
theorem dX5_blocks_96 : decode cX5_blocks 96 = .ok (.iload 8, 2) := by decide +kernel
theorem dX5_blocks_98 : decode cX5_blocks 98 = .ok (.ifCond .le 21, 3) := by decide +kernel
theorem dX5_blocks_101 : decode cX5_blocks 101 = .ok (.iload 8, 2) := by decide +kernel
theorem dX5_blocks_103 : decode cX5_blocks 103 = .ok (.iload_n 3, 1) := by decide +kernel
theorem dX5_blocks_104 : decode cX5_blocks 104 = .ok (.iload_n 3, 1) := by decide +kernel
theorem dX5_blocks_105 : decode cX5_blocks 105 = .ok (.imul, 1) := by decide +kernel
theorem dX5_blocks_106 : decode cX5_blocks 106 = .ok (.iload 4, 2) := by decide +kernel
theorem dX5_blocks_108 : decode cX5_blocks 108 = .ok (.iload 4, 2) := by decide +kernel
theorem dX5_blocks_110 : decode cX5_blocks 110 = .ok (.imul, 1) := by decide +kernel
theorem dX5_blocks_111 : decode cX5_blocks 111 = .ok (.iadd, 1) := by decide +kernel
theorem dX5_blocks_112 : decode cX5_blocks 112 = .ok (.if_icmp .ge 7, 3) := by decide +kernel
theorem dX5_blocks_115 : decode cX5_blocks 115 = .ok (.iconst 1, 1) := by decide +kernel
theorem dX5_blocks_116 : decode cX5_blocks 116 = .ok (.goto 4, 3) := by decide +kernel
theorem dX5_blocks_119 : decode cX5_blocks 119 = .ok (.iconst 0, 1) := by decide +kernel
theorem dX5_blocks_120 : decode cX5_blocks 120 = .ok (.iadd, 1) := by decide +kernel
theorem dX5_blocks_121 : decode cX5_blocks 121 = .ok (.istore_n 2, 1) := by decide +kernel
theorem dX5_blocks_122 : decode cX5_blocks 122 = .ok (.iinc 5 1, 3) := by decide +kernel
theorem dX5_blocks_125 : decode cX5_blocks 125 = .ok (.goto (-101), 3) := by decide +kernel
theorem dX5_blocks_128 : decode cX5_blocks 128 = .ok (.iload_n 2, 1) := by decide +kernel
theorem dX5_blocks_129 : decode cX5_blocks 129 = .ok (.ireturn, 1) := by decide +kernel
set_option maxRecDepth 20000 in
theorem ggX5_shaded_X5_isMirror : GoodIn wsX5_shaded wsX5_isMirror := goodIn_r _ [6, 7, 24, 25, 26, 27, 28, 29, 30, 31, 32, 33, 34, 35, 36, 37, 38, 39, 40, 41, 42, 43, 44, 45, 46, 47, 48, 49, 50, 51, 52, 53, 54, 55, 56] rfl (by decide +kernel)
set_option maxRecDepth 20000 in
theorem gX5_shaded_X5_isMirror : GoodIn wsX5_shaded (wsV RX5 116 RX5 yX5_isMirror wsX5_isMirror) := goodIn_app (goodIn_of _ (by decide +kernel)) ggX5_shaded_X5_isMirror
set_option maxRecDepth 20000 in
theorem ggX5_shaded_X5_isHour : GoodIn wsX5_shaded wsX5_isHour := goodIn_r _ [10] rfl (by decide +kernel)
set_option maxRecDepth 20000 in
theorem gX5_shaded_X5_isHour : GoodIn wsX5_shaded (va_wsS RX5 105 yX5_isHour wsX5_isHour) := goodIn_app (goodIn_of _ (by decide +kernel)) ggX5_shaded_X5_isHour
set_option maxRecDepth 20000 in
theorem ggX5_shaded_X5_blocks : GoodIn wsX5_shaded wsX5_blocks := goodIn_r _ [14, 15, 16, 7, 24, 25, 26, 27, 28, 29, 30, 31, 32, 33, 34, 35, 36, 37, 38, 39, 40, 41, 42, 43, 44, 45, 46, 47, 48, 49, 50, 51, 52, 53, 54, 55, 56] rfl (by decide +kernel)
set_option maxRecDepth 20000 in
theorem gX5_shaded_X5_blocks : GoodIn wsX5_shaded (wsV RX5 119 RX5 yX5_blocks wsX5_blocks) := goodIn_app (goodIn_of _ (by decide +kernel)) ggX5_shaded_X5_blocks
set_option maxRecDepth 20000 in
theorem ggX5_shaded_X5_shades : GoodIn wsX5_shaded wsX5_shades := goodIn_r _ [20, 21, 7, 15, 22, 16, 23, 24, 25, 26, 27, 28, 29, 30, 31, 32, 33, 34, 35, 36, 37, 38, 39, 40, 41, 42, 43, 44, 45, 46, 47, 48, 49, 50, 51, 52, 53, 54, 55, 56] rfl (by decide +kernel)
set_option maxRecDepth 20000 in
theorem gX5_shaded_X5_shades : GoodIn wsX5_shaded (wsV RX5 122 RX5 yX5_shades wsX5_shades) := goodIn_app (goodIn_of _ (by decide +kernel)) ggX5_shaded_X5_shades
theorem dX5_shaded_0 : decode cX5_shaded 0 = .ok (.aload_n 0, 1) := by decide +kernel
theorem dX5_shaded_1 : decode cX5_shaded 1 = .ok (.iconst 0, 1) := by decide +kernel
theorem dX5_shaded_2 : decode cX5_shaded 2 = .ok (.putfield 1, 3) := by decide +kernel
theorem dX5_shaded_5 : decode cX5_shaded 5 = .ok (.aload_n 0, 1) := by decide +kernel
theorem dX5_shaded_6 : decode cX5_shaded 6 = .ok (.iload_n 1, 1) := by decide +kernel
theorem dX5_shaded_7 : decode cX5_shaded 7 = .ok (.invokevirtual 116, 3) := by decide +kernel
theorem dX5_shaded_10 : decode cX5_shaded 10 = .ok (.ifCond .eq 31, 3) := by decide +kernel
theorem dX5_shaded_13 : decode cX5_shaded 13 = .ok (.iload_n 2, 1) := by decide +kernel
theorem dX5_shaded_14 : decode cX5_shaded 14 = .ok (.invokestatic 105, 3) := by decide +kernel
theorem dX5_shaded_17 : decode cX5_shaded 17 = .ok (.ifCond .eq 24, 3) := by decide +kernel
theorem dX5_shaded_20 : decode cX5_shaded 20 = .ok (.iload_n 3, 1) := by decide +kernel
theorem dX5_shaded_21 : decode cX5_shaded 21 = .ok (.ifCond .eq 11, 3) := by decide +kernel
theorem dX5_shaded_24 : decode cX5_shaded 24 = .ok (.aload_n 0, 1) := by decide +kernel
theorem dX5_shaded_25 : decode cX5_shaded 25 = .ok (.iload_n 1, 1) := by decide +kernel
theorem dX5_shaded_26 : decode cX5_shaded 26 = .ok (.invokevirtual 119, 3) := by decide +kernel
theorem dX5_shaded_29 : decode cX5_shaded 29 = .ok (.goto 13, 3) := by decide +kernel
theorem dX5_shaded_32 : decode cX5_shaded 32 = .ok (.aload_n 0, 1) := by decide +kernel
theorem dX5_shaded_33 : decode cX5_shaded 33 = .ok (.iload_n 1, 1) := by decide +kernel
theorem dX5_shaded_34 : decode cX5_shaded 34 = .ok (.iload_n 2, 1) := by decide +kernel
theorem dX5_shaded_35 : decode cX5_shaded 35 = .ok (.invokevirtual 122, 3) := by decide +kernel
theorem dX5_shaded_38 : decode cX5_shaded 38 = .ok (.goto 4, 3) := by decide +kernel
theorem dX5_shaded_41 : decode cX5_shaded 41 = .ok (.iconst (-1), 1) := by decide +kernel
theorem dX5_shaded_42 : decode cX5_shaded 42 = .ok (.ireturn, 1) := by decide +kernel
theorem dX5_isStowed_0 : decode cX5_isStowed 0 = .ok (.aload_n 0, 1) := by decide +kernel
theorem dX5_isStowed_1 : decode cX5_isStowed 1 = .ok (.getfield 41, 3) := by decide +kernel
theorem dX5_isStowed_4 : decode cX5_isStowed 4 = .ok (.iload_n 1, 1) := by decide +kernel
theorem dX5_isStowed_5 : decode cX5_isStowed 5 = .ok (.iaload, 1) := by decide +kernel
theorem dX5_isStowed_6 : decode cX5_isStowed 6 = .ok (.bipush 50, 2) := by decide +kernel
theorem dX5_isStowed_8 : decode cX5_isStowed 8 = .ok (.if_icmp .gt 24, 3) := by decide +kernel
end
section
theorem dX5_isStowed_11 : decode cX5_isStowed 11 = .ok (.iload_n 1, 1) := by decide +kernel
theorem dX5_isStowed_12 : decode cX5_isStowed 12 = .ok (.iconst 1, 1) := by decide +kernel
theorem dX5_isStowed_13 : decode cX5_isStowed 13 = .ok (.iadd, 1) := by decide +kernel
theorem dX5_isStowed_14 : decode cX5_isStowed 14 = .ok (.bipush 24, 2) := by decide +kernel
theorem dX5_isStowed_16 : decode cX5_isStowed 16 = .ok (.if_icmp .ge 20, 3) := by decide +kernel
theorem dX5_isStowed_19 : decode cX5_isStowed 19 = .ok (.aload_n 0, 1) := by decide +kernel
theorem dX5_isStowed_20 : decode cX5_isStowed 20 = .ok (.getfield 41, 3) := by decide +kernel
theorem dX5_isStowed_23 : decode cX5_isStowed 23 = .ok (.iload_n 1, 1) := by decide +kernel
theorem dX5_isStowed_24 : decode cX5_isStowed 24 = .ok (.iconst 1, 1) := by decide +kernel
theorem dX5_isStowed_25 : decode cX5_isStowed 25 = .ok (.iadd, 1) := by decide +kernel
theorem dX5_isStowed_26 : decode cX5_isStowed 26 = .ok (.iaload, 1) := by decide +kernel
theorem dX5_isStowed_27 : decode cX5_isStowed 27 = .ok (.bipush 50, 2) := by decide +kernel
theorem dX5_isStowed_29 : decode cX5_isStowed 29 = .ok (.if_icmp .le 7, 3) := by decide +kernel
theorem dX5_isStowed_32 : decode cX5_isStowed 32 = .ok (.iconst 1, 1) := by decide +kernel
theorem dX5_isStowed_33 : decode cX5_isStowed 33 = .ok (.goto 4, 3) := by decide +kernel
theorem dX5_isStowed_36 : decode cX5_isStowed 36 = .ok (.iconst 0, 1) := by decide +kernel
theorem dX5_isStowed_37 : decode cX5_isStowed 37 = .ok (.ireturn, 1) := by decide +kernel
set_option maxRecDepth 20000 in
theorem ggX5_powerOf_X5_isStowed : GoodIn wsX5_powerOf wsX5_isStowed := goodIn_r _ [14, 15, 29, 30, 31, 32, 33, 34, 35, 36, 37, 38, 39, 40, 41, 42, 43, 44, 45, 46, 47, 48, 49, 50, 51, 52, 53, 54, 55, 56, 57, 58, 59, 60, 61] rfl (by decide +kernel)
set_option maxRecDepth 20000 in
theorem gX5_powerOf_X5_isStowed : GoodIn wsX5_powerOf (wsV RX5 126 RX5 yX5_isStowed wsX5_isStowed) := goodIn_app (goodIn_of _ (by decide +kernel)) ggX5_powerOf_X5_isStowed
set_option maxRecDepth 20000 in
theorem ggX5_powerOf_X5_shades : GoodIn wsX5_powerOf wsX5_shades := goodIn_r _ [19, 1, 20, 21, 22, 23, 24, 29, 30, 31, 32, 33, 34, 35, 36, 37, 38, 39, 40, 41, 42, 43, 44, 45, 46, 47, 48, 49, 50, 51, 52, 53, 54, 55, 56, 57, 58, 59, 60, 61] rfl (by decide +kernel)
set_option maxRecDepth 20000 in
theorem gX5_powerOf_X5_shades : GoodIn wsX5_powerOf (wsV RX5 122 RX5 yX5_shades wsX5_shades) := goodIn_app (goodIn_of _ (by decide +kernel)) ggX5_powerOf_X5_shades
set_option maxRecDepth 20000 in
theorem ggX5_powerOf_X5_blocks : GoodIn wsX5_powerOf wsX5_blocks := goodIn_r _ [28, 21, 23, 20, 29, 30, 31, 32, 33, 34, 35, 36, 37, 38, 39, 40, 41, 42, 43, 44, 45, 46, 47, 48, 49, 50, 51, 52, 53, 54, 55, 56, 57, 58, 59, 60, 61] rfl (by decide +kernel)
set_option maxRecDepth 20000 in
theorem gX5_powerOf_X5_blocks : GoodIn wsX5_powerOf (wsV RX5 119 RX5 yX5_blocks wsX5_blocks) := goodIn_app (goodIn_of _ (by decide +kernel)) ggX5_powerOf_X5_blocks
theorem dX5_powerOf_0 : decode cX5_powerOf 0 = .ok (.aload_n 0, 1) := by decide +kernel
theorem dX5_powerOf_1 : decode cX5_powerOf 1 = .ok (.getfield 38, 3) := by decide +kernel
theorem dX5_powerOf_4 : decode cX5_powerOf 4 = .ok (.iload_n 2, 1) := by decide +kernel
theorem dX5_powerOf_5 : decode cX5_powerOf 5 = .ok (.iaload, 1) := by decide +kernel
theorem dX5_powerOf_6 : decode cX5_powerOf 6 = .ok (.ifCond .eq 11, 3) := by decide +kernel
theorem dX5_powerOf_9 : decode cX5_powerOf 9 = .ok (.aload_n 0, 1) := by decide +kernel
theorem dX5_powerOf_10 : decode cX5_powerOf 10 = .ok (.iload_n 2, 1) := by decide +kernel
theorem dX5_powerOf_11 : decode cX5_powerOf 11 = .ok (.invokevirtual 126, 3) := by decide +kernel
theorem dX5_powerOf_14 : decode cX5_powerOf 14 = .ok (.ifCond .eq 5, 3) := by decide +kernel
theorem dX5_powerOf_17 : decode cX5_powerOf 17 = .ok (.iconst 0, 1) := by decide +kernel
theorem dX5_powerOf_18 : decode cX5_powerOf 18 = .ok (.ireturn, 1) := by decide +kernel
theorem dX5_powerOf_19 : decode cX5_powerOf 19 = .ok (.iconst 0, 1) := by decide +kernel
theorem dX5_powerOf_20 : decode cX5_powerOf 20 = .ok (.bipush 10, 2) := by decide +kernel
theorem dX5_powerOf_22 : decode cX5_powerOf 22 = .ok (.aload_n 0, 1) := by decide +kernel
theorem dX5_powerOf_23 : decode cX5_powerOf 23 = .ok (.getfield 38, 3) := by decide +kernel
theorem dX5_powerOf_26 : decode cX5_powerOf 26 = .ok (.iload_n 2, 1) := by decide +kernel
theorem dX5_powerOf_27 : decode cX5_powerOf 27 = .ok (.iaload, 1) := by decide +kernel
theorem dX5_powerOf_28 : decode cX5_powerOf 28 = .ok (.imul, 1) := by decide +kernel
theorem dX5_powerOf_29 : decode cX5_powerOf 29 = .ok (.bipush 10, 2) := by decide +kernel
theorem dX5_powerOf_31 : decode cX5_powerOf 31 = .ok (.iadd, 1) := by decide +kernel
theorem dX5_powerOf_32 : decode cX5_powerOf 32 = .ok (.bipush 90, 2) := by decide +kernel
theorem dX5_powerOf_34 : decode cX5_powerOf 34 = .ok (.aload_n 0, 1) := by decide +kernel
theorem dX5_powerOf_35 : decode cX5_powerOf 35 = .ok (.getfield 26, 3) := by decide +kernel
theorem dX5_powerOf_38 : decode cX5_powerOf 38 = .ok (.iload_n 1, 1) := by decide +kernel
theorem dX5_powerOf_39 : decode cX5_powerOf 39 = .ok (.iaload, 1) := by decide +kernel
theorem dX5_powerOf_40 : decode cX5_powerOf 40 = .ok (.iload_n 3, 1) := by decide +kernel
theorem dX5_powerOf_41 : decode cX5_powerOf 41 = .ok (.iadd, 1) := by decide +kernel
theorem dX5_powerOf_42 : decode cX5_powerOf 42 = .ok (.invokestatic 129, 3) := by decide +kernel
theorem dX5_powerOf_45 : decode cX5_powerOf 45 = .ok (.isub, 1) := by decide +kernel
theorem dX5_powerOf_46 : decode cX5_powerOf 46 = .ok (.invokestatic 134, 3) := by decide +kernel
theorem dX5_powerOf_49 : decode cX5_powerOf 49 = .ok (.istore 4, 2) := by decide +kernel
theorem dX5_powerOf_51 : decode cX5_powerOf 51 = .ok (.aload_n 0, 1) := by decide +kernel
theorem dX5_powerOf_52 : decode cX5_powerOf 52 = .ok (.iload_n 1, 1) := by decide +kernel
theorem dX5_powerOf_53 : decode cX5_powerOf 53 = .ok (.iload_n 2, 1) := by decide +kernel
theorem dX5_powerOf_54 : decode cX5_powerOf 54 = .ok (.invokevirtual 122, 3) := by decide +kernel
theorem dX5_powerOf_57 : decode cX5_powerOf 57 = .ok (.aload_n 0, 1) := by decide +kernel
theorem dX5_powerOf_58 : decode cX5_powerOf 58 = .ok (.iload_n 1, 1) := by decide +kernel
theorem dX5_powerOf_59 : decode cX5_powerOf 59 = .ok (.invokevirtual 119, 3) := by decide +kernel
theorem dX5_powerOf_62 : decode cX5_powerOf 62 = .ok (.iadd, 1) := by decide +kernel
theorem dX5_powerOf_63 : decode cX5_powerOf 63 = .ok (.istore 5, 2) := by decide +kernel
theorem dX5_powerOf_65 : decode cX5_powerOf 65 = .ok (.iload 5, 2) := by decide +kernel
theorem dX5_powerOf_67 : decode cX5_powerOf 67 = .ok (.ifCond .le 15, 3) := by decide +kernel
theorem dX5_powerOf_70 : decode cX5_powerOf 70 = .ok (.iload 4, 2) := by decide +kernel
theorem dX5_powerOf_72 : decode cX5_powerOf 72 = .ok (.iconst 2, 1) := by decide +kernel
theorem dX5_powerOf_73 : decode cX5_powerOf 73 = .ok (.idiv, 1) := by decide +kernel
theorem dX5_powerOf_74 : decode cX5_powerOf 74 = .ok (.istore 4, 2) := by decide +kernel
theorem dX5_powerOf_76 : decode cX5_powerOf 76 = .ok (.iinc 5 (-1), 3) := by decide +kernel
theorem dX5_powerOf_79 : decode cX5_powerOf 79 = .ok (.goto (-14), 3) := by decide +kernel
theorem dX5_powerOf_82 : decode cX5_powerOf 82 = .ok (.iload 4, 2) := by decide +kernel
theorem dX5_powerOf_84 : decode cX5_powerOf 84 = .ok (.ireturn, 1) := by decide +kernel
set_option maxRecDepth 20000 in
theorem ggX5_power_X5_isMirror : GoodIn wsX5_power wsX5_isMirror := goodIn_r _ [6, 7, 41, 42, 43, 44, 45, 46, 47, 48, 49, 50, 51, 52, 53, 54, 55, 56, 57, 58, 59, 60, 61, 62, 63, 64, 65, 66, 67, 68, 69, 70, 71, 72, 73] rfl (by decide +kernel)
set_option maxRecDepth 20000 in
theorem gX5_power_X5_isMirror : GoodIn wsX5_power (wsV RX5 116 RX5 yX5_isMirror wsX5_isMirror) := goodIn_app (goodIn_of _ (by decide +kernel)) ggX5_power_X5_isMirror
set_option maxRecDepth 20000 in
theorem ggX5_power_X5_isHour : GoodIn wsX5_power wsX5_isHour := goodIn_r _ [10] rfl (by decide +kernel)
set_option maxRecDepth 20000 in
theorem gX5_power_X5_isHour : GoodIn wsX5_power (va_wsS RX5 105 yX5_isHour wsX5_isHour) := goodIn_app (goodIn_of _ (by decide +kernel)) ggX5_power_X5_isHour
set_option maxRecDepth 20000 in
theorem ggX5_power_X5_powerOf : GoodIn wsX5_power wsX5_powerOf := goodIn_r _ [14, 15, 16, 17, 18, 19, 20, 21, 22, 23, 24, 25, 26, 5, 27, 28, 29, 30, 31, 32, 7, 33, 34, 35, 36, 37, 38, 39, 40, 41, 42, 43, 44, 45, 46, 47, 48, 49, 50, 51, 52, 53, 54, 55, 56, 57, 58, 59, 60, 61, 62, 63, 64, 65, 66, 67, 68, 69, 70, 71, 72, 73] rfl (by decide +kernel)
set_option maxRecDepth 20000 in
theorem gX5_power_X5_powerOf : GoodIn wsX5_power (wsV RX5 137 RX5 yX5_powerOf wsX5_powerOf) := goodIn_app (goodIn_of _ (by decide +kernel)) ggX5_power_X5_powerOf
theorem dX5_power_0 : decode cX5_power 0 = .ok (.aload_n 0, 1) := by decide +kernel
theorem dX5_power_1 : decode cX5_power 1 = .ok (.iconst 0, 1) := by decide +kernel
theorem dX5_power_2 : decode cX5_power 2 = .ok (.putfield 1, 3) := by decide +kernel
theorem dX5_power_5 : decode cX5_power 5 = .ok (.aload_n 0, 1) := by decide +kernel
theorem dX5_power_6 : decode cX5_power 6 = .ok (.iload_n 1, 1) := by decide +kernel
theorem dX5_power_7 : decode cX5_power 7 = .ok (.invokevirtual 116, 3) := by decide +kernel
theorem dX5_power_10 : decode cX5_power 10 = .ok (.ifCond .eq 20, 3) := by decide +kernel
theorem dX5_power_13 : decode cX5_power 13 = .ok (.iload_n 2, 1) := by decide +kernel
theorem dX5_power_14 : decode cX5_power 14 = .ok (.invokestatic 105, 3) := by decide +kernel
theorem dX5_power_17 : decode cX5_power 17 = .ok (.ifCond .eq 13, 3) := by decide +kernel
theorem dX5_power_20 : decode cX5_power 20 = .ok (.aload_n 0, 1) := by decide +kernel
theorem dX5_power_21 : decode cX5_power 21 = .ok (.iload_n 1, 1) := by decide +kernel
theorem dX5_power_22 : decode cX5_power 22 = .ok (.iload_n 2, 1) := by decide +kernel
theorem dX5_power_23 : decode cX5_power 23 = .ok (.iconst 0, 1) := by decide +kernel
theorem dX5_power_24 : decode cX5_power 24 = .ok (.invokevirtual 137, 3) := by decide +kernel
theorem dX5_power_27 : decode cX5_power 27 = .ok (.goto 4, 3) := by decide +kernel
theorem dX5_power_30 : decode cX5_power 30 = .ok (.iconst (-1), 1) := by decide +kernel
theorem dX5_power_31 : decode cX5_power 31 = .ok (.ireturn, 1) := by decide +kernel
set_option maxRecDepth 20000 in
theorem ggX5_stowed_X5_isHour : GoodIn wsX5_stowed wsX5_isHour := goodIn_r _ [5] rfl (by decide +kernel)
set_option maxRecDepth 20000 in
theorem gX5_stowed_X5_isHour : GoodIn wsX5_stowed (va_wsS RX5 105 yX5_isHour wsX5_isHour) := goodIn_app (goodIn_of _ (by decide +kernel)) ggX5_stowed_X5_isHour
set_option maxRecDepth 20000 in
theorem ggX5_stowed_X5_isStowed : GoodIn wsX5_stowed wsX5_isStowed := goodIn_r _ [9, 10, 11, 12, 13, 14, 15, 16, 17, 18, 19, 20, 21, 22, 23, 24, 25, 26, 27, 28, 29, 30, 31, 32, 33, 34, 35, 36, 37, 38, 39, 40, 41, 42, 43] rfl (by decide +kernel)
set_option maxRecDepth 20000 in
theorem gX5_stowed_X5_isStowed : GoodIn wsX5_stowed (wsV RX5 126 RX5 yX5_isStowed wsX5_isStowed) := goodIn_app (goodIn_of _ (by decide +kernel)) ggX5_stowed_X5_isStowed
theorem dX5_stowed_0 : decode cX5_stowed 0 = .ok (.aload_n 0, 1) := by decide +kernel
theorem dX5_stowed_1 : decode cX5_stowed 1 = .ok (.iconst 0, 1) := by decide +kernel
theorem dX5_stowed_2 : decode cX5_stowed 2 = .ok (.putfield 1, 3) := by decide +kernel
theorem dX5_stowed_5 : decode cX5_stowed 5 = .ok (.iload_n 1, 1) := by decide +kernel
theorem dX5_stowed_6 : decode cX5_stowed 6 = .ok (.invokestatic 105, 3) := by decide +kernel
theorem dX5_stowed_9 : decode cX5_stowed 9 = .ok (.ifCond .eq 19, 3) := by decide +kernel
theorem dX5_stowed_12 : decode cX5_stowed 12 = .ok (.aload_n 0, 1) := by decide +kernel
theorem dX5_stowed_13 : decode cX5_stowed 13 = .ok (.iload_n 1, 1) := by decide +kernel
theorem dX5_stowed_14 : decode cX5_stowed 14 = .ok (.invokevirtual 126, 3) := by decide +kernel
theorem dX5_stowed_17 : decode cX5_stowed 17 = .ok (.ifCond .eq 7, 3) := by decide +kernel
theorem dX5_stowed_20 : decode cX5_stowed 20 = .ok (.iconst 1, 1) := by decide +kernel
theorem dX5_stowed_21 : decode cX5_stowed 21 = .ok (.goto 8, 3) := by decide +kernel
theorem dX5_stowed_24 : decode cX5_stowed 24 = .ok (.iconst 0, 1) := by decide +kernel
theorem dX5_stowed_25 : decode cX5_stowed 25 = .ok (.goto 4, 3) := by decide +kernel
theorem dX5_stowed_28 : decode cX5_stowed 28 = .ok (.iconst (-1), 1) := by decide +kernel
theorem dX5_stowed_29 : decode cX5_stowed 29 = .ok (.ireturn, 1) := by decide +kernel
set_option maxRecDepth 20000 in
theorem ggX5_soil_X5_isMirror : GoodIn wsX5_soil wsX5_isMirror := goodIn_r _ [7, 8, 9, 10, 11, 12, 13, 14, 15, 16, 17, 18, 19, 20, 21, 22, 23, 24, 25, 26, 27, 28, 29, 30, 31, 32, 33, 34, 35, 36, 37, 38, 39, 40, 41] rfl (by decide +kernel)
set_option maxRecDepth 20000 in
theorem gX5_soil_X5_isMirror : GoodIn wsX5_soil (wsV RX5 116 RX5 yX5_isMirror wsX5_isMirror) := goodIn_app (goodIn_of _ (by decide +kernel)) ggX5_soil_X5_isMirror
theorem dX5_soil_0 : decode cX5_soil 0 = .ok (.aload_n 0, 1) := by decide +kernel
theorem dX5_soil_1 : decode cX5_soil 1 = .ok (.iconst 0, 1) := by decide +kernel
theorem dX5_soil_2 : decode cX5_soil 2 = .ok (.putfield 1, 3) := by decide +kernel
theorem dX5_soil_5 : decode cX5_soil 5 = .ok (.aload_n 0, 1) := by decide +kernel
theorem dX5_soil_6 : decode cX5_soil 6 = .ok (.iload_n 1, 1) := by decide +kernel
theorem dX5_soil_7 : decode cX5_soil 7 = .ok (.invokevirtual 116, 3) := by decide +kernel
theorem dX5_soil_10 : decode cX5_soil 10 = .ok (.ifCond .eq 12, 3) := by decide +kernel
theorem dX5_soil_13 : decode cX5_soil 13 = .ok (.aload_n 0, 1) := by decide +kernel
theorem dX5_soil_14 : decode cX5_soil 14 = .ok (.getfield 26, 3) := by decide +kernel
theorem dX5_soil_17 : decode cX5_soil 17 = .ok (.iload_n 1, 1) := by decide +kernel
theorem dX5_soil_18 : decode cX5_soil 18 = .ok (.iaload, 1) := by decide +kernel
theorem dX5_soil_19 : decode cX5_soil 19 = .ok (.goto 4, 3) := by decide +kernel
theorem dX5_soil_22 : decode cX5_soil 22 = .ok (.iconst (-1), 1) := by decide +kernel
theorem dX5_soil_23 : decode cX5_soil 23 = .ok (.ireturn, 1) := by decide +kernel
set_option maxRecDepth 20000 in
theorem ggX5_wash_X5_in : GoodIn wsX5_wash wsX5_in := goodIn_r _ [7] rfl (by decide +kernel)
set_option maxRecDepth 20000 in
theorem gX5_wash_X5_in : GoodIn wsX5_wash (va_wsS RX5 94 yX5_in wsX5_in) := goodIn_app (goodIn_of _ (by decide +kernel)) ggX5_wash_X5_in
set_option maxRecDepth 20000 in
theorem ggX5_wash_X5_refused : GoodIn wsX5_wash wsX5_refused := goodIn_r _ [11, 12, 17, 18, 19, 20, 21, 22, 23, 24, 25, 26, 27, 28, 29, 30, 31, 32, 33, 34, 35, 36, 37, 38, 39, 40, 41, 42, 43, 44, 45, 46, 47, 48, 49] rfl (by decide +kernel)
set_option maxRecDepth 20000 in
theorem gX5_wash_X5_refused : GoodIn wsX5_wash (wsV RX5 98 RX5 yX5_refused wsX5_refused) := goodIn_app (goodIn_of _ (by decide +kernel)) ggX5_wash_X5_refused
set_option maxRecDepth 20000 in
theorem ggX5_wash_X5_done : GoodIn wsX5_wash wsX5_done := goodIn_r _ [16, 12, 17, 18, 19, 20, 21, 22, 23, 24, 25, 26, 27, 28, 29, 30, 31, 32, 33, 34, 35, 36, 37, 38, 39, 40, 41, 42, 43, 44, 45, 46, 47, 48, 49] rfl (by decide +kernel)
set_option maxRecDepth 20000 in
theorem gX5_wash_X5_done : GoodIn wsX5_wash (wsV RX5 102 RX5 yX5_done wsX5_done) := goodIn_app (goodIn_of _ (by decide +kernel)) ggX5_wash_X5_done
theorem dX5_wash_0 : decode cX5_wash 0 = .ok (.aload_n 0, 1) := by decide +kernel
theorem dX5_wash_1 : decode cX5_wash 1 = .ok (.iconst 0, 1) := by decide +kernel
theorem dX5_wash_2 : decode cX5_wash 2 = .ok (.putfield 1, 3) := by decide +kernel
theorem dX5_wash_5 : decode cX5_wash 5 = .ok (.iload_n 1, 1) := by decide +kernel
theorem dX5_wash_6 : decode cX5_wash 6 = .ok (.iconst 1, 1) := by decide +kernel
theorem dX5_wash_7 : decode cX5_wash 7 = .ok (.bipush 40, 2) := by decide +kernel
theorem dX5_wash_9 : decode cX5_wash 9 = .ok (.invokestatic 94, 3) := by decide +kernel
theorem dX5_wash_12 : decode cX5_wash 12 = .ok (.ifCond .ne 9, 3) := by decide +kernel
theorem dX5_wash_15 : decode cX5_wash 15 = .ok (.aload_n 0, 1) := by decide +kernel
theorem dX5_wash_16 : decode cX5_wash 16 = .ok (.iconst 2, 1) := by decide +kernel
theorem dX5_wash_17 : decode cX5_wash 17 = .ok (.invokevirtual 98, 3) := by decide +kernel
theorem dX5_wash_20 : decode cX5_wash 20 = .ok (.ireturn, 1) := by decide +kernel
theorem dX5_wash_21 : decode cX5_wash 21 = .ok (.iconst 0, 1) := by decide +kernel
theorem dX5_wash_22 : decode cX5_wash 22 = .ok (.istore_n 2, 1) := by decide +kernel
theorem dX5_wash_23 : decode cX5_wash 23 = .ok (.iconst 0, 1) := by decide +kernel
theorem dX5_wash_24 : decode cX5_wash 24 = .ok (.istore_n 3, 1) := by decide +kernel
theorem dX5_wash_25 : decode cX5_wash 25 = .ok (.iload_n 3, 1) := by decide +kernel
theorem dX5_wash_26 : decode cX5_wash 26 = .ok (.iload_n 1, 1) := by decide +kernel
theorem dX5_wash_27 : decode cX5_wash 27 = .ok (.if_icmp .ge 97, 3) := by decide +kernel
theorem dX5_wash_30 : decode cX5_wash 30 = .ok (.iconst (-1), 1) := by decide +kernel
theorem dX5_wash_31 : decode cX5_wash 31 = .ok (.istore 4, 2) := by decide +kernel
theorem dX5_wash_33 : decode cX5_wash 33 = .ok (.iconst 0, 1) := by decide +kernel
theorem dX5_wash_34 : decode cX5_wash 34 = .ok (.istore 5, 2) := by decide +kernel
theorem dX5_wash_36 : decode cX5_wash 36 = .ok (.iload 5, 2) := by decide +kernel
theorem dX5_wash_38 : decode cX5_wash 38 = .ok (.aload_n 0, 1) := by decide +kernel
theorem dX5_wash_39 : decode cX5_wash 39 = .ok (.getfield 91, 3) := by decide +kernel
theorem dX5_wash_42 : decode cX5_wash 42 = .ok (.if_icmp .ge 46, 3) := by decide +kernel
theorem dX5_wash_45 : decode cX5_wash 45 = .ok (.aload_n 0, 1) := by decide +kernel
theorem dX5_wash_46 : decode cX5_wash 46 = .ok (.getfield 26, 3) := by decide +kernel
theorem dX5_wash_49 : decode cX5_wash 49 = .ok (.iload 5, 2) := by decide +kernel
theorem dX5_wash_51 : decode cX5_wash 51 = .ok (.iaload, 1) := by decide +kernel
theorem dX5_wash_52 : decode cX5_wash 52 = .ok (.ifCond .le 30, 3) := by decide +kernel
theorem dX5_wash_55 : decode cX5_wash 55 = .ok (.iload 4, 2) := by decide +kernel
theorem dX5_wash_57 : decode cX5_wash 57 = .ok (.iconst (-1), 1) := by decide +kernel
theorem dX5_wash_58 : decode cX5_wash 58 = .ok (.if_icmp .eq 20, 3) := by decide +kernel
theorem dX5_wash_61 : decode cX5_wash 61 = .ok (.aload_n 0, 1) := by decide +kernel
theorem dX5_wash_62 : decode cX5_wash 62 = .ok (.getfield 26, 3) := by decide +kernel
theorem dX5_wash_65 : decode cX5_wash 65 = .ok (.iload 5, 2) := by decide +kernel
theorem dX5_wash_67 : decode cX5_wash 67 = .ok (.iaload, 1) := by decide +kernel
theorem dX5_wash_68 : decode cX5_wash 68 = .ok (.aload_n 0, 1) := by decide +kernel
theorem dX5_wash_69 : decode cX5_wash 69 = .ok (.getfield 26, 3) := by decide +kernel
theorem dX5_wash_72 : decode cX5_wash 72 = .ok (.iload 4, 2) := by decide +kernel
theorem dX5_wash_74 : decode cX5_wash 74 = .ok (.iaload, 1) := by decide +kernel
theorem dX5_wash_75 : decode cX5_wash 75 = .ok (.if_icmp .le 7, 3) := by decide +kernel
theorem dX5_wash_78 : decode cX5_wash 78 = .ok (.iload 5, 2) := by decide +kernel
theorem dX5_wash_80 : decode cX5_wash 80 = .ok (.istore 4, 2) := by decide +kernel
theorem dX5_wash_82 : decode cX5_wash 82 = .ok (.iinc 5 1, 3) := by decide +kernel
theorem dX5_wash_85 : decode cX5_wash 85 = .ok (.goto (-49), 3) := by decide +kernel
theorem dX5_wash_88 : decode cX5_wash 88 = .ok (.iload 4, 2) := by decide +kernel
theorem dX5_wash_90 : decode cX5_wash 90 = .ok (.iconst (-1), 1) := by decide +kernel
theorem dX5_wash_91 : decode cX5_wash 91 = .ok (.if_icmp .ne 9, 3) := by decide +kernel
theorem dX5_wash_94 : decode cX5_wash 94 = .ok (.aload_n 0, 1) := by decide +kernel
theorem dX5_wash_95 : decode cX5_wash 95 = .ok (.iload_n 2, 1) := by decide +kernel
theorem dX5_wash_96 : decode cX5_wash 96 = .ok (.invokevirtual 102, 3) := by decide +kernel
theorem dX5_wash_99 : decode cX5_wash 99 = .ok (.ireturn, 1) := by decide +kernel
theorem dX5_wash_100 : decode cX5_wash 100 = .ok (.iload_n 2, 1) := by decide +kernel
theorem dX5_wash_101 : decode cX5_wash 101 = .ok (.aload_n 0, 1) := by decide +kernel
theorem dX5_wash_102 : decode cX5_wash 102 = .ok (.getfield 26, 3) := by decide +kernel
theorem dX5_wash_105 : decode cX5_wash 105 = .ok (.iload 4, 2) := by decide +kernel
theorem dX5_wash_107 : decode cX5_wash 107 = .ok (.iaload, 1) := by decide +kernel
theorem dX5_wash_108 : decode cX5_wash 108 = .ok (.iadd, 1) := by decide +kernel
theorem dX5_wash_109 : decode cX5_wash 109 = .ok (.istore_n 2, 1) := by decide +kernel
theorem dX5_wash_110 : decode cX5_wash 110 = .ok (.aload_n 0, 1) := by decide +kernel
theorem dX5_wash_111 : decode cX5_wash 111 = .ok (.getfield 26, 3) := by decide +kernel
theorem dX5_wash_114 : decode cX5_wash 114 = .ok (.iload 4, 2) := by decide +kernel
theorem dX5_wash_116 : decode cX5_wash 116 = .ok (.iconst 0, 1) := by decide +kernel
theorem dX5_wash_117 : decode cX5_wash 117 = .ok (.iastore, 1) := by decide +kernel
theorem dX5_wash_118 : decode cX5_wash 118 = .ok (.iinc 3 1, 3) := by decide +kernel
theorem dX5_wash_121 : decode cX5_wash 121 = .ok (.goto (-96), 3) := by decide +kernel
theorem dX5_wash_124 : decode cX5_wash 124 = .ok (.aload_n 0, 1) := by decide +kernel
theorem dX5_wash_125 : decode cX5_wash 125 = .ok (.iload_n 2, 1) := by decide +kernel
theorem dX5_wash_126 : decode cX5_wash 126 = .ok (.invokevirtual 102, 3) := by decide +kernel
theorem dX5_wash_129 : decode cX5_wash 129 = .ok (.ireturn, 1) := by decide +kernel
set_option maxRecDepth 20000 in
theorem ggX5_orders_X5_powerOf : GoodIn wsX5_orders wsX5_powerOf := goodIn_r _ [8, 9, 10, 11, 12, 13, 14, 15, 16, 17, 18, 19, 20, 7, 21, 22, 23, 24, 25, 26, 1, 27, 28, 29, 30, 31, 32, 33, 34, 35, 36, 37, 38, 39, 40, 41, 42, 43, 44, 45, 46, 47, 48, 49, 50, 51, 52, 53, 54, 55, 56, 57, 58, 59, 60, 61, 62, 63, 64, 65, 66, 67] rfl (by decide +kernel)
set_option maxRecDepth 20000 in
theorem gX5_orders_X5_powerOf : GoodIn wsX5_orders (wsV RX5 137 RX5 yX5_powerOf wsX5_powerOf) := goodIn_app (goodIn_of _ (by decide +kernel)) ggX5_orders_X5_powerOf
theorem dX5_orders_0 : decode cX5_orders 0 = .ok (.iconst 0, 1) := by decide +kernel
theorem dX5_orders_1 : decode cX5_orders 1 = .ok (.istore_n 3, 1) := by decide +kernel
theorem dX5_orders_2 : decode cX5_orders 2 = .ok (.iload_n 3, 1) := by decide +kernel
theorem dX5_orders_3 : decode cX5_orders 3 = .ok (.aload_n 0, 1) := by decide +kernel
theorem dX5_orders_4 : decode cX5_orders 4 = .ok (.getfield 91, 3) := by decide +kernel
theorem dX5_orders_7 : decode cX5_orders 7 = .ok (.if_icmp .ge 83, 3) := by decide +kernel
theorem dX5_orders_10 : decode cX5_orders 10 = .ok (.aload_n 0, 1) := by decide +kernel
theorem dX5_orders_11 : decode cX5_orders 11 = .ok (.getfield 50, 3) := by decide +kernel
theorem dX5_orders_14 : decode cX5_orders 14 = .ok (.iload_n 3, 1) := by decide +kernel
theorem dX5_orders_15 : decode cX5_orders 15 = .ok (.aload_n 0, 1) := by decide +kernel
theorem dX5_orders_16 : decode cX5_orders 16 = .ok (.iload_n 3, 1) := by decide +kernel
theorem dX5_orders_17 : decode cX5_orders 17 = .ok (.iload_n 1, 1) := by decide +kernel
theorem dX5_orders_18 : decode cX5_orders 18 = .ok (.iload_n 2, 1) := by decide +kernel
theorem dX5_orders_19 : decode cX5_orders 19 = .ok (.invokevirtual 137, 3) := by decide +kernel
theorem dX5_orders_22 : decode cX5_orders 22 = .ok (.iastore, 1) := by decide +kernel
theorem dX5_orders_23 : decode cX5_orders 23 = .ok (.iload_n 3, 1) := by decide +kernel
theorem dX5_orders_24 : decode cX5_orders 24 = .ok (.istore 4, 2) := by decide +kernel
theorem dX5_orders_26 : decode cX5_orders 26 = .ok (.iload 4, 2) := by decide +kernel
theorem dX5_orders_28 : decode cX5_orders 28 = .ok (.ifCond .le 48, 3) := by decide +kernel
theorem dX5_orders_31 : decode cX5_orders 31 = .ok (.aload_n 0, 1) := by decide +kernel
theorem dX5_orders_32 : decode cX5_orders 32 = .ok (.getfield 50, 3) := by decide +kernel
theorem dX5_orders_35 : decode cX5_orders 35 = .ok (.iload_n 3, 1) := by decide +kernel
theorem dX5_orders_36 : decode cX5_orders 36 = .ok (.iaload, 1) := by decide +kernel
theorem dX5_orders_37 : decode cX5_orders 37 = .ok (.aload_n 0, 1) := by decide +kernel
theorem dX5_orders_38 : decode cX5_orders 38 = .ok (.getfield 50, 3) := by decide +kernel
theorem dX5_orders_41 : decode cX5_orders 41 = .ok (.aload_n 0, 1) := by decide +kernel
theorem dX5_orders_42 : decode cX5_orders 42 = .ok (.getfield 47, 3) := by decide +kernel
theorem dX5_orders_45 : decode cX5_orders 45 = .ok (.iload 4, 2) := by decide +kernel
theorem dX5_orders_47 : decode cX5_orders 47 = .ok (.iconst 1, 1) := by decide +kernel
theorem dX5_orders_48 : decode cX5_orders 48 = .ok (.isub, 1) := by decide +kernel
theorem dX5_orders_49 : decode cX5_orders 49 = .ok (.iaload, 1) := by decide +kernel
theorem dX5_orders_50 : decode cX5_orders 50 = .ok (.iaload, 1) := by decide +kernel
theorem dX5_orders_51 : decode cX5_orders 51 = .ok (.if_icmp .le 25, 3) := by decide +kernel
theorem dX5_orders_54 : decode cX5_orders 54 = .ok (.aload_n 0, 1) := by decide +kernel
theorem dX5_orders_55 : decode cX5_orders 55 = .ok (.getfield 47, 3) := by decide +kernel
theorem dX5_orders_58 : decode cX5_orders 58 = .ok (.iload 4, 2) := by decide +kernel
theorem dX5_orders_60 : decode cX5_orders 60 = .ok (.aload_n 0, 1) := by decide +kernel
theorem dX5_orders_61 : decode cX5_orders 61 = .ok (.getfield 47, 3) := by decide +kernel
theorem dX5_orders_64 : decode cX5_orders 64 = .ok (.iload 4, 2) := by decide +kernel
theorem dX5_orders_66 : decode cX5_orders 66 = .ok (.iconst 1, 1) := by decide +kernel
theorem dX5_orders_67 : decode cX5_orders 67 = .ok (.isub, 1) := by decide +kernel
theorem dX5_orders_68 : decode cX5_orders 68 = .ok (.iaload, 1) := by decide +kernel
theorem dX5_orders_69 : decode cX5_orders 69 = .ok (.iastore, 1) := by decide +kernel
theorem dX5_orders_70 : decode cX5_orders 70 = .ok (.iinc 4 (-1), 3) := by decide +kernel
theorem dX5_orders_73 : decode cX5_orders 73 = .ok (.goto (-47), 3) := by decide +kernel
theorem dX5_orders_76 : decode cX5_orders 76 = .ok (.aload_n 0, 1) := by decide +kernel
theorem dX5_orders_77 : decode cX5_orders 77 = .ok (.getfield 47, 3) := by decide +kernel
theorem dX5_orders_80 : decode cX5_orders 80 = .ok (.iload 4, 2) := by decide +kernel
theorem dX5_orders_82 : decode cX5_orders 82 = .ok (.iload_n 3, 1) := by decide +kernel
theorem dX5_orders_83 : decode cX5_orders 83 = .ok (.iastore, 1) := by decide +kernel
theorem dX5_orders_84 : decode cX5_orders 84 = .ok (.iinc 3 1, 3) := by decide +kernel
theorem dX5_orders_87 : decode cX5_orders 87 = .ok (.goto (-85), 3) := by decide +kernel
theorem dX5_orders_90 : decode cX5_orders 90 = .ok (.return_, 1) := by decide +kernel
set_option maxRecDepth 20000 in
theorem ggX5_aims_X5_orders : GoodIn wsX5_aims wsX5_orders := goodIn_r _ [11, 3, 6, 4, 12, 13, 14, 10, 15, 16, 17, 18, 19, 20, 21, 22, 23, 24, 25, 26, 27, 28, 29, 30, 31, 32, 33, 34, 35, 36, 37, 38, 39, 40, 41, 42, 43, 44, 45, 46, 47, 48, 49, 50, 51, 52, 53, 54, 55, 56, 57, 58, 59, 60, 61, 62, 63, 64, 65, 66, 67, 68, 69, 70, 71, 72, 73, 74] rfl (by decide +kernel)
set_option maxRecDepth 20000 in
theorem gX5_aims_X5_orders : GoodIn wsX5_aims (wsV RX5 141 RX5 yX5_orders wsX5_orders) := goodIn_app (goodIn_of _ (by decide +kernel)) ggX5_aims_X5_orders
theorem dX5_aims_0 : decode cX5_aims 0 = .ok (.aload_n 0, 1) := by decide +kernel
theorem dX5_aims_1 : decode cX5_aims 1 = .ok (.iload_n 1, 1) := by decide +kernel
theorem dX5_aims_2 : decode cX5_aims 2 = .ok (.iload_n 2, 1) := by decide +kernel
theorem dX5_aims_3 : decode cX5_aims 3 = .ok (.invokevirtual 141, 3) := by decide +kernel
theorem dX5_aims_6 : decode cX5_aims 6 = .ok (.iconst 0, 1) := by decide +kernel
theorem dX5_aims_7 : decode cX5_aims 7 = .ok (.istore_n 3, 1) := by decide +kernel
theorem dX5_aims_8 : decode cX5_aims 8 = .ok (.iload_n 3, 1) := by decide +kernel
theorem dX5_aims_9 : decode cX5_aims 9 = .ok (.iconst 4, 1) := by decide +kernel
theorem dX5_aims_10 : decode cX5_aims 10 = .ok (.if_icmp .ge 21, 3) := by decide +kernel
theorem dX5_aims_13 : decode cX5_aims 13 = .ok (.aload_n 0, 1) := by decide +kernel
theorem dX5_aims_14 : decode cX5_aims 14 = .ok (.getfield 53, 3) := by decide +kernel
theorem dX5_aims_17 : decode cX5_aims 17 = .ok (.iload_n 3, 1) := by decide +kernel
theorem dX5_aims_18 : decode cX5_aims 18 = .ok (.aload_n 0, 1) := by decide +kernel
theorem dX5_aims_19 : decode cX5_aims 19 = .ok (.getfield 29, 3) := by decide +kernel
theorem dX5_aims_22 : decode cX5_aims 22 = .ok (.iload_n 3, 1) := by decide +kernel
theorem dX5_aims_23 : decode cX5_aims 23 = .ok (.iaload, 1) := by decide +kernel
theorem dX5_aims_24 : decode cX5_aims 24 = .ok (.iastore, 1) := by decide +kernel
theorem dX5_aims_25 : decode cX5_aims 25 = .ok (.iinc 3 1, 3) := by decide +kernel
theorem dX5_aims_28 : decode cX5_aims 28 = .ok (.goto (-20), 3) := by decide +kernel
theorem dX5_aims_31 : decode cX5_aims 31 = .ok (.iconst 0, 1) := by decide +kernel
theorem dX5_aims_32 : decode cX5_aims 32 = .ok (.istore_n 3, 1) := by decide +kernel
theorem dX5_aims_33 : decode cX5_aims 33 = .ok (.iconst 0, 1) := by decide +kernel
theorem dX5_aims_34 : decode cX5_aims 34 = .ok (.istore 4, 2) := by decide +kernel
theorem dX5_aims_36 : decode cX5_aims 36 = .ok (.iload 4, 2) := by decide +kernel
theorem dX5_aims_38 : decode cX5_aims 38 = .ok (.aload_n 0, 1) := by decide +kernel
theorem dX5_aims_39 : decode cX5_aims 39 = .ok (.getfield 91, 3) := by decide +kernel
theorem dX5_aims_42 : decode cX5_aims 42 = .ok (.if_icmp .ge 130, 3) := by decide +kernel
theorem dX5_aims_45 : decode cX5_aims 45 = .ok (.aload_n 0, 1) := by decide +kernel
theorem dX5_aims_46 : decode cX5_aims 46 = .ok (.getfield 47, 3) := by decide +kernel
theorem dX5_aims_49 : decode cX5_aims 49 = .ok (.iload 4, 2) := by decide +kernel
theorem dX5_aims_51 : decode cX5_aims 51 = .ok (.iaload, 1) := by decide +kernel
theorem dX5_aims_52 : decode cX5_aims 52 = .ok (.istore 5, 2) := by decide +kernel
theorem dX5_aims_54 : decode cX5_aims 54 = .ok (.iconst 0, 1) := by decide +kernel
theorem dX5_aims_55 : decode cX5_aims 55 = .ok (.istore 6, 2) := by decide +kernel
theorem dX5_aims_57 : decode cX5_aims 57 = .ok (.iconst 1, 1) := by decide +kernel
theorem dX5_aims_58 : decode cX5_aims 58 = .ok (.istore 7, 2) := by decide +kernel
theorem dX5_aims_60 : decode cX5_aims 60 = .ok (.iload 7, 2) := by decide +kernel
theorem dX5_aims_62 : decode cX5_aims 62 = .ok (.iconst 4, 1) := by decide +kernel
theorem dX5_aims_63 : decode cX5_aims 63 = .ok (.if_icmp .ge 30, 3) := by decide +kernel
theorem dX5_aims_66 : decode cX5_aims 66 = .ok (.aload_n 0, 1) := by decide +kernel
theorem dX5_aims_67 : decode cX5_aims 67 = .ok (.getfield 53, 3) := by decide +kernel
theorem dX5_aims_70 : decode cX5_aims 70 = .ok (.iload 7, 2) := by decide +kernel
theorem dX5_aims_72 : decode cX5_aims 72 = .ok (.iaload, 1) := by decide +kernel
theorem dX5_aims_73 : decode cX5_aims 73 = .ok (.aload_n 0, 1) := by decide +kernel
theorem dX5_aims_74 : decode cX5_aims 74 = .ok (.getfield 53, 3) := by decide +kernel
theorem dX5_aims_77 : decode cX5_aims 77 = .ok (.iload 6, 2) := by decide +kernel
theorem dX5_aims_79 : decode cX5_aims 79 = .ok (.iaload, 1) := by decide +kernel
theorem dX5_aims_80 : decode cX5_aims 80 = .ok (.if_icmp .le 7, 3) := by decide +kernel
theorem dX5_aims_83 : decode cX5_aims 83 = .ok (.iload 7, 2) := by decide +kernel
theorem dX5_aims_85 : decode cX5_aims 85 = .ok (.istore 6, 2) := by decide +kernel
theorem dX5_aims_87 : decode cX5_aims 87 = .ok (.iinc 7 1, 3) := by decide +kernel
theorem dX5_aims_90 : decode cX5_aims 90 = .ok (.goto (-30), 3) := by decide +kernel
theorem dX5_aims_93 : decode cX5_aims 93 = .ok (.aload_n 0, 1) := by decide +kernel
theorem dX5_aims_94 : decode cX5_aims 94 = .ok (.getfield 59, 3) := by decide +kernel
theorem dX5_aims_97 : decode cX5_aims 97 = .ok (.iload 5, 2) := by decide +kernel
theorem dX5_aims_99 : decode cX5_aims 99 = .ok (.aload_n 0, 1) := by decide +kernel
theorem dX5_aims_100 : decode cX5_aims 100 = .ok (.getfield 50, 3) := by decide +kernel
theorem dX5_aims_103 : decode cX5_aims 103 = .ok (.iload 5, 2) := by decide +kernel
theorem dX5_aims_105 : decode cX5_aims 105 = .ok (.iaload, 1) := by decide +kernel
theorem dX5_aims_106 : decode cX5_aims 106 = .ok (.aload_n 0, 1) := by decide +kernel
theorem dX5_aims_107 : decode cX5_aims 107 = .ok (.getfield 53, 3) := by decide +kernel
theorem dX5_aims_110 : decode cX5_aims 110 = .ok (.iload 6, 2) := by decide +kernel
theorem dX5_aims_112 : decode cX5_aims 112 = .ok (.iaload, 1) := by decide +kernel
theorem dX5_aims_113 : decode cX5_aims 113 = .ok (.if_icmp .gt 8, 3) := by decide +kernel
theorem dX5_aims_116 : decode cX5_aims 116 = .ok (.iload 6, 2) := by decide +kernel
theorem dX5_aims_118 : decode cX5_aims 118 = .ok (.goto 5, 3) := by decide +kernel
theorem dX5_aims_121 : decode cX5_aims 121 = .ok (.bipush (-2), 2) := by decide +kernel
theorem dX5_aims_123 : decode cX5_aims 123 = .ok (.iastore, 1) := by decide +kernel
theorem dX5_aims_124 : decode cX5_aims 124 = .ok (.aload_n 0, 1) := by decide +kernel
theorem dX5_aims_125 : decode cX5_aims 125 = .ok (.getfield 59, 3) := by decide +kernel
theorem dX5_aims_128 : decode cX5_aims 128 = .ok (.iload 5, 2) := by decide +kernel
theorem dX5_aims_130 : decode cX5_aims 130 = .ok (.iaload, 1) := by decide +kernel
theorem dX5_aims_131 : decode cX5_aims 131 = .ok (.bipush (-2), 2) := by decide +kernel
theorem dX5_aims_133 : decode cX5_aims 133 = .ok (.if_icmp .ne 6, 3) := by decide +kernel
theorem dX5_aims_136 : decode cX5_aims 136 = .ok (.goto 30, 3) := by decide +kernel
theorem dX5_aims_139 : decode cX5_aims 139 = .ok (.aload_n 0, 1) := by decide +kernel
theorem dX5_aims_140 : decode cX5_aims 140 = .ok (.getfield 53, 3) := by decide +kernel
theorem dX5_aims_143 : decode cX5_aims 143 = .ok (.iload 6, 2) := by decide +kernel
theorem dX5_aims_145 : decode cX5_aims 145 = .ok (.dup2, 1) := by decide +kernel
theorem dX5_aims_146 : decode cX5_aims 146 = .ok (.iaload, 1) := by decide +kernel
theorem dX5_aims_147 : decode cX5_aims 147 = .ok (.aload_n 0, 1) := by decide +kernel
theorem dX5_aims_148 : decode cX5_aims 148 = .ok (.getfield 50, 3) := by decide +kernel
theorem dX5_aims_151 : decode cX5_aims 151 = .ok (.iload 5, 2) := by decide +kernel
theorem dX5_aims_153 : decode cX5_aims 153 = .ok (.iaload, 1) := by decide +kernel
theorem dX5_aims_154 : decode cX5_aims 154 = .ok (.isub, 1) := by decide +kernel
theorem dX5_aims_155 : decode cX5_aims 155 = .ok (.iastore, 1) := by decide +kernel
theorem dX5_aims_156 : decode cX5_aims 156 = .ok (.iload_n 3, 1) := by decide +kernel
theorem dX5_aims_157 : decode cX5_aims 157 = .ok (.aload_n 0, 1) := by decide +kernel
theorem dX5_aims_158 : decode cX5_aims 158 = .ok (.getfield 50, 3) := by decide +kernel
theorem dX5_aims_161 : decode cX5_aims 161 = .ok (.iload 5, 2) := by decide +kernel
theorem dX5_aims_163 : decode cX5_aims 163 = .ok (.iaload, 1) := by decide +kernel
theorem dX5_aims_164 : decode cX5_aims 164 = .ok (.iadd, 1) := by decide +kernel
theorem dX5_aims_165 : decode cX5_aims 165 = .ok (.istore_n 3, 1) := by decide +kernel
theorem dX5_aims_166 : decode cX5_aims 166 = .ok (.iinc 4 1, 3) := by decide +kernel
theorem dX5_aims_169 : decode cX5_aims 169 = .ok (.goto (-133), 3) := by decide +kernel
theorem dX5_aims_172 : decode cX5_aims 172 = .ok (.iload_n 3, 1) := by decide +kernel
theorem dX5_aims_173 : decode cX5_aims 173 = .ok (.ireturn, 1) := by decide +kernel
set_option maxRecDepth 20000 in
theorem ggX5_aim_X5_isHour : GoodIn wsX5_aim wsX5_isHour := goodIn_r _ [12] rfl (by decide +kernel)
set_option maxRecDepth 20000 in
theorem gX5_aim_X5_isHour : GoodIn wsX5_aim (va_wsS RX5 105 yX5_isHour wsX5_isHour) := goodIn_app (goodIn_of _ (by decide +kernel)) ggX5_aim_X5_isHour
set_option maxRecDepth 20000 in
theorem ggX5_aim_X5_refused : GoodIn wsX5_aim wsX5_refused := goodIn_r _ [16, 17, 62, 63, 64, 65, 66, 67, 68, 69, 70, 71, 72, 73, 74, 75, 76, 77, 78, 79, 80, 81, 82, 83, 84, 85, 86, 87, 88, 89, 90, 91, 92, 93, 94] rfl (by decide +kernel)
set_option maxRecDepth 20000 in
theorem gX5_aim_X5_refused : GoodIn wsX5_aim (wsV RX5 98 RX5 yX5_refused wsX5_refused) := goodIn_app (goodIn_of _ (by decide +kernel)) ggX5_aim_X5_refused
set_option maxRecDepth 20000 in
theorem ggX5_aim_X5_aims : GoodIn wsX5_aim wsX5_aims := goodIn_r _ [21, 8, 7, 2, 22, 5, 23, 24, 25, 26, 11, 27, 28, 29, 30, 31, 32, 33, 34, 35, 36, 37, 38, 39, 40, 41, 42, 43, 44, 45, 46, 47, 48, 49, 50, 51, 52, 53, 54, 55, 56, 57, 62, 63, 64, 65, 66, 67, 68, 69, 70, 71, 72, 73, 74, 75, 76, 77, 78, 79, 80, 81, 82, 83, 84, 85, 86, 87, 88, 89, 90, 91, 92, 93, 94] rfl (by decide +kernel)
set_option maxRecDepth 20000 in
theorem gX5_aim_X5_aims : GoodIn wsX5_aim (wsV RX5 145 RX5 yX5_aims wsX5_aims) := goodIn_app (goodIn_of _ (by decide +kernel)) ggX5_aim_X5_aims
set_option maxRecDepth 20000 in
theorem ggX5_aim_X5_done : GoodIn wsX5_aim wsX5_done := goodIn_r _ [61, 17, 62, 63, 64, 65, 66, 67, 68, 69, 70, 71, 72, 73, 74, 75, 76, 77, 78, 79, 80, 81, 82, 83, 84, 85, 86, 87, 88, 89, 90, 91, 92, 93, 94] rfl (by decide +kernel)
set_option maxRecDepth 20000 in
theorem gX5_aim_X5_done : GoodIn wsX5_aim (wsV RX5 102 RX5 yX5_done wsX5_done) := goodIn_app (goodIn_of _ (by decide +kernel)) ggX5_aim_X5_done
theorem dX5_aim_0 : decode cX5_aim 0 = .ok (.aload_n 0, 1) := by decide +kernel
theorem dX5_aim_1 : decode cX5_aim 1 = .ok (.iconst 0, 1) := by decide +kernel
theorem dX5_aim_2 : decode cX5_aim 2 = .ok (.putfield 1, 3) := by decide +kernel
theorem dX5_aim_5 : decode cX5_aim 5 = .ok (.iload_n 1, 1) := by decide +kernel
theorem dX5_aim_6 : decode cX5_aim 6 = .ok (.invokestatic 105, 3) := by decide +kernel
theorem dX5_aim_9 : decode cX5_aim 9 = .ok (.ifCond .ne 9, 3) := by decide +kernel
theorem dX5_aim_12 : decode cX5_aim 12 = .ok (.aload_n 0, 1) := by decide +kernel
theorem dX5_aim_13 : decode cX5_aim 13 = .ok (.iconst 2, 1) := by decide +kernel
theorem dX5_aim_14 : decode cX5_aim 14 = .ok (.invokevirtual 98, 3) := by decide +kernel
theorem dX5_aim_17 : decode cX5_aim 17 = .ok (.ireturn, 1) := by decide +kernel
theorem dX5_aim_18 : decode cX5_aim 18 = .ok (.aload_n 0, 1) := by decide +kernel
theorem dX5_aim_19 : decode cX5_aim 19 = .ok (.iload_n 1, 1) := by decide +kernel
theorem dX5_aim_20 : decode cX5_aim 20 = .ok (.iconst 0, 1) := by decide +kernel
theorem dX5_aim_21 : decode cX5_aim 21 = .ok (.invokevirtual 145, 3) := by decide +kernel
theorem dX5_aim_24 : decode cX5_aim 24 = .ok (.istore_n 2, 1) := by decide +kernel
theorem dX5_aim_25 : decode cX5_aim 25 = .ok (.aload_n 0, 1) := by decide +kernel
theorem dX5_aim_26 : decode cX5_aim 26 = .ok (.aload_n 0, 1) := by decide +kernel
theorem dX5_aim_27 : decode cX5_aim 27 = .ok (.getfield 91, 3) := by decide +kernel
theorem dX5_aim_30 : decode cX5_aim 30 = .ok (.putfield 65, 3) := by decide +kernel
theorem dX5_aim_33 : decode cX5_aim 33 = .ok (.iconst 0, 1) := by decide +kernel
theorem dX5_aim_34 : decode cX5_aim 34 = .ok (.istore_n 3, 1) := by decide +kernel
theorem dX5_aim_35 : decode cX5_aim 35 = .ok (.iload_n 3, 1) := by decide +kernel
theorem dX5_aim_36 : decode cX5_aim 36 = .ok (.aload_n 0, 1) := by decide +kernel
theorem dX5_aim_37 : decode cX5_aim 37 = .ok (.getfield 91, 3) := by decide +kernel
theorem dX5_aim_40 : decode cX5_aim 40 = .ok (.if_icmp .ge 21, 3) := by decide +kernel
theorem dX5_aim_43 : decode cX5_aim 43 = .ok (.aload_n 0, 1) := by decide +kernel
theorem dX5_aim_44 : decode cX5_aim 44 = .ok (.getfield 56, 3) := by decide +kernel
theorem dX5_aim_47 : decode cX5_aim 47 = .ok (.iload_n 3, 1) := by decide +kernel
theorem dX5_aim_48 : decode cX5_aim 48 = .ok (.aload_n 0, 1) := by decide +kernel
theorem dX5_aim_49 : decode cX5_aim 49 = .ok (.getfield 59, 3) := by decide +kernel
theorem dX5_aim_52 : decode cX5_aim 52 = .ok (.iload_n 3, 1) := by decide +kernel
theorem dX5_aim_53 : decode cX5_aim 53 = .ok (.iaload, 1) := by decide +kernel
theorem dX5_aim_54 : decode cX5_aim 54 = .ok (.iastore, 1) := by decide +kernel
theorem dX5_aim_55 : decode cX5_aim 55 = .ok (.iinc 3 1, 3) := by decide +kernel
theorem dX5_aim_58 : decode cX5_aim 58 = .ok (.goto (-23), 3) := by decide +kernel
theorem dX5_aim_61 : decode cX5_aim 61 = .ok (.iconst 0, 1) := by decide +kernel
theorem dX5_aim_62 : decode cX5_aim 62 = .ok (.istore_n 3, 1) := by decide +kernel
theorem dX5_aim_63 : decode cX5_aim 63 = .ok (.iload_n 3, 1) := by decide +kernel
theorem dX5_aim_64 : decode cX5_aim 64 = .ok (.iconst 4, 1) := by decide +kernel
theorem dX5_aim_65 : decode cX5_aim 65 = .ok (.if_icmp .ge 28, 3) := by decide +kernel
theorem dX5_aim_68 : decode cX5_aim 68 = .ok (.aload_n 0, 1) := by decide +kernel
theorem dX5_aim_69 : decode cX5_aim 69 = .ok (.getfield 62, 3) := by decide +kernel
theorem dX5_aim_72 : decode cX5_aim 72 = .ok (.iload_n 3, 1) := by decide +kernel
theorem dX5_aim_73 : decode cX5_aim 73 = .ok (.aload_n 0, 1) := by decide +kernel
theorem dX5_aim_74 : decode cX5_aim 74 = .ok (.getfield 29, 3) := by decide +kernel
theorem dX5_aim_77 : decode cX5_aim 77 = .ok (.iload_n 3, 1) := by decide +kernel
theorem dX5_aim_78 : decode cX5_aim 78 = .ok (.iaload, 1) := by decide +kernel
theorem dX5_aim_79 : decode cX5_aim 79 = .ok (.aload_n 0, 1) := by decide +kernel
theorem dX5_aim_80 : decode cX5_aim 80 = .ok (.getfield 53, 3) := by decide +kernel
theorem dX5_aim_83 : decode cX5_aim 83 = .ok (.iload_n 3, 1) := by decide +kernel
theorem dX5_aim_84 : decode cX5_aim 84 = .ok (.iaload, 1) := by decide +kernel
theorem dX5_aim_85 : decode cX5_aim 85 = .ok (.isub, 1) := by decide +kernel
theorem dX5_aim_86 : decode cX5_aim 86 = .ok (.iastore, 1) := by decide +kernel
theorem dX5_aim_87 : decode cX5_aim 87 = .ok (.iinc 3 1, 3) := by decide +kernel
theorem dX5_aim_90 : decode cX5_aim 90 = .ok (.goto (-27), 3) := by decide +kernel
theorem dX5_aim_93 : decode cX5_aim 93 = .ok (.aload_n 0, 1) := by decide +kernel
theorem dX5_aim_94 : decode cX5_aim 94 = .ok (.iload_n 2, 1) := by decide +kernel
theorem dX5_aim_95 : decode cX5_aim 95 = .ok (.invokevirtual 102, 3) := by decide +kernel
theorem dX5_aim_98 : decode cX5_aim 98 = .ok (.ireturn, 1) := by decide +kernel
theorem dX5_aimed_0 : decode cX5_aimed 0 = .ok (.aload_n 0, 1) := by decide +kernel
theorem dX5_aimed_1 : decode cX5_aimed 1 = .ok (.iconst 0, 1) := by decide +kernel
theorem dX5_aimed_2 : decode cX5_aimed 2 = .ok (.putfield 1, 3) := by decide +kernel
theorem dX5_aimed_5 : decode cX5_aimed 5 = .ok (.iload_n 1, 1) := by decide +kernel
theorem dX5_aimed_6 : decode cX5_aimed 6 = .ok (.ifCond .lt 20, 3) := by decide +kernel
theorem dX5_aimed_9 : decode cX5_aimed 9 = .ok (.iload_n 1, 1) := by decide +kernel
theorem dX5_aimed_10 : decode cX5_aimed 10 = .ok (.aload_n 0, 1) := by decide +kernel
theorem dX5_aimed_11 : decode cX5_aimed 11 = .ok (.getfield 65, 3) := by decide +kernel
theorem dX5_aimed_14 : decode cX5_aimed 14 = .ok (.if_icmp .ge 12, 3) := by decide +kernel
theorem dX5_aimed_17 : decode cX5_aimed 17 = .ok (.aload_n 0, 1) := by decide +kernel
theorem dX5_aimed_18 : decode cX5_aimed 18 = .ok (.getfield 56, 3) := by decide +kernel
theorem dX5_aimed_21 : decode cX5_aimed 21 = .ok (.iload_n 1, 1) := by decide +kernel
theorem dX5_aimed_22 : decode cX5_aimed 22 = .ok (.iaload, 1) := by decide +kernel
theorem dX5_aimed_23 : decode cX5_aimed 23 = .ok (.goto 4, 3) := by decide +kernel
theorem dX5_aimed_26 : decode cX5_aimed 26 = .ok (.iconst (-1), 1) := by decide +kernel
theorem dX5_aimed_27 : decode cX5_aimed 27 = .ok (.ireturn, 1) := by decide +kernel
set_option maxRecDepth 20000 in
theorem ggX5_face_X5_in : GoodIn wsX5_face wsX5_in := goodIn_r _ [6] rfl (by decide +kernel)
set_option maxRecDepth 20000 in
theorem gX5_face_X5_in : GoodIn wsX5_face (va_wsS RX5 94 yX5_in wsX5_in) := goodIn_app (goodIn_of _ (by decide +kernel)) ggX5_face_X5_in
theorem dX5_face_0 : decode cX5_face 0 = .ok (.aload_n 0, 1) := by decide +kernel
theorem dX5_face_1 : decode cX5_face 1 = .ok (.iconst 0, 1) := by decide +kernel
theorem dX5_face_2 : decode cX5_face 2 = .ok (.putfield 1, 3) := by decide +kernel
theorem dX5_face_5 : decode cX5_face 5 = .ok (.iload_n 1, 1) := by decide +kernel
theorem dX5_face_6 : decode cX5_face 6 = .ok (.iconst 0, 1) := by decide +kernel
theorem dX5_face_7 : decode cX5_face 7 = .ok (.iconst 3, 1) := by decide +kernel
theorem dX5_face_8 : decode cX5_face 8 = .ok (.invokestatic 94, 3) := by decide +kernel
theorem dX5_face_11 : decode cX5_face 11 = .ok (.ifCond .eq 12, 3) := by decide +kernel
theorem dX5_face_14 : decode cX5_face 14 = .ok (.aload_n 0, 1) := by decide +kernel
theorem dX5_face_15 : decode cX5_face 15 = .ok (.getfield 62, 3) := by decide +kernel
theorem dX5_face_18 : decode cX5_face 18 = .ok (.iload_n 1, 1) := by decide +kernel
theorem dX5_face_19 : decode cX5_face 19 = .ok (.iaload, 1) := by decide +kernel
theorem dX5_face_20 : decode cX5_face 20 = .ok (.goto 4, 3) := by decide +kernel
theorem dX5_face_23 : decode cX5_face 23 = .ok (.iconst (-1), 1) := by decide +kernel
theorem dX5_face_24 : decode cX5_face 24 = .ok (.ireturn, 1) := by decide +kernel
set_option maxRecDepth 20000 in
theorem ggX5_tries_X5_tries : GoodIn wsX5_tries wsX5_tries := goodIn_r _ [0, 1, 2, 3, 4, 5, 6, 7, 8, 9, 10, 11, 12, 13, 14, 15, 16, 17, 18, 19, 20, 21, 22, 23, 24, 25, 26, 27, 28, 29, 30, 31, 32, 33, 34, 35, 36, 37, 38, 39, 40, 41, 42, 43, 44, 45, 46] rfl (by decide +kernel)
set_option maxRecDepth 20000 in
theorem gX5_tries_X5_tries : GoodIn wsX5_tries (wsV RX5 151 RX5 yX5_tries wsX5_tries) := goodIn_app (goodIn_of _ (by decide +kernel)) ggX5_tries_X5_tries
theorem dX5_tries_0 : decode cX5_tries 0 = .ok (.iload_n 1, 1) := by decide +kernel
theorem dX5_tries_1 : decode cX5_tries 1 = .ok (.bipush 7, 2) := by decide +kernel
theorem dX5_tries_3 : decode cX5_tries 3 = .ok (.if_icmp .eq 11, 3) := by decide +kernel
theorem dX5_tries_6 : decode cX5_tries 6 = .ok (.iload_n 1, 1) := by decide +kernel
theorem dX5_tries_7 : decode cX5_tries 7 = .ok (.aload_n 0, 1) := by decide +kernel
theorem dX5_tries_8 : decode cX5_tries 8 = .ok (.getfield 91, 3) := by decide +kernel
theorem dX5_tries_11 : decode cX5_tries 11 = .ok (.if_icmp .ne 16, 3) := by decide +kernel
theorem dX5_tries_14 : decode cX5_tries 14 = .ok (.aload_n 0, 1) := by decide +kernel
theorem dX5_tries_15 : decode cX5_tries 15 = .ok (.aload_n 0, 1) := by decide +kernel
theorem dX5_tries_16 : decode cX5_tries 16 = .ok (.getfield 148, 3) := by decide +kernel
theorem dX5_tries_19 : decode cX5_tries 19 = .ok (.iload_n 2, 1) := by decide +kernel
theorem dX5_tries_20 : decode cX5_tries 20 = .ok (.invokestatic 134, 3) := by decide +kernel
theorem dX5_tries_23 : decode cX5_tries 23 = .ok (.putfield 148, 3) := by decide +kernel
theorem dX5_tries_26 : decode cX5_tries 26 = .ok (.return_, 1) := by decide +kernel
theorem dX5_tries_27 : decode cX5_tries 27 = .ok (.aload_n 0, 1) := by decide +kernel
theorem dX5_tries_28 : decode cX5_tries 28 = .ok (.getfield 50, 3) := by decide +kernel
theorem dX5_tries_31 : decode cX5_tries 31 = .ok (.aload_n 0, 1) := by decide +kernel
theorem dX5_tries_32 : decode cX5_tries 32 = .ok (.getfield 47, 3) := by decide +kernel
theorem dX5_tries_35 : decode cX5_tries 35 = .ok (.iload_n 1, 1) := by decide +kernel
theorem dX5_tries_36 : decode cX5_tries 36 = .ok (.iaload, 1) := by decide +kernel
theorem dX5_tries_37 : decode cX5_tries 37 = .ok (.iaload, 1) := by decide +kernel
theorem dX5_tries_38 : decode cX5_tries 38 = .ok (.istore_n 3, 1) := by decide +kernel
theorem dX5_tries_39 : decode cX5_tries 39 = .ok (.iconst 0, 1) := by decide +kernel
theorem dX5_tries_40 : decode cX5_tries 40 = .ok (.istore 4, 2) := by decide +kernel
theorem dX5_tries_42 : decode cX5_tries 42 = .ok (.iload 4, 2) := by decide +kernel
theorem dX5_tries_44 : decode cX5_tries 44 = .ok (.iconst 4, 1) := by decide +kernel
theorem dX5_tries_45 : decode cX5_tries 45 = .ok (.if_icmp .ge 55, 3) := by decide +kernel
theorem dX5_tries_48 : decode cX5_tries 48 = .ok (.iload_n 3, 1) := by decide +kernel
theorem dX5_tries_49 : decode cX5_tries 49 = .ok (.aload_n 0, 1) := by decide +kernel
theorem dX5_tries_50 : decode cX5_tries 50 = .ok (.getfield 53, 3) := by decide +kernel
theorem dX5_tries_53 : decode cX5_tries 53 = .ok (.iload 4, 2) := by decide +kernel
theorem dX5_tries_55 : decode cX5_tries 55 = .ok (.iaload, 1) := by decide +kernel
theorem dX5_tries_56 : decode cX5_tries 56 = .ok (.if_icmp .le 6, 3) := by decide +kernel
theorem dX5_tries_59 : decode cX5_tries 59 = .ok (.goto 35, 3) := by decide +kernel
theorem dX5_tries_62 : decode cX5_tries 62 = .ok (.aload_n 0, 1) := by decide +kernel
theorem dX5_tries_63 : decode cX5_tries 63 = .ok (.getfield 53, 3) := by decide +kernel
theorem dX5_tries_66 : decode cX5_tries 66 = .ok (.iload 4, 2) := by decide +kernel
theorem dX5_tries_68 : decode cX5_tries 68 = .ok (.dup2, 1) := by decide +kernel
theorem dX5_tries_69 : decode cX5_tries 69 = .ok (.iaload, 1) := by decide +kernel
theorem dX5_tries_70 : decode cX5_tries 70 = .ok (.iload_n 3, 1) := by decide +kernel
theorem dX5_tries_71 : decode cX5_tries 71 = .ok (.isub, 1) := by decide +kernel
theorem dX5_tries_72 : decode cX5_tries 72 = .ok (.iastore, 1) := by decide +kernel
theorem dX5_tries_73 : decode cX5_tries 73 = .ok (.aload_n 0, 1) := by decide +kernel
theorem dX5_tries_74 : decode cX5_tries 74 = .ok (.iload_n 1, 1) := by decide +kernel
theorem dX5_tries_75 : decode cX5_tries 75 = .ok (.iconst 1, 1) := by decide +kernel
theorem dX5_tries_76 : decode cX5_tries 76 = .ok (.iadd, 1) := by decide +kernel
theorem dX5_tries_77 : decode cX5_tries 77 = .ok (.iload_n 2, 1) := by decide +kernel
theorem dX5_tries_78 : decode cX5_tries 78 = .ok (.iload_n 3, 1) := by decide +kernel
theorem dX5_tries_79 : decode cX5_tries 79 = .ok (.iadd, 1) := by decide +kernel
theorem dX5_tries_80 : decode cX5_tries 80 = .ok (.invokevirtual 151, 3) := by decide +kernel
theorem dX5_tries_83 : decode cX5_tries 83 = .ok (.aload_n 0, 1) := by decide +kernel
theorem dX5_tries_84 : decode cX5_tries 84 = .ok (.getfield 53, 3) := by decide +kernel
theorem dX5_tries_87 : decode cX5_tries 87 = .ok (.iload 4, 2) := by decide +kernel
theorem dX5_tries_89 : decode cX5_tries 89 = .ok (.dup2, 1) := by decide +kernel
theorem dX5_tries_90 : decode cX5_tries 90 = .ok (.iaload, 1) := by decide +kernel
theorem dX5_tries_91 : decode cX5_tries 91 = .ok (.iload_n 3, 1) := by decide +kernel
theorem dX5_tries_92 : decode cX5_tries 92 = .ok (.iadd, 1) := by decide +kernel
theorem dX5_tries_93 : decode cX5_tries 93 = .ok (.iastore, 1) := by decide +kernel
theorem dX5_tries_94 : decode cX5_tries 94 = .ok (.iinc 4 1, 3) := by decide +kernel
theorem dX5_tries_97 : decode cX5_tries 97 = .ok (.goto (-55), 3) := by decide +kernel
theorem dX5_tries_100 : decode cX5_tries 100 = .ok (.aload_n 0, 1) := by decide +kernel
theorem dX5_tries_101 : decode cX5_tries 101 = .ok (.iload_n 1, 1) := by decide +kernel
theorem dX5_tries_102 : decode cX5_tries 102 = .ok (.iconst 1, 1) := by decide +kernel
theorem dX5_tries_103 : decode cX5_tries 103 = .ok (.iadd, 1) := by decide +kernel
theorem dX5_tries_104 : decode cX5_tries 104 = .ok (.iload_n 2, 1) := by decide +kernel
theorem dX5_tries_105 : decode cX5_tries 105 = .ok (.invokevirtual 151, 3) := by decide +kernel
theorem dX5_tries_108 : decode cX5_tries 108 = .ok (.return_, 1) := by decide +kernel
set_option maxRecDepth 20000 in
theorem ggX5_best_X5_isHour : GoodIn wsX5_best wsX5_isHour := goodIn_r _ [8] rfl (by decide +kernel)
set_option maxRecDepth 20000 in
theorem gX5_best_X5_isHour : GoodIn wsX5_best (va_wsS RX5 105 yX5_isHour wsX5_isHour) := goodIn_app (goodIn_of _ (by decide +kernel)) ggX5_best_X5_isHour
set_option maxRecDepth 20000 in
theorem ggX5_best_X5_refused : GoodIn wsX5_best wsX5_refused := goodIn_r _ [12, 13, 59, 60, 61, 62, 63, 64, 65, 66, 67, 68, 69, 70, 71, 72, 73, 74, 75, 76, 77, 78, 79, 80, 81, 82, 83, 84, 85, 86, 87, 88, 89, 90, 91] rfl (by decide +kernel)
set_option maxRecDepth 20000 in
theorem gX5_best_X5_refused : GoodIn wsX5_best (wsV RX5 98 RX5 yX5_refused wsX5_refused) := goodIn_app (goodIn_of _ (by decide +kernel)) ggX5_best_X5_refused
set_option maxRecDepth 20000 in
theorem ggX5_best_X5_orders : GoodIn wsX5_best wsX5_orders := goodIn_r _ [17, 18, 19, 20, 21, 22, 23, 7, 24, 25, 26, 27, 28, 29, 30, 31, 32, 33, 34, 35, 36, 37, 38, 39, 40, 41, 42, 43, 44, 45, 46, 47, 48, 49, 50, 59, 60, 61, 62, 63, 64, 65, 66, 67, 68, 69, 70, 71, 72, 73, 74, 75, 76, 77, 78, 79, 80, 81, 82, 83, 84, 85, 86, 87, 88, 89, 90, 91] rfl (by decide +kernel)
set_option maxRecDepth 20000 in
theorem gX5_best_X5_orders : GoodIn wsX5_best (wsV RX5 141 RX5 yX5_orders wsX5_orders) := goodIn_app (goodIn_of _ (by decide +kernel)) ggX5_best_X5_orders
set_option maxRecDepth 20000 in
theorem ggX5_best_X5_tries : GoodIn wsX5_best wsX5_tries := goodIn_r _ [54, 18, 4, 31, 32, 29, 33, 19, 20, 2, 51, 52, 53, 7, 59, 60, 61, 62, 63, 64, 65, 66, 67, 68, 69, 70, 71, 72, 73, 74, 75, 76, 77, 78, 79, 80, 81, 82, 83, 84, 85, 86, 87, 88, 89, 90, 91] rfl (by decide +kernel)
set_option maxRecDepth 20000 in
theorem gX5_best_X5_tries : GoodIn wsX5_best (wsV RX5 151 RX5 yX5_tries wsX5_tries) := goodIn_app (goodIn_of _ (by decide +kernel)) ggX5_best_X5_tries
set_option maxRecDepth 20000 in
theorem ggX5_best_X5_done : GoodIn wsX5_best wsX5_done := goodIn_r _ [58, 13, 59, 60, 61, 62, 63, 64, 65, 66, 67, 68, 69, 70, 71, 72, 73, 74, 75, 76, 77, 78, 79, 80, 81, 82, 83, 84, 85, 86, 87, 88, 89, 90, 91] rfl (by decide +kernel)
set_option maxRecDepth 20000 in
theorem gX5_best_X5_done : GoodIn wsX5_best (wsV RX5 102 RX5 yX5_done wsX5_done) := goodIn_app (goodIn_of _ (by decide +kernel)) ggX5_best_X5_done
theorem dX5_best_0 : decode cX5_best 0 = .ok (.aload_n 0, 1) := by decide +kernel
theorem dX5_best_1 : decode cX5_best 1 = .ok (.iconst 0, 1) := by decide +kernel
theorem dX5_best_2 : decode cX5_best 2 = .ok (.putfield 1, 3) := by decide +kernel
theorem dX5_best_5 : decode cX5_best 5 = .ok (.iload_n 1, 1) := by decide +kernel
theorem dX5_best_6 : decode cX5_best 6 = .ok (.invokestatic 105, 3) := by decide +kernel
theorem dX5_best_9 : decode cX5_best 9 = .ok (.ifCond .ne 9, 3) := by decide +kernel
theorem dX5_best_12 : decode cX5_best 12 = .ok (.aload_n 0, 1) := by decide +kernel
theorem dX5_best_13 : decode cX5_best 13 = .ok (.iconst 2, 1) := by decide +kernel
theorem dX5_best_14 : decode cX5_best 14 = .ok (.invokevirtual 98, 3) := by decide +kernel
theorem dX5_best_17 : decode cX5_best 17 = .ok (.ireturn, 1) := by decide +kernel
theorem dX5_best_18 : decode cX5_best 18 = .ok (.aload_n 0, 1) := by decide +kernel
theorem dX5_best_19 : decode cX5_best 19 = .ok (.iload_n 1, 1) := by decide +kernel
theorem dX5_best_20 : decode cX5_best 20 = .ok (.iconst 0, 1) := by decide +kernel
theorem dX5_best_21 : decode cX5_best 21 = .ok (.invokevirtual 141, 3) := by decide +kernel
theorem dX5_best_24 : decode cX5_best 24 = .ok (.iconst 0, 1) := by decide +kernel
theorem dX5_best_25 : decode cX5_best 25 = .ok (.istore_n 2, 1) := by decide +kernel
theorem dX5_best_26 : decode cX5_best 26 = .ok (.iload_n 2, 1) := by decide +kernel
theorem dX5_best_27 : decode cX5_best 27 = .ok (.iconst 4, 1) := by decide +kernel
theorem dX5_best_28 : decode cX5_best 28 = .ok (.if_icmp .ge 21, 3) := by decide +kernel
theorem dX5_best_31 : decode cX5_best 31 = .ok (.aload_n 0, 1) := by decide +kernel
theorem dX5_best_32 : decode cX5_best 32 = .ok (.getfield 53, 3) := by decide +kernel
theorem dX5_best_35 : decode cX5_best 35 = .ok (.iload_n 2, 1) := by decide +kernel
theorem dX5_best_36 : decode cX5_best 36 = .ok (.aload_n 0, 1) := by decide +kernel
theorem dX5_best_37 : decode cX5_best 37 = .ok (.getfield 29, 3) := by decide +kernel
theorem dX5_best_40 : decode cX5_best 40 = .ok (.iload_n 2, 1) := by decide +kernel
theorem dX5_best_41 : decode cX5_best 41 = .ok (.iaload, 1) := by decide +kernel
theorem dX5_best_42 : decode cX5_best 42 = .ok (.iastore, 1) := by decide +kernel
theorem dX5_best_43 : decode cX5_best 43 = .ok (.iinc 2 1, 3) := by decide +kernel
theorem dX5_best_46 : decode cX5_best 46 = .ok (.goto (-20), 3) := by decide +kernel
theorem dX5_best_49 : decode cX5_best 49 = .ok (.aload_n 0, 1) := by decide +kernel
theorem dX5_best_50 : decode cX5_best 50 = .ok (.iconst 0, 1) := by decide +kernel
theorem dX5_best_51 : decode cX5_best 51 = .ok (.putfield 148, 3) := by decide +kernel
theorem dX5_best_54 : decode cX5_best 54 = .ok (.aload_n 0, 1) := by decide +kernel
theorem dX5_best_55 : decode cX5_best 55 = .ok (.iconst 0, 1) := by decide +kernel
theorem dX5_best_56 : decode cX5_best 56 = .ok (.iconst 0, 1) := by decide +kernel
theorem dX5_best_57 : decode cX5_best 57 = .ok (.invokevirtual 151, 3) := by decide +kernel
theorem dX5_best_60 : decode cX5_best 60 = .ok (.aload_n 0, 1) := by decide +kernel
theorem dX5_best_61 : decode cX5_best 61 = .ok (.aload_n 0, 1) := by decide +kernel
theorem dX5_best_62 : decode cX5_best 62 = .ok (.getfield 148, 3) := by decide +kernel
theorem dX5_best_65 : decode cX5_best 65 = .ok (.invokevirtual 102, 3) := by decide +kernel
theorem dX5_best_68 : decode cX5_best 68 = .ok (.ireturn, 1) := by decide +kernel
set_option maxRecDepth 20000 in
theorem ggX5_comes_X5_in : GoodIn wsX5_comes wsX5_in := goodIn_r _ [7] rfl (by decide +kernel)
set_option maxRecDepth 20000 in
theorem gX5_comes_X5_in : GoodIn wsX5_comes (va_wsS RX5 94 yX5_in wsX5_in) := goodIn_app (goodIn_of _ (by decide +kernel)) ggX5_comes_X5_in
set_option maxRecDepth 20000 in
theorem ggX5_comes_X5_aims : GoodIn wsX5_comes wsX5_aims := goodIn_r _ [11, 12, 13, 14, 15, 16, 17, 18, 19, 20, 6, 21, 22, 23, 24, 25, 26, 27, 28, 29, 30, 31, 32, 33, 34, 35, 36, 37, 38, 39, 40, 41, 42, 43, 44, 45, 46, 47, 48, 49, 50, 51, 52, 53, 54, 55, 56, 57, 58, 59, 60, 61, 62, 63, 64, 65, 66, 67, 68, 69, 70, 71, 72, 73, 74, 75, 76, 77, 78, 79, 80, 81, 82, 83, 84] rfl (by decide +kernel)
set_option maxRecDepth 20000 in
theorem gX5_comes_X5_aims : GoodIn wsX5_comes (wsV RX5 145 RX5 yX5_aims wsX5_aims) := goodIn_app (goodIn_of _ (by decide +kernel)) ggX5_comes_X5_aims
theorem dX5_comes_0 : decode cX5_comes 0 = .ok (.aload_n 0, 1) := by decide +kernel
theorem dX5_comes_1 : decode cX5_comes 1 = .ok (.iconst 0, 1) := by decide +kernel
theorem dX5_comes_2 : decode cX5_comes 2 = .ok (.putfield 1, 3) := by decide +kernel
theorem dX5_comes_5 : decode cX5_comes 5 = .ok (.iload_n 1, 1) := by decide +kernel
theorem dX5_comes_6 : decode cX5_comes 6 = .ok (.aload_n 0, 1) := by decide +kernel
theorem dX5_comes_7 : decode cX5_comes 7 = .ok (.getfield 154, 3) := by decide +kernel
theorem dX5_comes_10 : decode cX5_comes 10 = .ok (.bipush 23, 2) := by decide +kernel
theorem dX5_comes_12 : decode cX5_comes 12 = .ok (.invokestatic 94, 3) := by decide +kernel
theorem dX5_comes_15 : decode cX5_comes 15 = .ok (.ifCond .eq 22, 3) := by decide +kernel
theorem dX5_comes_18 : decode cX5_comes 18 = .ok (.aload_n 0, 1) := by decide +kernel
theorem dX5_comes_19 : decode cX5_comes 19 = .ok (.iload_n 1, 1) := by decide +kernel
theorem dX5_comes_20 : decode cX5_comes 20 = .ok (.aload_n 0, 1) := by decide +kernel
theorem dX5_comes_21 : decode cX5_comes 21 = .ok (.getfield 16, 3) := by decide +kernel
theorem dX5_comes_24 : decode cX5_comes 24 = .ok (.iload_n 1, 1) := by decide +kernel
theorem dX5_comes_25 : decode cX5_comes 25 = .ok (.aload_n 0, 1) := by decide +kernel
theorem dX5_comes_26 : decode cX5_comes 26 = .ok (.getfield 154, 3) := by decide +kernel
theorem dX5_comes_29 : decode cX5_comes 29 = .ok (.isub, 1) := by decide +kernel
theorem dX5_comes_30 : decode cX5_comes 30 = .ok (.imul, 1) := by decide +kernel
theorem dX5_comes_31 : decode cX5_comes 31 = .ok (.invokevirtual 145, 3) := by decide +kernel
theorem dX5_comes_34 : decode cX5_comes 34 = .ok (.goto 4, 3) := by decide +kernel
theorem dX5_comes_37 : decode cX5_comes 37 = .ok (.iconst (-1), 1) := by decide +kernel
theorem dX5_comes_38 : decode cX5_comes 38 = .ok (.ireturn, 1) := by decide +kernel
theorem dX5_state_0 : decode cX5_state 0 = .ok (.sipush 201, 3) := by decide +kernel
theorem dX5_state_3 : decode cX5_state 3 = .ok (.iload_n 0, 1) := by decide +kernel
theorem dX5_state_4 : decode cX5_state 4 = .ok (.imul, 1) := by decide +kernel
theorem dX5_state_5 : decode cX5_state 5 = .ok (.iload_n 1, 1) := by decide +kernel
theorem dX5_state_6 : decode cX5_state 6 = .ok (.iadd, 1) := by decide +kernel
theorem dX5_state_7 : decode cX5_state 7 = .ok (.iconst 2, 1) := by decide +kernel
theorem dX5_state_8 : decode cX5_state 8 = .ok (.imul, 1) := by decide +kernel
theorem dX5_state_9 : decode cX5_state 9 = .ok (.iload_n 2, 1) := by decide +kernel
theorem dX5_state_10 : decode cX5_state 10 = .ok (.ifCond .eq 7, 3) := by decide +kernel
theorem dX5_state_13 : decode cX5_state 13 = .ok (.iconst 1, 1) := by decide +kernel
theorem dX5_state_14 : decode cX5_state 14 = .ok (.goto 4, 3) := by decide +kernel
theorem dX5_state_17 : decode cX5_state 17 = .ok (.iconst 0, 1) := by decide +kernel
theorem dX5_state_18 : decode cX5_state 18 = .ok (.iadd, 1) := by decide +kernel
theorem dX5_state_19 : decode cX5_state 19 = .ok (.ireturn, 1) := by decide +kernel
theorem dX5_takes_0 : decode cX5_takes 0 = .ok (.iload_n 0, 1) := by decide +kernel
theorem dX5_takes_1 : decode cX5_takes 1 = .ok (.ifCond .eq 7, 3) := by decide +kernel
theorem dX5_takes_4 : decode cX5_takes 4 = .ok (.iconst 5, 1) := by decide +kernel
theorem dX5_takes_5 : decode cX5_takes 5 = .ok (.goto 5, 3) := by decide +kernel
theorem dX5_takes_8 : decode cX5_takes 8 = .ok (.bipush 7, 2) := by decide +kernel
theorem dX5_takes_10 : decode cX5_takes 10 = .ok (.ireturn, 1) := by decide +kernel
theorem dX5_filled_0 : decode cX5_filled 0 = .ok (.sipush 200, 3) := by decide +kernel
theorem dX5_filled_3 : decode cX5_filled 3 = .ok (.iload_n 0, 1) := by decide +kernel
theorem dX5_filled_4 : decode cX5_filled 4 = .ok (.iload_n 1, 1) := by decide +kernel
theorem dX5_filled_5 : decode cX5_filled 5 = .ok (.iadd, 1) := by decide +kernel
theorem dX5_filled_6 : decode cX5_filled 6 = .ok (.invokestatic 129, 3) := by decide +kernel
theorem dX5_filled_9 : decode cX5_filled 9 = .ok (.ireturn, 1) := by decide +kernel
set_option maxRecDepth 20000 in
theorem ggX5_plan_X5_aims : GoodIn wsX5_plan wsX5_aims := goodIn_r _ [19, 20, 21, 22, 23, 24, 25, 26, 27, 28, 18, 29, 30, 31, 32, 33, 34, 35, 36, 37, 9, 38, 7, 8, 10, 39, 40, 41, 42, 43, 44, 45, 46, 47, 48, 49, 50, 51, 52, 53, 54, 55, 65, 66, 67, 68, 69, 70, 71, 72, 73, 74, 75, 76, 77, 78, 79, 80, 81, 82, 83, 84, 85, 86, 87, 88, 89, 90, 91, 92, 93, 94, 95, 96, 97] rfl (by decide +kernel)
set_option maxRecDepth 20000 in
theorem gX5_plan_X5_aims : GoodIn wsX5_plan (wsV RX5 145 RX5 yX5_aims wsX5_aims) := goodIn_app (goodIn_of _ (by decide +kernel)) ggX5_plan_X5_aims
set_option maxRecDepth 20000 in
theorem ggX5_plan_X5_state : GoodIn wsX5_plan wsX5_state := goodIn_r _ [58] rfl (by decide +kernel)
set_option maxRecDepth 20000 in
theorem gX5_plan_X5_state : GoodIn wsX5_plan (va_wsS RX5 157 yX5_state wsX5_state) := goodIn_app (goodIn_of _ (by decide +kernel)) ggX5_plan_X5_state
end
section
set_option maxRecDepth 20000 in
theorem ggX5_plan_X5_filled : GoodIn wsX5_plan wsX5_filled := goodIn_r _ [61, 36, 37, 9, 38] rfl (by decide +kernel)
set_option maxRecDepth 20000 in
theorem gX5_plan_X5_filled : GoodIn wsX5_plan (va_wsS RX5 161 yX5_filled wsX5_filled) := goodIn_app (goodIn_of _ (by decide +kernel)) ggX5_plan_X5_filled
set_option maxRecDepth 20000 in
theorem ggX5_plan_X5_takes : GoodIn wsX5_plan wsX5_takes := goodIn_r _ [64] rfl (by decide +kernel)
set_option maxRecDepth 20000 in
theorem gX5_plan_X5_takes : GoodIn wsX5_plan (va_wsS RX5 164 yX5_takes wsX5_takes) := goodIn_app (goodIn_of _ (by decide +kernel)) ggX5_plan_X5_takes
theorem dX5_plan_0 : decode cX5_plan 0 = .ok (.aload_n 0, 1) := by decide +kernel
theorem dX5_plan_1 : decode cX5_plan 1 = .ok (.iconst 0, 1) := by decide +kernel
theorem dX5_plan_2 : decode cX5_plan 2 = .ok (.putfield 1, 3) := by decide +kernel
theorem dX5_plan_5 : decode cX5_plan 5 = .ok (.aload_n 0, 1) := by decide +kernel
theorem dX5_plan_6 : decode cX5_plan 6 = .ok (.getfield 78, 3) := by decide +kernel
theorem dX5_plan_9 : decode cX5_plan 9 = .ok (.astore_n 1, 1) := by decide +kernel
theorem dX5_plan_10 : decode cX5_plan 10 = .ok (.aload_n 0, 1) := by decide +kernel
theorem dX5_plan_11 : decode cX5_plan 11 = .ok (.getfield 154, 3) := by decide +kernel
theorem dX5_plan_14 : decode cX5_plan 14 = .ok (.istore_n 2, 1) := by decide +kernel
theorem dX5_plan_15 : decode cX5_plan 15 = .ok (.iload_n 2, 1) := by decide +kernel
theorem dX5_plan_16 : decode cX5_plan 16 = .ok (.bipush 24, 2) := by decide +kernel
theorem dX5_plan_18 : decode cX5_plan 18 = .ok (.if_icmp .ge 31, 3) := by decide +kernel
theorem dX5_plan_21 : decode cX5_plan 21 = .ok (.aload_n 1, 1) := by decide +kernel
theorem dX5_plan_22 : decode cX5_plan 22 = .ok (.iload_n 2, 1) := by decide +kernel
theorem dX5_plan_23 : decode cX5_plan 23 = .ok (.aload_n 0, 1) := by decide +kernel
theorem dX5_plan_24 : decode cX5_plan 24 = .ok (.iload_n 2, 1) := by decide +kernel
theorem dX5_plan_25 : decode cX5_plan 25 = .ok (.aload_n 0, 1) := by decide +kernel
theorem dX5_plan_26 : decode cX5_plan 26 = .ok (.getfield 16, 3) := by decide +kernel
theorem dX5_plan_29 : decode cX5_plan 29 = .ok (.iload_n 2, 1) := by decide +kernel
theorem dX5_plan_30 : decode cX5_plan 30 = .ok (.aload_n 0, 1) := by decide +kernel
theorem dX5_plan_31 : decode cX5_plan 31 = .ok (.getfield 154, 3) := by decide +kernel
theorem dX5_plan_34 : decode cX5_plan 34 = .ok (.isub, 1) := by decide +kernel
theorem dX5_plan_35 : decode cX5_plan 35 = .ok (.imul, 1) := by decide +kernel
theorem dX5_plan_36 : decode cX5_plan 36 = .ok (.invokevirtual 145, 3) := by decide +kernel
theorem dX5_plan_39 : decode cX5_plan 39 = .ok (.bipush 100, 2) := by decide +kernel
theorem dX5_plan_41 : decode cX5_plan 41 = .ok (.idiv, 1) := by decide +kernel
theorem dX5_plan_42 : decode cX5_plan 42 = .ok (.iastore, 1) := by decide +kernel
theorem dX5_plan_43 : decode cX5_plan 43 = .ok (.iinc 2 1, 3) := by decide +kernel
theorem dX5_plan_46 : decode cX5_plan 46 = .ok (.goto (-31), 3) := by decide +kernel
theorem dX5_plan_49 : decode cX5_plan 49 = .ok (.iconst 0, 1) := by decide +kernel
theorem dX5_plan_50 : decode cX5_plan 50 = .ok (.istore_n 2, 1) := by decide +kernel
theorem dX5_plan_51 : decode cX5_plan 51 = .ok (.iload_n 2, 1) := by decide +kernel
theorem dX5_plan_52 : decode cX5_plan 52 = .ok (.sipush 402, 3) := by decide +kernel
theorem dX5_plan_55 : decode cX5_plan 55 = .ok (.if_icmp .ge 24, 3) := by decide +kernel
theorem dX5_plan_58 : decode cX5_plan 58 = .ok (.aload_n 0, 1) := by decide +kernel
theorem dX5_plan_59 : decode cX5_plan 59 = .ok (.getfield 68, 3) := by decide +kernel
theorem dX5_plan_62 : decode cX5_plan 62 = .ok (.bipush 24, 2) := by decide +kernel
theorem dX5_plan_64 : decode cX5_plan 64 = .ok (.iconst 0, 1) := by decide +kernel
theorem dX5_plan_65 : decode cX5_plan 65 = .ok (.iconst 0, 1) := by decide +kernel
theorem dX5_plan_66 : decode cX5_plan 66 = .ok (.invokestatic 157, 3) := by decide +kernel
theorem dX5_plan_69 : decode cX5_plan 69 = .ok (.iload_n 2, 1) := by decide +kernel
theorem dX5_plan_70 : decode cX5_plan 70 = .ok (.iadd, 1) := by decide +kernel
theorem dX5_plan_71 : decode cX5_plan 71 = .ok (.iconst 0, 1) := by decide +kernel
theorem dX5_plan_72 : decode cX5_plan 72 = .ok (.iastore, 1) := by decide +kernel
theorem dX5_plan_73 : decode cX5_plan 73 = .ok (.iinc 2 1, 3) := by decide +kernel
theorem dX5_plan_76 : decode cX5_plan 76 = .ok (.goto (-25), 3) := by decide +kernel
theorem dX5_plan_79 : decode cX5_plan 79 = .ok (.bipush 23, 2) := by decide +kernel
theorem dX5_plan_81 : decode cX5_plan 81 = .ok (.istore_n 2, 1) := by decide +kernel
theorem dX5_plan_82 : decode cX5_plan 82 = .ok (.iload_n 2, 1) := by decide +kernel
theorem dX5_plan_83 : decode cX5_plan 83 = .ok (.aload_n 0, 1) := by decide +kernel
theorem dX5_plan_84 : decode cX5_plan 84 = .ok (.getfield 154, 3) := by decide +kernel
theorem dX5_plan_87 : decode cX5_plan 87 = .ok (.if_icmp .lt 143, 3) := by decide +kernel
theorem dX5_plan_90 : decode cX5_plan 90 = .ok (.iconst 0, 1) := by decide +kernel
theorem dX5_plan_91 : decode cX5_plan 91 = .ok (.istore_n 3, 1) := by decide +kernel
theorem dX5_plan_92 : decode cX5_plan 92 = .ok (.iload_n 3, 1) := by decide +kernel
theorem dX5_plan_93 : decode cX5_plan 93 = .ok (.sipush 200, 3) := by decide +kernel
theorem dX5_plan_96 : decode cX5_plan 96 = .ok (.if_icmp .gt 128, 3) := by decide +kernel
theorem dX5_plan_99 : decode cX5_plan 99 = .ok (.iconst 0, 1) := by decide +kernel
theorem dX5_plan_100 : decode cX5_plan 100 = .ok (.istore 4, 2) := by decide +kernel
theorem dX5_plan_102 : decode cX5_plan 102 = .ok (.iload 4, 2) := by decide +kernel
theorem dX5_plan_104 : decode cX5_plan 104 = .ok (.iconst 2, 1) := by decide +kernel
theorem dX5_plan_105 : decode cX5_plan 105 = .ok (.if_icmp .ge 113, 3) := by decide +kernel
theorem dX5_plan_108 : decode cX5_plan 108 = .ok (.iload_n 3, 1) := by decide +kernel
theorem dX5_plan_109 : decode cX5_plan 109 = .ok (.aload_n 1, 1) := by decide +kernel
theorem dX5_plan_110 : decode cX5_plan 110 = .ok (.iload_n 2, 1) := by decide +kernel
theorem dX5_plan_111 : decode cX5_plan 111 = .ok (.iaload, 1) := by decide +kernel
theorem dX5_plan_112 : decode cX5_plan 112 = .ok (.invokestatic 161, 3) := by decide +kernel
theorem dX5_plan_115 : decode cX5_plan 115 = .ok (.istore 5, 2) := by decide +kernel
theorem dX5_plan_117 : decode cX5_plan 117 = .ok (.aload_n 0, 1) := by decide +kernel
theorem dX5_plan_118 : decode cX5_plan 118 = .ok (.getfield 68, 3) := by decide +kernel
theorem dX5_plan_121 : decode cX5_plan 121 = .ok (.iload_n 2, 1) := by decide +kernel
theorem dX5_plan_122 : decode cX5_plan 122 = .ok (.iconst 1, 1) := by decide +kernel
theorem dX5_plan_123 : decode cX5_plan 123 = .ok (.iadd, 1) := by decide +kernel
theorem dX5_plan_124 : decode cX5_plan 124 = .ok (.iload 5, 2) := by decide +kernel
theorem dX5_plan_126 : decode cX5_plan 126 = .ok (.iconst 0, 1) := by decide +kernel
theorem dX5_plan_127 : decode cX5_plan 127 = .ok (.invokestatic 157, 3) := by decide +kernel
theorem dX5_plan_130 : decode cX5_plan 130 = .ok (.iaload, 1) := by decide +kernel
theorem dX5_plan_131 : decode cX5_plan 131 = .ok (.istore 6, 2) := by decide +kernel
theorem dX5_plan_133 : decode cX5_plan 133 = .ok (.iload 4, 2) := by decide +kernel
theorem dX5_plan_135 : decode cX5_plan 135 = .ok (.iconst 1, 1) := by decide +kernel
theorem dX5_plan_136 : decode cX5_plan 136 = .ok (.if_icmp .ne 7, 3) := by decide +kernel
theorem dX5_plan_139 : decode cX5_plan 139 = .ok (.iconst 1, 1) := by decide +kernel
theorem dX5_plan_140 : decode cX5_plan 140 = .ok (.goto 4, 3) := by decide +kernel
theorem dX5_plan_143 : decode cX5_plan 143 = .ok (.iconst 0, 1) := by decide +kernel
theorem dX5_plan_144 : decode cX5_plan 144 = .ok (.invokestatic 164, 3) := by decide +kernel
theorem dX5_plan_147 : decode cX5_plan 147 = .ok (.istore 7, 2) := by decide +kernel
theorem dX5_plan_149 : decode cX5_plan 149 = .ok (.iload 5, 2) := by decide +kernel
theorem dX5_plan_151 : decode cX5_plan 151 = .ok (.iload 7, 2) := by decide +kernel
theorem dX5_plan_153 : decode cX5_plan 153 = .ok (.if_icmp .lt 36, 3) := by decide +kernel
theorem dX5_plan_156 : decode cX5_plan 156 = .ok (.iload 6, 2) := by decide +kernel
theorem dX5_plan_158 : decode cX5_plan 158 = .ok (.iconst 5, 1) := by decide +kernel
theorem dX5_plan_159 : decode cX5_plan 159 = .ok (.aload_n 0, 1) := by decide +kernel
theorem dX5_plan_160 : decode cX5_plan 160 = .ok (.getfield 44, 3) := by decide +kernel
theorem dX5_plan_163 : decode cX5_plan 163 = .ok (.iload_n 2, 1) := by decide +kernel
theorem dX5_plan_164 : decode cX5_plan 164 = .ok (.iaload, 1) := by decide +kernel
theorem dX5_plan_165 : decode cX5_plan 165 = .ok (.imul, 1) := by decide +kernel
theorem dX5_plan_166 : decode cX5_plan 166 = .ok (.aload_n 0, 1) := by decide +kernel
theorem dX5_plan_167 : decode cX5_plan 167 = .ok (.getfield 68, 3) := by decide +kernel
theorem dX5_plan_170 : decode cX5_plan 170 = .ok (.iload_n 2, 1) := by decide +kernel
theorem dX5_plan_171 : decode cX5_plan 171 = .ok (.iconst 1, 1) := by decide +kernel
theorem dX5_plan_172 : decode cX5_plan 172 = .ok (.iadd, 1) := by decide +kernel
theorem dX5_plan_173 : decode cX5_plan 173 = .ok (.iload 5, 2) := by decide +kernel
theorem dX5_plan_175 : decode cX5_plan 175 = .ok (.iload 7, 2) := by decide +kernel
theorem dX5_plan_177 : decode cX5_plan 177 = .ok (.isub, 1) := by decide +kernel
theorem dX5_plan_178 : decode cX5_plan 178 = .ok (.iconst 1, 1) := by decide +kernel
theorem dX5_plan_179 : decode cX5_plan 179 = .ok (.invokestatic 157, 3) := by decide +kernel
theorem dX5_plan_182 : decode cX5_plan 182 = .ok (.iaload, 1) := by decide +kernel
theorem dX5_plan_183 : decode cX5_plan 183 = .ok (.iadd, 1) := by decide +kernel
theorem dX5_plan_184 : decode cX5_plan 184 = .ok (.invokestatic 134, 3) := by decide +kernel
theorem dX5_plan_187 : decode cX5_plan 187 = .ok (.istore 6, 2) := by decide +kernel
theorem dX5_plan_189 : decode cX5_plan 189 = .ok (.aload_n 0, 1) := by decide +kernel
theorem dX5_plan_190 : decode cX5_plan 190 = .ok (.getfield 68, 3) := by decide +kernel
theorem dX5_plan_193 : decode cX5_plan 193 = .ok (.iload_n 2, 1) := by decide +kernel
theorem dX5_plan_194 : decode cX5_plan 194 = .ok (.iload_n 3, 1) := by decide +kernel
theorem dX5_plan_195 : decode cX5_plan 195 = .ok (.iload 4, 2) := by decide +kernel
theorem dX5_plan_197 : decode cX5_plan 197 = .ok (.iconst 1, 1) := by decide +kernel
theorem dX5_plan_198 : decode cX5_plan 198 = .ok (.if_icmp .ne 7, 3) := by decide +kernel
theorem dX5_plan_201 : decode cX5_plan 201 = .ok (.iconst 1, 1) := by decide +kernel
theorem dX5_plan_202 : decode cX5_plan 202 = .ok (.goto 4, 3) := by decide +kernel
theorem dX5_plan_205 : decode cX5_plan 205 = .ok (.iconst 0, 1) := by decide +kernel
theorem dX5_plan_206 : decode cX5_plan 206 = .ok (.invokestatic 157, 3) := by decide +kernel
theorem dX5_plan_209 : decode cX5_plan 209 = .ok (.iload 6, 2) := by decide +kernel
theorem dX5_plan_211 : decode cX5_plan 211 = .ok (.iastore, 1) := by decide +kernel
theorem dX5_plan_212 : decode cX5_plan 212 = .ok (.iinc 4 1, 3) := by decide +kernel
theorem dX5_plan_215 : decode cX5_plan 215 = .ok (.goto (-113), 3) := by decide +kernel
theorem dX5_plan_218 : decode cX5_plan 218 = .ok (.iinc 3 1, 3) := by decide +kernel
theorem dX5_plan_221 : decode cX5_plan 221 = .ok (.goto (-129), 3) := by decide +kernel
theorem dX5_plan_224 : decode cX5_plan 224 = .ok (.iinc 2 (-1), 3) := by decide +kernel
theorem dX5_plan_227 : decode cX5_plan 227 = .ok (.goto (-145), 3) := by decide +kernel
theorem dX5_plan_230 : decode cX5_plan 230 = .ok (.aload_n 0, 1) := by decide +kernel
theorem dX5_plan_231 : decode cX5_plan 231 = .ok (.aload_n 0, 1) := by decide +kernel
theorem dX5_plan_232 : decode cX5_plan 232 = .ok (.getfield 154, 3) := by decide +kernel
theorem dX5_plan_235 : decode cX5_plan 235 = .ok (.putfield 75, 3) := by decide +kernel
theorem dX5_plan_238 : decode cX5_plan 238 = .ok (.aload_n 0, 1) := by decide +kernel
theorem dX5_plan_239 : decode cX5_plan 239 = .ok (.getfield 168, 3) := by decide +kernel
theorem dX5_plan_242 : decode cX5_plan 242 = .ok (.istore_n 2, 1) := by decide +kernel
theorem dX5_plan_243 : decode cX5_plan 243 = .ok (.aload_n 0, 1) := by decide +kernel
theorem dX5_plan_244 : decode cX5_plan 244 = .ok (.getfield 171, 3) := by decide +kernel
theorem dX5_plan_247 : decode cX5_plan 247 = .ok (.istore_n 3, 1) := by decide +kernel
theorem dX5_plan_248 : decode cX5_plan 248 = .ok (.aload_n 0, 1) := by decide +kernel
theorem dX5_plan_249 : decode cX5_plan 249 = .ok (.getfield 154, 3) := by decide +kernel
theorem dX5_plan_252 : decode cX5_plan 252 = .ok (.istore 4, 2) := by decide +kernel
theorem dX5_plan_254 : decode cX5_plan 254 = .ok (.iload 4, 2) := by decide +kernel
theorem dX5_plan_256 : decode cX5_plan 256 = .ok (.bipush 24, 2) := by decide +kernel
theorem dX5_plan_258 : decode cX5_plan 258 = .ok (.if_icmp .ge 92, 3) := by decide +kernel
theorem dX5_plan_261 : decode cX5_plan 261 = .ok (.iload_n 2, 1) := by decide +kernel
theorem dX5_plan_262 : decode cX5_plan 262 = .ok (.aload_n 1, 1) := by decide +kernel
theorem dX5_plan_263 : decode cX5_plan 263 = .ok (.iload 4, 2) := by decide +kernel
theorem dX5_plan_265 : decode cX5_plan 265 = .ok (.iaload, 1) := by decide +kernel
theorem dX5_plan_266 : decode cX5_plan 266 = .ok (.invokestatic 161, 3) := by decide +kernel
theorem dX5_plan_269 : decode cX5_plan 269 = .ok (.istore 5, 2) := by decide +kernel
theorem dX5_plan_271 : decode cX5_plan 271 = .ok (.aload_n 0, 1) := by decide +kernel
theorem dX5_plan_272 : decode cX5_plan 272 = .ok (.getfield 71, 3) := by decide +kernel
theorem dX5_plan_275 : decode cX5_plan 275 = .ok (.iload 4, 2) := by decide +kernel
theorem dX5_plan_277 : decode cX5_plan 277 = .ok (.aload_n 0, 1) := by decide +kernel
theorem dX5_plan_278 : decode cX5_plan 278 = .ok (.getfield 68, 3) := by decide +kernel
theorem dX5_plan_281 : decode cX5_plan 281 = .ok (.iload 4, 2) := by decide +kernel
theorem dX5_plan_283 : decode cX5_plan 283 = .ok (.iconst 1, 1) := by decide +kernel
theorem dX5_plan_284 : decode cX5_plan 284 = .ok (.iadd, 1) := by decide +kernel
theorem dX5_plan_285 : decode cX5_plan 285 = .ok (.iload 5, 2) := by decide +kernel
theorem dX5_plan_287 : decode cX5_plan 287 = .ok (.iconst 0, 1) := by decide +kernel
theorem dX5_plan_288 : decode cX5_plan 288 = .ok (.invokestatic 157, 3) := by decide +kernel
theorem dX5_plan_291 : decode cX5_plan 291 = .ok (.iaload, 1) := by decide +kernel
theorem dX5_plan_292 : decode cX5_plan 292 = .ok (.aload_n 0, 1) := by decide +kernel
theorem dX5_plan_293 : decode cX5_plan 293 = .ok (.getfield 68, 3) := by decide +kernel
theorem dX5_plan_296 : decode cX5_plan 296 = .ok (.iload 4, 2) := by decide +kernel
theorem dX5_plan_298 : decode cX5_plan 298 = .ok (.iload_n 2, 1) := by decide +kernel
theorem dX5_plan_299 : decode cX5_plan 299 = .ok (.iload_n 3, 1) := by decide +kernel
theorem dX5_plan_300 : decode cX5_plan 300 = .ok (.invokestatic 157, 3) := by decide +kernel
theorem dX5_plan_303 : decode cX5_plan 303 = .ok (.iaload, 1) := by decide +kernel
theorem dX5_plan_304 : decode cX5_plan 304 = .ok (.if_icmp .ge 7, 3) := by decide +kernel
theorem dX5_plan_307 : decode cX5_plan 307 = .ok (.iconst 1, 1) := by decide +kernel
theorem dX5_plan_308 : decode cX5_plan 308 = .ok (.goto 4, 3) := by decide +kernel
theorem dX5_plan_311 : decode cX5_plan 311 = .ok (.iconst 0, 1) := by decide +kernel
theorem dX5_plan_312 : decode cX5_plan 312 = .ok (.bastore, 1) := by decide +kernel
theorem dX5_plan_313 : decode cX5_plan 313 = .ok (.aload_n 0, 1) := by decide +kernel
theorem dX5_plan_314 : decode cX5_plan 314 = .ok (.getfield 71, 3) := by decide +kernel
theorem dX5_plan_317 : decode cX5_plan 317 = .ok (.iload 4, 2) := by decide +kernel
theorem dX5_plan_319 : decode cX5_plan 319 = .ok (.baload, 1) := by decide +kernel
theorem dX5_plan_320 : decode cX5_plan 320 = .ok (.ifCond .eq 13, 3) := by decide +kernel
theorem dX5_plan_323 : decode cX5_plan 323 = .ok (.iload 5, 2) := by decide +kernel
theorem dX5_plan_325 : decode cX5_plan 325 = .ok (.iload_n 3, 1) := by decide +kernel
theorem dX5_plan_326 : decode cX5_plan 326 = .ok (.invokestatic 164, 3) := by decide +kernel
theorem dX5_plan_329 : decode cX5_plan 329 = .ok (.isub, 1) := by decide +kernel
theorem dX5_plan_330 : decode cX5_plan 330 = .ok (.goto 5, 3) := by decide +kernel
theorem dX5_plan_333 : decode cX5_plan 333 = .ok (.iload 5, 2) := by decide +kernel
theorem dX5_plan_335 : decode cX5_plan 335 = .ok (.istore_n 2, 1) := by decide +kernel
theorem dX5_plan_336 : decode cX5_plan 336 = .ok (.aload_n 0, 1) := by decide +kernel
theorem dX5_plan_337 : decode cX5_plan 337 = .ok (.getfield 71, 3) := by decide +kernel
theorem dX5_plan_340 : decode cX5_plan 340 = .ok (.iload 4, 2) := by decide +kernel
theorem dX5_plan_342 : decode cX5_plan 342 = .ok (.baload, 1) := by decide +kernel
theorem dX5_plan_343 : decode cX5_plan 343 = .ok (.istore_n 3, 1) := by decide +kernel
theorem dX5_plan_344 : decode cX5_plan 344 = .ok (.iinc 4 1, 3) := by decide +kernel
theorem dX5_plan_347 : decode cX5_plan 347 = .ok (.goto (-93), 3) := by decide +kernel
theorem dX5_plan_350 : decode cX5_plan 350 = .ok (.aload_n 0, 1) := by decide +kernel
theorem dX5_plan_351 : decode cX5_plan 351 = .ok (.getfield 68, 3) := by decide +kernel
theorem dX5_plan_354 : decode cX5_plan 354 = .ok (.aload_n 0, 1) := by decide +kernel
theorem dX5_plan_355 : decode cX5_plan 355 = .ok (.getfield 154, 3) := by decide +kernel
theorem dX5_plan_358 : decode cX5_plan 358 = .ok (.aload_n 0, 1) := by decide +kernel
theorem dX5_plan_359 : decode cX5_plan 359 = .ok (.getfield 168, 3) := by decide +kernel
theorem dX5_plan_362 : decode cX5_plan 362 = .ok (.aload_n 0, 1) := by decide +kernel
theorem dX5_plan_363 : decode cX5_plan 363 = .ok (.getfield 171, 3) := by decide +kernel
theorem dX5_plan_366 : decode cX5_plan 366 = .ok (.invokestatic 157, 3) := by decide +kernel
theorem dX5_plan_369 : decode cX5_plan 369 = .ok (.iaload, 1) := by decide +kernel
theorem dX5_plan_370 : decode cX5_plan 370 = .ok (.ireturn, 1) := by decide +kernel
set_option maxRecDepth 20000 in
theorem ggX5_runs_X5_in : GoodIn wsX5_runs wsX5_in := goodIn_r _ [7] rfl (by decide +kernel)
set_option maxRecDepth 20000 in
theorem gX5_runs_X5_in : GoodIn wsX5_runs (va_wsS RX5 94 yX5_in wsX5_in) := goodIn_app (goodIn_of _ (by decide +kernel)) ggX5_runs_X5_in
theorem dX5_runs_0 : decode cX5_runs 0 = .ok (.aload_n 0, 1) := by decide +kernel
theorem dX5_runs_1 : decode cX5_runs 1 = .ok (.iconst 0, 1) := by decide +kernel
theorem dX5_runs_2 : decode cX5_runs 2 = .ok (.putfield 1, 3) := by decide +kernel
theorem dX5_runs_5 : decode cX5_runs 5 = .ok (.iload_n 1, 1) := by decide +kernel
theorem dX5_runs_6 : decode cX5_runs 6 = .ok (.aload_n 0, 1) := by decide +kernel
theorem dX5_runs_7 : decode cX5_runs 7 = .ok (.getfield 75, 3) := by decide +kernel
theorem dX5_runs_10 : decode cX5_runs 10 = .ok (.bipush 23, 2) := by decide +kernel
theorem dX5_runs_12 : decode cX5_runs 12 = .ok (.invokestatic 94, 3) := by decide +kernel
theorem dX5_runs_15 : decode cX5_runs 15 = .ok (.ifCond .eq 20, 3) := by decide +kernel
theorem dX5_runs_18 : decode cX5_runs 18 = .ok (.aload_n 0, 1) := by decide +kernel
theorem dX5_runs_19 : decode cX5_runs 19 = .ok (.getfield 71, 3) := by decide +kernel
theorem dX5_runs_22 : decode cX5_runs 22 = .ok (.iload_n 1, 1) := by decide +kernel
theorem dX5_runs_23 : decode cX5_runs 23 = .ok (.baload, 1) := by decide +kernel
theorem dX5_runs_24 : decode cX5_runs 24 = .ok (.ifCond .eq 7, 3) := by decide +kernel
theorem dX5_runs_27 : decode cX5_runs 27 = .ok (.iconst 1, 1) := by decide +kernel
theorem dX5_runs_28 : decode cX5_runs 28 = .ok (.goto 8, 3) := by decide +kernel
theorem dX5_runs_31 : decode cX5_runs 31 = .ok (.iconst 0, 1) := by decide +kernel
theorem dX5_runs_32 : decode cX5_runs 32 = .ok (.goto 4, 3) := by decide +kernel
theorem dX5_runs_35 : decode cX5_runs 35 = .ok (.iconst (-1), 1) := by decide +kernel
theorem dX5_runs_36 : decode cX5_runs 36 = .ok (.ireturn, 1) := by decide +kernel
set_option maxRecDepth 20000 in
theorem ggX5_step_X5_aims : GoodIn wsX5_step wsX5_aims := goodIn_r _ [18, 19, 20, 7, 21, 22, 23, 24, 25, 26, 17, 27, 28, 29, 30, 31, 32, 8, 10, 11, 12, 13, 33, 34, 35, 36, 37, 38, 39, 40, 41, 42, 43, 44, 45, 46, 47, 48, 49, 50, 51, 52, 68, 69, 70, 71, 72, 73, 74, 75, 76, 77, 78, 79, 80, 81, 82, 83, 84, 85, 86, 87, 88, 89, 90, 91, 92, 93, 94, 95, 96, 97, 98, 99, 100] rfl (by decide +kernel)
set_option maxRecDepth 20000 in
theorem gX5_step_X5_aims : GoodIn wsX5_step (wsV RX5 145 RX5 yX5_aims wsX5_aims) := goodIn_app (goodIn_of _ (by decide +kernel)) ggX5_step_X5_aims
set_option maxRecDepth 20000 in
theorem ggX5_step_X5_filled : GoodIn wsX5_step wsX5_filled := goodIn_r _ [55, 10, 11, 12, 13] rfl (by decide +kernel)
set_option maxRecDepth 20000 in
theorem gX5_step_X5_filled : GoodIn wsX5_step (va_wsS RX5 161 yX5_filled wsX5_filled) := goodIn_app (goodIn_of _ (by decide +kernel)) ggX5_step_X5_filled
set_option maxRecDepth 20000 in
theorem ggX5_step_X5_takes : GoodIn wsX5_step wsX5_takes := goodIn_r _ [58] rfl (by decide +kernel)
set_option maxRecDepth 20000 in
theorem gX5_step_X5_takes : GoodIn wsX5_step (va_wsS RX5 164 yX5_takes wsX5_takes) := goodIn_app (goodIn_of _ (by decide +kernel)) ggX5_step_X5_takes
set_option maxRecDepth 20000 in
theorem ggX5_step_X5_refused : GoodIn wsX5_step wsX5_refused := goodIn_r _ [62, 63, 68, 69, 70, 71, 72, 73, 74, 75, 76, 77, 78, 79, 80, 81, 82, 83, 84, 85, 86, 87, 88, 89, 90, 91, 92, 93, 94, 95, 96, 97, 98, 99, 100] rfl (by decide +kernel)
set_option maxRecDepth 20000 in
theorem gX5_step_X5_refused : GoodIn wsX5_step (wsV RX5 98 RX5 yX5_refused wsX5_refused) := goodIn_app (goodIn_of _ (by decide +kernel)) ggX5_step_X5_refused
set_option maxRecDepth 20000 in
theorem ggX5_step_X5_done : GoodIn wsX5_step wsX5_done := goodIn_r _ [67, 63, 68, 69, 70, 71, 72, 73, 74, 75, 76, 77, 78, 79, 80, 81, 82, 83, 84, 85, 86, 87, 88, 89, 90, 91, 92, 93, 94, 95, 96, 97, 98, 99, 100] rfl (by decide +kernel)
set_option maxRecDepth 20000 in
theorem gX5_step_X5_done : GoodIn wsX5_step (wsV RX5 102 RX5 yX5_done wsX5_done) := goodIn_app (goodIn_of _ (by decide +kernel)) ggX5_step_X5_done
theorem dX5_step_0 : decode cX5_step 0 = .ok (.aload_n 0, 1) := by decide +kernel
theorem dX5_step_1 : decode cX5_step 1 = .ok (.iconst 0, 1) := by decide +kernel
theorem dX5_step_2 : decode cX5_step 2 = .ok (.putfield 1, 3) := by decide +kernel
theorem dX5_step_5 : decode cX5_step 5 = .ok (.aload_n 0, 1) := by decide +kernel
theorem dX5_step_6 : decode cX5_step 6 = .ok (.getfield 168, 3) := by decide +kernel
theorem dX5_step_9 : decode cX5_step 9 = .ok (.aload_n 0, 1) := by decide +kernel
theorem dX5_step_10 : decode cX5_step 10 = .ok (.aload_n 0, 1) := by decide +kernel
theorem dX5_step_11 : decode cX5_step 11 = .ok (.getfield 154, 3) := by decide +kernel
theorem dX5_step_14 : decode cX5_step 14 = .ok (.iconst 0, 1) := by decide +kernel
theorem dX5_step_15 : decode cX5_step 15 = .ok (.invokevirtual 145, 3) := by decide +kernel
theorem dX5_step_18 : decode cX5_step 18 = .ok (.bipush 100, 2) := by decide +kernel
theorem dX5_step_20 : decode cX5_step 20 = .ok (.idiv, 1) := by decide +kernel
theorem dX5_step_21 : decode cX5_step 21 = .ok (.invokestatic 161, 3) := by decide +kernel
theorem dX5_step_24 : decode cX5_step 24 = .ok (.istore_n 2, 1) := by decide +kernel
theorem dX5_step_25 : decode cX5_step 25 = .ok (.iload_n 1, 1) := by decide +kernel
theorem dX5_step_26 : decode cX5_step 26 = .ok (.ifCond .eq 20, 3) := by decide +kernel
theorem dX5_step_29 : decode cX5_step 29 = .ok (.iload_n 2, 1) := by decide +kernel
theorem dX5_step_30 : decode cX5_step 30 = .ok (.aload_n 0, 1) := by decide +kernel
theorem dX5_step_31 : decode cX5_step 31 = .ok (.getfield 171, 3) := by decide +kernel
theorem dX5_step_34 : decode cX5_step 34 = .ok (.invokestatic 164, 3) := by decide +kernel
theorem dX5_step_37 : decode cX5_step 37 = .ok (.if_icmp .ge 9, 3) := by decide +kernel
theorem dX5_step_40 : decode cX5_step 40 = .ok (.aload_n 0, 1) := by decide +kernel
theorem dX5_step_41 : decode cX5_step 41 = .ok (.iconst 2, 1) := by decide +kernel
theorem dX5_step_42 : decode cX5_step 42 = .ok (.invokevirtual 98, 3) := by decide +kernel
theorem dX5_step_45 : decode cX5_step 45 = .ok (.ireturn, 1) := by decide +kernel
theorem dX5_step_46 : decode cX5_step 46 = .ok (.iload_n 1, 1) := by decide +kernel
theorem dX5_step_47 : decode cX5_step 47 = .ok (.ifCond .eq 17, 3) := by decide +kernel
theorem dX5_step_50 : decode cX5_step 50 = .ok (.iconst 5, 1) := by decide +kernel
theorem dX5_step_51 : decode cX5_step 51 = .ok (.aload_n 0, 1) := by decide +kernel
theorem dX5_step_52 : decode cX5_step 52 = .ok (.getfield 44, 3) := by decide +kernel
theorem dX5_step_55 : decode cX5_step 55 = .ok (.aload_n 0, 1) := by decide +kernel
theorem dX5_step_56 : decode cX5_step 56 = .ok (.getfield 154, 3) := by decide +kernel
theorem dX5_step_59 : decode cX5_step 59 = .ok (.iaload, 1) := by decide +kernel
theorem dX5_step_60 : decode cX5_step 60 = .ok (.imul, 1) := by decide +kernel
theorem dX5_step_61 : decode cX5_step 61 = .ok (.goto 4, 3) := by decide +kernel
theorem dX5_step_64 : decode cX5_step 64 = .ok (.iconst 0, 1) := by decide +kernel
theorem dX5_step_65 : decode cX5_step 65 = .ok (.istore_n 3, 1) := by decide +kernel
theorem dX5_step_66 : decode cX5_step 66 = .ok (.aload_n 0, 1) := by decide +kernel
theorem dX5_step_67 : decode cX5_step 67 = .ok (.iload_n 1, 1) := by decide +kernel
theorem dX5_step_68 : decode cX5_step 68 = .ok (.ifCond .eq 15, 3) := by decide +kernel
theorem dX5_step_71 : decode cX5_step 71 = .ok (.iload_n 2, 1) := by decide +kernel
theorem dX5_step_72 : decode cX5_step 72 = .ok (.aload_n 0, 1) := by decide +kernel
theorem dX5_step_73 : decode cX5_step 73 = .ok (.getfield 171, 3) := by decide +kernel
theorem dX5_step_76 : decode cX5_step 76 = .ok (.invokestatic 164, 3) := by decide +kernel
theorem dX5_step_79 : decode cX5_step 79 = .ok (.isub, 1) := by decide +kernel
theorem dX5_step_80 : decode cX5_step 80 = .ok (.goto 4, 3) := by decide +kernel
theorem dX5_step_83 : decode cX5_step 83 = .ok (.iload_n 2, 1) := by decide +kernel
theorem dX5_step_84 : decode cX5_step 84 = .ok (.putfield 168, 3) := by decide +kernel
theorem dX5_step_87 : decode cX5_step 87 = .ok (.aload_n 0, 1) := by decide +kernel
theorem dX5_step_88 : decode cX5_step 88 = .ok (.iload_n 1, 1) := by decide +kernel
theorem dX5_step_89 : decode cX5_step 89 = .ok (.putfield 171, 3) := by decide +kernel
theorem dX5_step_92 : decode cX5_step 92 = .ok (.aload_n 0, 1) := by decide +kernel
theorem dX5_step_93 : decode cX5_step 93 = .ok (.dup, 1) := by decide +kernel
theorem dX5_step_94 : decode cX5_step 94 = .ok (.getfield 175, 3) := by decide +kernel
theorem dX5_step_97 : decode cX5_step 97 = .ok (.iload_n 3, 1) := by decide +kernel
theorem dX5_step_98 : decode cX5_step 98 = .ok (.iadd, 1) := by decide +kernel
theorem dX5_step_99 : decode cX5_step 99 = .ok (.putfield 175, 3) := by decide +kernel
theorem dX5_step_102 : decode cX5_step 102 = .ok (.iconst 0, 1) := by decide +kernel
theorem dX5_step_103 : decode cX5_step 103 = .ok (.istore 4, 2) := by decide +kernel
theorem dX5_step_105 : decode cX5_step 105 = .ok (.iload 4, 2) := by decide +kernel
theorem dX5_step_107 : decode cX5_step 107 = .ok (.aload_n 0, 1) := by decide +kernel
theorem dX5_step_108 : decode cX5_step 108 = .ok (.getfield 91, 3) := by decide +kernel
theorem dX5_step_111 : decode cX5_step 111 = .ok (.if_icmp .ge 33, 3) := by decide +kernel
theorem dX5_step_114 : decode cX5_step 114 = .ok (.aload_n 0, 1) := by decide +kernel
theorem dX5_step_115 : decode cX5_step 115 = .ok (.getfield 26, 3) := by decide +kernel
theorem dX5_step_118 : decode cX5_step 118 = .ok (.iload 4, 2) := by decide +kernel
theorem dX5_step_120 : decode cX5_step 120 = .ok (.bipush 90, 2) := by decide +kernel
theorem dX5_step_122 : decode cX5_step 122 = .ok (.aload_n 0, 1) := by decide +kernel
theorem dX5_step_123 : decode cX5_step 123 = .ok (.getfield 26, 3) := by decide +kernel
theorem dX5_step_126 : decode cX5_step 126 = .ok (.iload 4, 2) := by decide +kernel
theorem dX5_step_128 : decode cX5_step 128 = .ok (.iaload, 1) := by decide +kernel
theorem dX5_step_129 : decode cX5_step 129 = .ok (.aload_n 0, 1) := by decide +kernel
theorem dX5_step_130 : decode cX5_step 130 = .ok (.getfield 16, 3) := by decide +kernel
theorem dX5_step_133 : decode cX5_step 133 = .ok (.iadd, 1) := by decide +kernel
theorem dX5_step_134 : decode cX5_step 134 = .ok (.invokestatic 129, 3) := by decide +kernel
theorem dX5_step_137 : decode cX5_step 137 = .ok (.iastore, 1) := by decide +kernel
theorem dX5_step_138 : decode cX5_step 138 = .ok (.iinc 4 1, 3) := by decide +kernel
theorem dX5_step_141 : decode cX5_step 141 = .ok (.goto (-36), 3) := by decide +kernel
theorem dX5_step_144 : decode cX5_step 144 = .ok (.aload_n 0, 1) := by decide +kernel
theorem dX5_step_145 : decode cX5_step 145 = .ok (.aload_n 0, 1) := by decide +kernel
theorem dX5_step_146 : decode cX5_step 146 = .ok (.getfield 154, 3) := by decide +kernel
theorem dX5_step_149 : decode cX5_step 149 = .ok (.iconst 1, 1) := by decide +kernel
theorem dX5_step_150 : decode cX5_step 150 = .ok (.iadd, 1) := by decide +kernel
theorem dX5_step_151 : decode cX5_step 151 = .ok (.bipush 24, 2) := by decide +kernel
theorem dX5_step_153 : decode cX5_step 153 = .ok (.irem, 1) := by decide +kernel
theorem dX5_step_154 : decode cX5_step 154 = .ok (.putfield 154, 3) := by decide +kernel
theorem dX5_step_157 : decode cX5_step 157 = .ok (.aload_n 0, 1) := by decide +kernel
theorem dX5_step_158 : decode cX5_step 158 = .ok (.iload_n 3, 1) := by decide +kernel
theorem dX5_step_159 : decode cX5_step 159 = .ok (.invokevirtual 102, 3) := by decide +kernel
theorem dX5_step_162 : decode cX5_step 162 = .ok (.ireturn, 1) := by decide +kernel
theorem dX5_earned_0 : decode cX5_earned 0 = .ok (.aload_n 0, 1) := by decide +kernel
theorem dX5_earned_1 : decode cX5_earned 1 = .ok (.iconst 0, 1) := by decide +kernel
theorem dX5_earned_2 : decode cX5_earned 2 = .ok (.putfield 1, 3) := by decide +kernel
theorem dX5_earned_5 : decode cX5_earned 5 = .ok (.aload_n 0, 1) := by decide +kernel
theorem dX5_earned_6 : decode cX5_earned 6 = .ok (.getfield 175, 3) := by decide +kernel
theorem dX5_earned_9 : decode cX5_earned 9 = .ok (.ireturn, 1) := by decide +kernel
theorem dX5_bits_0 : decode cX5_bits 0 = .ok (.iconst 0, 1) := by decide +kernel
theorem dX5_bits_1 : decode cX5_bits 1 = .ok (.istore_n 2, 1) := by decide +kernel
theorem dX5_bits_2 : decode cX5_bits 2 = .ok (.lload_n 0, 1) := by decide +kernel
theorem dX5_bits_3 : decode cX5_bits 3 = .ok (.lstore_n 3, 1) := by decide +kernel
theorem dX5_bits_4 : decode cX5_bits 4 = .ok (.lload_n 3, 1) := by decide +kernel
theorem dX5_bits_5 : decode cX5_bits 5 = .ok (.lconst 0, 1) := by decide +kernel
theorem dX5_bits_6 : decode cX5_bits 6 = .ok (.lcmp, 1) := by decide +kernel
theorem dX5_bits_7 : decode cX5_bits 7 = .ok (.ifCond .eq 15, 3) := by decide +kernel
theorem dX5_bits_10 : decode cX5_bits 10 = .ok (.iinc 2 1, 3) := by decide +kernel
theorem dX5_bits_13 : decode cX5_bits 13 = .ok (.lload_n 3, 1) := by decide +kernel
theorem dX5_bits_14 : decode cX5_bits 14 = .ok (.lload_n 3, 1) := by decide +kernel
theorem dX5_bits_15 : decode cX5_bits 15 = .ok (.lconst 1, 1) := by decide +kernel
theorem dX5_bits_16 : decode cX5_bits 16 = .ok (.lsub, 1) := by decide +kernel
theorem dX5_bits_17 : decode cX5_bits 17 = .ok (.land, 1) := by decide +kernel
theorem dX5_bits_18 : decode cX5_bits 18 = .ok (.lstore_n 3, 1) := by decide +kernel
theorem dX5_bits_19 : decode cX5_bits 19 = .ok (.goto (-15), 3) := by decide +kernel
theorem dX5_bits_22 : decode cX5_bits 22 = .ok (.iload_n 2, 1) := by decide +kernel
theorem dX5_bits_23 : decode cX5_bits 23 = .ok (.ireturn, 1) := by decide +kernel
set_option maxRecDepth 20000 in
theorem ggX5_shot_X5_bits : GoodIn wsX5_shot wsX5_bits := goodIn_r _ [11] rfl (by decide +kernel)
set_option maxRecDepth 20000 in
theorem gX5_shot_X5_bits : GoodIn wsX5_shot (va_wsS RX5 180 yX5_bits wsX5_bits) := goodIn_app (goodIn_of _ (by decide +kernel)) ggX5_shot_X5_bits
set_option maxRecDepth 20000 in
theorem ggX5_shot_X5_refused : GoodIn wsX5_shot wsX5_refused := goodIn_r _ [15, 16, 21, 22, 23, 24, 25, 26, 27, 28, 29, 30, 31, 32, 33, 34, 35, 36, 37, 38, 39, 40, 41, 42, 43, 44, 45, 46, 47, 48, 49, 50, 51, 52, 53] rfl (by decide +kernel)
set_option maxRecDepth 20000 in
theorem gX5_shot_X5_refused : GoodIn wsX5_shot (wsV RX5 98 RX5 yX5_refused wsX5_refused) := goodIn_app (goodIn_of _ (by decide +kernel)) ggX5_shot_X5_refused
set_option maxRecDepth 20000 in
theorem ggX5_shot_X5_done : GoodIn wsX5_shot wsX5_done := goodIn_r _ [20, 16, 21, 22, 23, 24, 25, 26, 27, 28, 29, 30, 31, 32, 33, 34, 35, 36, 37, 38, 39, 40, 41, 42, 43, 44, 45, 46, 47, 48, 49, 50, 51, 52, 53] rfl (by decide +kernel)
set_option maxRecDepth 20000 in
theorem gX5_shot_X5_done : GoodIn wsX5_shot (wsV RX5 102 RX5 yX5_done wsX5_done) := goodIn_app (goodIn_of _ (by decide +kernel)) ggX5_shot_X5_done
theorem dX5_shot_0 : decode cX5_shot 0 = .ok (.aload_n 0, 1) := by decide +kernel
theorem dX5_shot_1 : decode cX5_shot 1 = .ok (.iconst 0, 1) := by decide +kernel
theorem dX5_shot_2 : decode cX5_shot 2 = .ok (.putfield 1, 3) := by decide +kernel
theorem dX5_shot_5 : decode cX5_shot 5 = .ok (.iload_n 2, 1) := by decide +kernel
theorem dX5_shot_6 : decode cX5_shot 6 = .ok (.i2l, 1) := by decide +kernel
theorem dX5_shot_7 : decode cX5_shot 7 = .ok (.bipush 32, 2) := by decide +kernel
theorem dX5_shot_9 : decode cX5_shot 9 = .ok (.lshl, 1) := by decide +kernel
theorem dX5_shot_10 : decode cX5_shot 10 = .ok (.iload_n 1, 1) := by decide +kernel
theorem dX5_shot_11 : decode cX5_shot 11 = .ok (.i2l, 1) := by decide +kernel
theorem dX5_shot_12 : decode cX5_shot 12 = .ok (.ldc2_w 178, 3) := by decide +kernel
theorem dX5_shot_15 : decode cX5_shot 15 = .ok (.land, 1) := by decide +kernel
theorem dX5_shot_16 : decode cX5_shot 16 = .ok (.lor, 1) := by decide +kernel
theorem dX5_shot_17 : decode cX5_shot 17 = .ok (.lstore 4, 2) := by decide +kernel
theorem dX5_shot_19 : decode cX5_shot 19 = .ok (.iload_n 3, 1) := by decide +kernel
theorem dX5_shot_20 : decode cX5_shot 20 = .ok (.ifCond .lt 12, 3) := by decide +kernel
theorem dX5_shot_23 : decode cX5_shot 23 = .ok (.iload_n 3, 1) := by decide +kernel
theorem dX5_shot_24 : decode cX5_shot 24 = .ok (.lload 4, 2) := by decide +kernel
theorem dX5_shot_26 : decode cX5_shot 26 = .ok (.invokestatic 180, 3) := by decide +kernel
theorem dX5_shot_29 : decode cX5_shot 29 = .ok (.if_icmp .le 9, 3) := by decide +kernel
theorem dX5_shot_32 : decode cX5_shot 32 = .ok (.aload_n 0, 1) := by decide +kernel
theorem dX5_shot_33 : decode cX5_shot 33 = .ok (.iconst 2, 1) := by decide +kernel
theorem dX5_shot_34 : decode cX5_shot 34 = .ok (.invokevirtual 98, 3) := by decide +kernel
theorem dX5_shot_37 : decode cX5_shot 37 = .ok (.ireturn, 1) := by decide +kernel
theorem dX5_shot_38 : decode cX5_shot 38 = .ok (.lload 4, 2) := by decide +kernel
theorem dX5_shot_40 : decode cX5_shot 40 = .ok (.lconst 0, 1) := by decide +kernel
theorem dX5_shot_41 : decode cX5_shot 41 = .ok (.lcmp, 1) := by decide +kernel
theorem dX5_shot_42 : decode cX5_shot 42 = .ok (.ifCond .eq 23, 3) := by decide +kernel
theorem dX5_shot_45 : decode cX5_shot 45 = .ok (.lload 4, 2) := by decide +kernel
theorem dX5_shot_47 : decode cX5_shot 47 = .ok (.lconst 1, 1) := by decide +kernel
theorem dX5_shot_48 : decode cX5_shot 48 = .ok (.aload_n 0, 1) := by decide +kernel
theorem dX5_shot_49 : decode cX5_shot 49 = .ok (.getfield 91, 3) := by decide +kernel
theorem dX5_shot_52 : decode cX5_shot 52 = .ok (.lshl, 1) := by decide +kernel
theorem dX5_shot_53 : decode cX5_shot 53 = .ok (.lconst 1, 1) := by decide +kernel
theorem dX5_shot_54 : decode cX5_shot 54 = .ok (.lsub, 1) := by decide +kernel
theorem dX5_shot_55 : decode cX5_shot 55 = .ok (.ldc2_w 184, 3) := by decide +kernel
theorem dX5_shot_58 : decode cX5_shot 58 = .ok (.lxor, 1) := by decide +kernel
theorem dX5_shot_59 : decode cX5_shot 59 = .ok (.land, 1) := by decide +kernel
theorem dX5_shot_60 : decode cX5_shot 60 = .ok (.lconst 0, 1) := by decide +kernel
theorem dX5_shot_61 : decode cX5_shot 61 = .ok (.lcmp, 1) := by decide +kernel
theorem dX5_shot_62 : decode cX5_shot 62 = .ok (.ifCond .eq 9, 3) := by decide +kernel
theorem dX5_shot_65 : decode cX5_shot 65 = .ok (.aload_n 0, 1) := by decide +kernel
theorem dX5_shot_66 : decode cX5_shot 66 = .ok (.iconst 4, 1) := by decide +kernel
theorem dX5_shot_67 : decode cX5_shot 67 = .ok (.invokevirtual 98, 3) := by decide +kernel
theorem dX5_shot_70 : decode cX5_shot 70 = .ok (.ireturn, 1) := by decide +kernel
theorem dX5_shot_71 : decode cX5_shot 71 = .ok (.aload_n 0, 1) := by decide +kernel
theorem dX5_shot_72 : decode cX5_shot 72 = .ok (.getfield 186, 3) := by decide +kernel
theorem dX5_shot_75 : decode cX5_shot 75 = .ok (.bipush 12, 2) := by decide +kernel
theorem dX5_shot_77 : decode cX5_shot 77 = .ok (.if_icmp .ne 9, 3) := by decide +kernel
theorem dX5_shot_80 : decode cX5_shot 80 = .ok (.aload_n 0, 1) := by decide +kernel
theorem dX5_shot_81 : decode cX5_shot 81 = .ok (.iconst 3, 1) := by decide +kernel
theorem dX5_shot_82 : decode cX5_shot 82 = .ok (.invokevirtual 98, 3) := by decide +kernel
theorem dX5_shot_85 : decode cX5_shot 85 = .ok (.ireturn, 1) := by decide +kernel
theorem dX5_shot_86 : decode cX5_shot 86 = .ok (.aload_n 0, 1) := by decide +kernel
theorem dX5_shot_87 : decode cX5_shot 87 = .ok (.getfield 81, 3) := by decide +kernel
theorem dX5_shot_90 : decode cX5_shot 90 = .ok (.aload_n 0, 1) := by decide +kernel
theorem dX5_shot_91 : decode cX5_shot 91 = .ok (.getfield 186, 3) := by decide +kernel
theorem dX5_shot_94 : decode cX5_shot 94 = .ok (.lload 4, 2) := by decide +kernel
theorem dX5_shot_96 : decode cX5_shot 96 = .ok (.lastore, 1) := by decide +kernel
theorem dX5_shot_97 : decode cX5_shot 97 = .ok (.aload_n 0, 1) := by decide +kernel
theorem dX5_shot_98 : decode cX5_shot 98 = .ok (.getfield 85, 3) := by decide +kernel
theorem dX5_shot_101 : decode cX5_shot 101 = .ok (.aload_n 0, 1) := by decide +kernel
theorem dX5_shot_102 : decode cX5_shot 102 = .ok (.getfield 186, 3) := by decide +kernel
theorem dX5_shot_105 : decode cX5_shot 105 = .ok (.iload_n 3, 1) := by decide +kernel
theorem dX5_shot_106 : decode cX5_shot 106 = .ok (.iastore, 1) := by decide +kernel
theorem dX5_shot_107 : decode cX5_shot 107 = .ok (.aload_n 0, 1) := by decide +kernel
theorem dX5_shot_108 : decode cX5_shot 108 = .ok (.dup, 1) := by decide +kernel
theorem dX5_shot_109 : decode cX5_shot 109 = .ok (.getfield 186, 3) := by decide +kernel
theorem dX5_shot_112 : decode cX5_shot 112 = .ok (.iconst 1, 1) := by decide +kernel
theorem dX5_shot_113 : decode cX5_shot 113 = .ok (.iadd, 1) := by decide +kernel
theorem dX5_shot_114 : decode cX5_shot 114 = .ok (.putfield 186, 3) := by decide +kernel
theorem dX5_shot_117 : decode cX5_shot 117 = .ok (.aload_n 0, 1) := by decide +kernel
theorem dX5_shot_118 : decode cX5_shot 118 = .ok (.aload_n 0, 1) := by decide +kernel
theorem dX5_shot_119 : decode cX5_shot 119 = .ok (.getfield 186, 3) := by decide +kernel
theorem dX5_shot_122 : decode cX5_shot 122 = .ok (.iconst 1, 1) := by decide +kernel
theorem dX5_shot_123 : decode cX5_shot 123 = .ok (.isub, 1) := by decide +kernel
theorem dX5_shot_124 : decode cX5_shot 124 = .ok (.invokevirtual 102, 3) := by decide +kernel
theorem dX5_shot_127 : decode cX5_shot 127 = .ok (.ireturn, 1) := by decide +kernel
theorem dX5_forget_0 : decode cX5_forget 0 = .ok (.aload_n 0, 1) := by decide +kernel
theorem dX5_forget_1 : decode cX5_forget 1 = .ok (.iconst 0, 1) := by decide +kernel
theorem dX5_forget_2 : decode cX5_forget 2 = .ok (.putfield 1, 3) := by decide +kernel
theorem dX5_forget_5 : decode cX5_forget 5 = .ok (.aload_n 0, 1) := by decide +kernel
theorem dX5_forget_6 : decode cX5_forget 6 = .ok (.getfield 186, 3) := by decide +kernel
theorem dX5_forget_9 : decode cX5_forget 9 = .ok (.istore_n 1, 1) := by decide +kernel
theorem dX5_forget_10 : decode cX5_forget 10 = .ok (.aload_n 0, 1) := by decide +kernel
theorem dX5_forget_11 : decode cX5_forget 11 = .ok (.iconst 0, 1) := by decide +kernel
theorem dX5_forget_12 : decode cX5_forget 12 = .ok (.putfield 186, 3) := by decide +kernel
theorem dX5_forget_15 : decode cX5_forget 15 = .ok (.iload_n 1, 1) := by decide +kernel
theorem dX5_forget_16 : decode cX5_forget 16 = .ok (.ireturn, 1) := by decide +kernel
set_option maxRecDepth 20000 in
theorem ggX5_agrees_X5_bits : GoodIn wsX5_agrees wsX5_bits := goodIn_r _ [8] rfl (by decide +kernel)
set_option maxRecDepth 20000 in
theorem gX5_agrees_X5_bits : GoodIn wsX5_agrees (va_wsS RX5 180 yX5_bits wsX5_bits) := goodIn_app (goodIn_of _ (by decide +kernel)) ggX5_agrees_X5_bits
theorem dX5_agrees_0 : decode cX5_agrees 0 = .ok (.iconst 1, 1) := by decide +kernel
theorem dX5_agrees_1 : decode cX5_agrees 1 = .ok (.istore_n 3, 1) := by decide +kernel
theorem dX5_agrees_2 : decode cX5_agrees 2 = .ok (.iconst 0, 1) := by decide +kernel
theorem dX5_agrees_3 : decode cX5_agrees 3 = .ok (.istore 4, 2) := by decide +kernel
theorem dX5_agrees_5 : decode cX5_agrees 5 = .ok (.iload 4, 2) := by decide +kernel
theorem dX5_agrees_7 : decode cX5_agrees 7 = .ok (.aload_n 0, 1) := by decide +kernel
theorem dX5_agrees_8 : decode cX5_agrees 8 = .ok (.getfield 186, 3) := by decide +kernel
theorem dX5_agrees_11 : decode cX5_agrees 11 = .ok (.if_icmp .ge 45, 3) := by decide +kernel
theorem dX5_agrees_14 : decode cX5_agrees 14 = .ok (.iload_n 3, 1) := by decide +kernel
theorem dX5_agrees_15 : decode cX5_agrees 15 = .ok (.ifCond .eq 33, 3) := by decide +kernel
theorem dX5_agrees_18 : decode cX5_agrees 18 = .ok (.aload_n 0, 1) := by decide +kernel
theorem dX5_agrees_19 : decode cX5_agrees 19 = .ok (.getfield 81, 3) := by decide +kernel
theorem dX5_agrees_22 : decode cX5_agrees 22 = .ok (.iload 4, 2) := by decide +kernel
theorem dX5_agrees_24 : decode cX5_agrees 24 = .ok (.laload, 1) := by decide +kernel
theorem dX5_agrees_25 : decode cX5_agrees 25 = .ok (.lload_n 1, 1) := by decide +kernel
theorem dX5_agrees_26 : decode cX5_agrees 26 = .ok (.ldc2_w 184, 3) := by decide +kernel
theorem dX5_agrees_29 : decode cX5_agrees 29 = .ok (.lxor, 1) := by decide +kernel
theorem dX5_agrees_30 : decode cX5_agrees 30 = .ok (.land, 1) := by decide +kernel
theorem dX5_agrees_31 : decode cX5_agrees 31 = .ok (.invokestatic 180, 3) := by decide +kernel
theorem dX5_agrees_34 : decode cX5_agrees 34 = .ok (.aload_n 0, 1) := by decide +kernel
theorem dX5_agrees_35 : decode cX5_agrees 35 = .ok (.getfield 85, 3) := by decide +kernel
theorem dX5_agrees_38 : decode cX5_agrees 38 = .ok (.iload 4, 2) := by decide +kernel
theorem dX5_agrees_40 : decode cX5_agrees 40 = .ok (.iaload, 1) := by decide +kernel
theorem dX5_agrees_41 : decode cX5_agrees 41 = .ok (.if_icmp .ne 7, 3) := by decide +kernel
theorem dX5_agrees_44 : decode cX5_agrees 44 = .ok (.iconst 1, 1) := by decide +kernel
theorem dX5_agrees_45 : decode cX5_agrees 45 = .ok (.goto 4, 3) := by decide +kernel
theorem dX5_agrees_48 : decode cX5_agrees 48 = .ok (.iconst 0, 1) := by decide +kernel
theorem dX5_agrees_49 : decode cX5_agrees 49 = .ok (.istore_n 3, 1) := by decide +kernel
theorem dX5_agrees_50 : decode cX5_agrees 50 = .ok (.iinc 4 1, 3) := by decide +kernel
theorem dX5_agrees_53 : decode cX5_agrees 53 = .ok (.goto (-48), 3) := by decide +kernel
theorem dX5_agrees_56 : decode cX5_agrees 56 = .ok (.iload_n 3, 1) := by decide +kernel
theorem dX5_agrees_57 : decode cX5_agrees 57 = .ok (.ireturn, 1) := by decide +kernel
set_option maxRecDepth 20000 in
theorem ggX5_agreeing_X5_agrees : GoodIn wsX5_agreeing wsX5_agrees := goodIn_r _ [7, 8, 9, 10, 11, 12, 13, 6, 14, 15, 16, 17, 18, 19, 20, 21, 22, 23, 24, 25, 26, 27, 28, 29, 30, 31, 32, 33, 34, 35, 36, 37, 38, 39, 40, 41, 42, 43, 44, 45, 46, 47] rfl (by decide +kernel)
set_option maxRecDepth 20000 in
theorem gX5_agreeing_X5_agrees : GoodIn wsX5_agreeing (wsV RX5 189 RX5 yX5_agrees wsX5_agrees) := goodIn_app (goodIn_of _ (by decide +kernel)) ggX5_agreeing_X5_agrees
theorem dX5_agreeing_0 : decode cX5_agreeing 0 = .ok (.iconst 0, 1) := by decide +kernel
theorem dX5_agreeing_1 : decode cX5_agreeing 1 = .ok (.istore_n 1, 1) := by decide +kernel
theorem dX5_agreeing_2 : decode cX5_agreeing 2 = .ok (.iload_n 1, 1) := by decide +kernel
theorem dX5_agreeing_3 : decode cX5_agreeing 3 = .ok (.bipush 40, 2) := by decide +kernel
theorem dX5_agreeing_5 : decode cX5_agreeing 5 = .ok (.if_icmp .ge 16, 3) := by decide +kernel
theorem dX5_agreeing_8 : decode cX5_agreeing 8 = .ok (.aload_n 0, 1) := by decide +kernel
theorem dX5_agreeing_9 : decode cX5_agreeing 9 = .ok (.getfield 88, 3) := by decide +kernel
theorem dX5_agreeing_12 : decode cX5_agreeing 12 = .ok (.iload_n 1, 1) := by decide +kernel
theorem dX5_agreeing_13 : decode cX5_agreeing 13 = .ok (.iconst 0, 1) := by decide +kernel
theorem dX5_agreeing_14 : decode cX5_agreeing 14 = .ok (.iastore, 1) := by decide +kernel
theorem dX5_agreeing_15 : decode cX5_agreeing 15 = .ok (.iinc 1 1, 3) := by decide +kernel
theorem dX5_agreeing_18 : decode cX5_agreeing 18 = .ok (.goto (-16), 3) := by decide +kernel
theorem dX5_agreeing_21 : decode cX5_agreeing 21 = .ok (.aload_n 0, 1) := by decide +kernel
theorem dX5_agreeing_22 : decode cX5_agreeing 22 = .ok (.lconst 0, 1) := by decide +kernel
theorem dX5_agreeing_23 : decode cX5_agreeing 23 = .ok (.invokevirtual 189, 3) := by decide +kernel
theorem dX5_agreeing_26 : decode cX5_agreeing 26 = .ok (.ifCond .eq 7, 3) := by decide +kernel
theorem dX5_agreeing_29 : decode cX5_agreeing 29 = .ok (.iconst 1, 1) := by decide +kernel
theorem dX5_agreeing_30 : decode cX5_agreeing 30 = .ok (.goto 4, 3) := by decide +kernel
theorem dX5_agreeing_33 : decode cX5_agreeing 33 = .ok (.iconst 0, 1) := by decide +kernel
theorem dX5_agreeing_34 : decode cX5_agreeing 34 = .ok (.istore_n 1, 1) := by decide +kernel
theorem dX5_agreeing_35 : decode cX5_agreeing 35 = .ok (.iconst 0, 1) := by decide +kernel
theorem dX5_agreeing_36 : decode cX5_agreeing 36 = .ok (.istore_n 2, 1) := by decide +kernel
theorem dX5_agreeing_37 : decode cX5_agreeing 37 = .ok (.iload_n 2, 1) := by decide +kernel
theorem dX5_agreeing_38 : decode cX5_agreeing 38 = .ok (.aload_n 0, 1) := by decide +kernel
theorem dX5_agreeing_39 : decode cX5_agreeing 39 = .ok (.getfield 91, 3) := by decide +kernel
theorem dX5_agreeing_42 : decode cX5_agreeing 42 = .ok (.if_icmp .ge 70, 3) := by decide +kernel
theorem dX5_agreeing_45 : decode cX5_agreeing 45 = .ok (.iload_n 2, 1) := by decide +kernel
theorem dX5_agreeing_46 : decode cX5_agreeing 46 = .ok (.istore_n 3, 1) := by decide +kernel
theorem dX5_agreeing_47 : decode cX5_agreeing 47 = .ok (.iload_n 3, 1) := by decide +kernel
theorem dX5_agreeing_48 : decode cX5_agreeing 48 = .ok (.aload_n 0, 1) := by decide +kernel
theorem dX5_agreeing_49 : decode cX5_agreeing 49 = .ok (.getfield 91, 3) := by decide +kernel
theorem dX5_agreeing_52 : decode cX5_agreeing 52 = .ok (.if_icmp .ge 54, 3) := by decide +kernel
theorem dX5_agreeing_55 : decode cX5_agreeing 55 = .ok (.aload_n 0, 1) := by decide +kernel
theorem dX5_agreeing_56 : decode cX5_agreeing 56 = .ok (.lconst 1, 1) := by decide +kernel
theorem dX5_agreeing_57 : decode cX5_agreeing 57 = .ok (.iload_n 2, 1) := by decide +kernel
theorem dX5_agreeing_58 : decode cX5_agreeing 58 = .ok (.lshl, 1) := by decide +kernel
theorem dX5_agreeing_59 : decode cX5_agreeing 59 = .ok (.lconst 1, 1) := by decide +kernel
theorem dX5_agreeing_60 : decode cX5_agreeing 60 = .ok (.iload_n 3, 1) := by decide +kernel
theorem dX5_agreeing_61 : decode cX5_agreeing 61 = .ok (.lshl, 1) := by decide +kernel
theorem dX5_agreeing_62 : decode cX5_agreeing 62 = .ok (.lor, 1) := by decide +kernel
theorem dX5_agreeing_63 : decode cX5_agreeing 63 = .ok (.invokevirtual 189, 3) := by decide +kernel
theorem dX5_agreeing_66 : decode cX5_agreeing 66 = .ok (.ifCond .ne 6, 3) := by decide +kernel
theorem dX5_agreeing_69 : decode cX5_agreeing 69 = .ok (.goto 31, 3) := by decide +kernel
theorem dX5_agreeing_72 : decode cX5_agreeing 72 = .ok (.iinc 1 1, 3) := by decide +kernel
theorem dX5_agreeing_75 : decode cX5_agreeing 75 = .ok (.aload_n 0, 1) := by decide +kernel
theorem dX5_agreeing_76 : decode cX5_agreeing 76 = .ok (.getfield 88, 3) := by decide +kernel
theorem dX5_agreeing_79 : decode cX5_agreeing 79 = .ok (.iload_n 2, 1) := by decide +kernel
theorem dX5_agreeing_80 : decode cX5_agreeing 80 = .ok (.dup2, 1) := by decide +kernel
theorem dX5_agreeing_81 : decode cX5_agreeing 81 = .ok (.iaload, 1) := by decide +kernel
theorem dX5_agreeing_82 : decode cX5_agreeing 82 = .ok (.iconst 1, 1) := by decide +kernel
theorem dX5_agreeing_83 : decode cX5_agreeing 83 = .ok (.iadd, 1) := by decide +kernel
theorem dX5_agreeing_84 : decode cX5_agreeing 84 = .ok (.iastore, 1) := by decide +kernel
theorem dX5_agreeing_85 : decode cX5_agreeing 85 = .ok (.iload_n 3, 1) := by decide +kernel
theorem dX5_agreeing_86 : decode cX5_agreeing 86 = .ok (.iload_n 2, 1) := by decide +kernel
theorem dX5_agreeing_87 : decode cX5_agreeing 87 = .ok (.if_icmp .le 13, 3) := by decide +kernel
theorem dX5_agreeing_90 : decode cX5_agreeing 90 = .ok (.aload_n 0, 1) := by decide +kernel
theorem dX5_agreeing_91 : decode cX5_agreeing 91 = .ok (.getfield 88, 3) := by decide +kernel
theorem dX5_agreeing_94 : decode cX5_agreeing 94 = .ok (.iload_n 3, 1) := by decide +kernel
theorem dX5_agreeing_95 : decode cX5_agreeing 95 = .ok (.dup2, 1) := by decide +kernel
theorem dX5_agreeing_96 : decode cX5_agreeing 96 = .ok (.iaload, 1) := by decide +kernel
theorem dX5_agreeing_97 : decode cX5_agreeing 97 = .ok (.iconst 1, 1) := by decide +kernel
theorem dX5_agreeing_98 : decode cX5_agreeing 98 = .ok (.iadd, 1) := by decide +kernel
theorem dX5_agreeing_99 : decode cX5_agreeing 99 = .ok (.iastore, 1) := by decide +kernel
theorem dX5_agreeing_100 : decode cX5_agreeing 100 = .ok (.iinc 3 1, 3) := by decide +kernel
theorem dX5_agreeing_103 : decode cX5_agreeing 103 = .ok (.goto (-56), 3) := by decide +kernel
theorem dX5_agreeing_106 : decode cX5_agreeing 106 = .ok (.iinc 2 1, 3) := by decide +kernel
theorem dX5_agreeing_109 : decode cX5_agreeing 109 = .ok (.goto (-72), 3) := by decide +kernel
theorem dX5_agreeing_112 : decode cX5_agreeing 112 = .ok (.iload_n 1, 1) := by decide +kernel
theorem dX5_agreeing_113 : decode cX5_agreeing 113 = .ok (.ireturn, 1) := by decide +kernel
set_option maxRecDepth 20000 in
theorem ggX5_agree_X5_agreeing : GoodIn wsX5_agree wsX5_agreeing := goodIn_r _ [6, 7, 8, 9, 10, 11, 5, 12, 13, 14, 15, 16, 17, 18, 19, 20, 21, 22, 23, 24, 25, 26, 27, 28, 29, 30, 31, 32, 33, 34, 35, 36, 37, 38, 39, 40, 41, 42, 43, 44, 45, 46, 47, 48, 49, 50, 51, 52] rfl (by decide +kernel)
set_option maxRecDepth 20000 in
theorem gX5_agree_X5_agreeing : GoodIn wsX5_agree (wsV RX5 193 RX5 yX5_agreeing wsX5_agreeing) := goodIn_app (goodIn_of _ (by decide +kernel)) ggX5_agree_X5_agreeing
theorem dX5_agree_0 : decode cX5_agree 0 = .ok (.aload_n 0, 1) := by decide +kernel
theorem dX5_agree_1 : decode cX5_agree 1 = .ok (.iconst 0, 1) := by decide +kernel
theorem dX5_agree_2 : decode cX5_agree 2 = .ok (.putfield 1, 3) := by decide +kernel
theorem dX5_agree_5 : decode cX5_agree 5 = .ok (.aload_n 0, 1) := by decide +kernel
theorem dX5_agree_6 : decode cX5_agree 6 = .ok (.invokevirtual 193, 3) := by decide +kernel
theorem dX5_agree_9 : decode cX5_agree 9 = .ok (.ireturn, 1) := by decide +kernel
set_option maxRecDepth 20000 in
theorem ggX5_stuck_X5_isMirror : GoodIn wsX5_stuck wsX5_isMirror := goodIn_r _ [7, 8, 24, 25, 26, 27, 28, 29, 30, 31, 32, 33, 34, 35, 36, 37, 38, 39, 40, 41, 42, 43, 44, 45, 46, 47, 48, 49, 50, 51, 52, 53, 54, 55, 56] rfl (by decide +kernel)
set_option maxRecDepth 20000 in
theorem gX5_stuck_X5_isMirror : GoodIn wsX5_stuck (wsV RX5 116 RX5 yX5_isMirror wsX5_isMirror) := goodIn_app (goodIn_of _ (by decide +kernel)) ggX5_stuck_X5_isMirror
set_option maxRecDepth 20000 in
theorem ggX5_stuck_X5_agreeing : GoodIn wsX5_stuck wsX5_agreeing := goodIn_r _ [12, 2, 8, 13, 14, 15, 6, 16, 17, 18, 19, 20, 21, 22, 23, 24, 25, 26, 27, 28, 29, 30, 31, 32, 33, 34, 35, 36, 37, 38, 39, 40, 41, 42, 43, 44, 45, 46, 47, 48, 49, 50, 51, 52, 53, 54, 55, 56] rfl (by decide +kernel)
set_option maxRecDepth 20000 in
theorem gX5_stuck_X5_agreeing : GoodIn wsX5_stuck (wsV RX5 193 RX5 yX5_agreeing wsX5_agreeing) := goodIn_app (goodIn_of _ (by decide +kernel)) ggX5_stuck_X5_agreeing
theorem dX5_stuck_0 : decode cX5_stuck 0 = .ok (.aload_n 0, 1) := by decide +kernel
theorem dX5_stuck_1 : decode cX5_stuck 1 = .ok (.iconst 0, 1) := by decide +kernel
theorem dX5_stuck_2 : decode cX5_stuck 2 = .ok (.putfield 1, 3) := by decide +kernel
theorem dX5_stuck_5 : decode cX5_stuck 5 = .ok (.aload_n 0, 1) := by decide +kernel
theorem dX5_stuck_6 : decode cX5_stuck 6 = .ok (.iload_n 1, 1) := by decide +kernel
theorem dX5_stuck_7 : decode cX5_stuck 7 = .ok (.invokevirtual 116, 3) := by decide +kernel
theorem dX5_stuck_10 : decode cX5_stuck 10 = .ok (.ifCond .ne 5, 3) := by decide +kernel
theorem dX5_stuck_13 : decode cX5_stuck 13 = .ok (.iconst (-1), 1) := by decide +kernel
theorem dX5_stuck_14 : decode cX5_stuck 14 = .ok (.ireturn, 1) := by decide +kernel
theorem dX5_stuck_15 : decode cX5_stuck 15 = .ok (.aload_n 0, 1) := by decide +kernel
theorem dX5_stuck_16 : decode cX5_stuck 16 = .ok (.invokevirtual 193, 3) := by decide +kernel
theorem dX5_stuck_19 : decode cX5_stuck 19 = .ok (.istore_n 2, 1) := by decide +kernel
theorem dX5_stuck_20 : decode cX5_stuck 20 = .ok (.iload_n 2, 1) := by decide +kernel
theorem dX5_stuck_21 : decode cX5_stuck 21 = .ok (.ifCond .ne 7, 3) := by decide +kernel
theorem dX5_stuck_24 : decode cX5_stuck 24 = .ok (.iconst 2, 1) := by decide +kernel
theorem dX5_stuck_25 : decode cX5_stuck 25 = .ok (.goto 31, 3) := by decide +kernel
theorem dX5_stuck_28 : decode cX5_stuck 28 = .ok (.aload_n 0, 1) := by decide +kernel
theorem dX5_stuck_29 : decode cX5_stuck 29 = .ok (.getfield 88, 3) := by decide +kernel
theorem dX5_stuck_32 : decode cX5_stuck 32 = .ok (.iload_n 1, 1) := by decide +kernel
theorem dX5_stuck_33 : decode cX5_stuck 33 = .ok (.iaload, 1) := by decide +kernel
theorem dX5_stuck_34 : decode cX5_stuck 34 = .ok (.iload_n 2, 1) := by decide +kernel
theorem dX5_stuck_35 : decode cX5_stuck 35 = .ok (.if_icmp .ne 7, 3) := by decide +kernel
theorem dX5_stuck_38 : decode cX5_stuck 38 = .ok (.iconst 1, 1) := by decide +kernel
theorem dX5_stuck_39 : decode cX5_stuck 39 = .ok (.goto 17, 3) := by decide +kernel
theorem dX5_stuck_42 : decode cX5_stuck 42 = .ok (.aload_n 0, 1) := by decide +kernel
theorem dX5_stuck_43 : decode cX5_stuck 43 = .ok (.getfield 88, 3) := by decide +kernel
theorem dX5_stuck_46 : decode cX5_stuck 46 = .ok (.iload_n 1, 1) := by decide +kernel
theorem dX5_stuck_47 : decode cX5_stuck 47 = .ok (.iaload, 1) := by decide +kernel
theorem dX5_stuck_48 : decode cX5_stuck 48 = .ok (.ifCond .ne 7, 3) := by decide +kernel
theorem dX5_stuck_51 : decode cX5_stuck 51 = .ok (.iconst 0, 1) := by decide +kernel
theorem dX5_stuck_52 : decode cX5_stuck 52 = .ok (.goto 4, 3) := by decide +kernel
theorem dX5_stuck_55 : decode cX5_stuck 55 = .ok (.iconst 2, 1) := by decide +kernel
theorem dX5_stuck_56 : decode cX5_stuck 56 = .ok (.ireturn, 1) := by decide +kernel
set_option maxRecDepth 20000 in
theorem ggX5_unsure_X5_agreeing : GoodIn wsX5_unsure wsX5_agreeing := goodIn_r _ [8, 3, 2, 9, 10, 11, 7, 12, 13, 14, 15, 16, 17, 18, 19, 20, 21, 22, 23, 24, 25, 26, 27, 28, 29, 30, 31, 32, 33, 34, 35, 36, 37, 38, 39, 40, 41, 42, 43, 44, 45, 46, 47, 48, 49, 50, 51, 52] rfl (by decide +kernel)
set_option maxRecDepth 20000 in
theorem gX5_unsure_X5_agreeing : GoodIn wsX5_unsure (wsV RX5 193 RX5 yX5_agreeing wsX5_agreeing) := goodIn_app (goodIn_of _ (by decide +kernel)) ggX5_unsure_X5_agreeing
theorem dX5_unsure_0 : decode cX5_unsure 0 = .ok (.aload_n 0, 1) := by decide +kernel
theorem dX5_unsure_1 : decode cX5_unsure 1 = .ok (.iconst 0, 1) := by decide +kernel
theorem dX5_unsure_2 : decode cX5_unsure 2 = .ok (.putfield 1, 3) := by decide +kernel
theorem dX5_unsure_5 : decode cX5_unsure 5 = .ok (.aload_n 0, 1) := by decide +kernel
theorem dX5_unsure_6 : decode cX5_unsure 6 = .ok (.invokevirtual 193, 3) := by decide +kernel
theorem dX5_unsure_9 : decode cX5_unsure 9 = .ok (.istore_n 1, 1) := by decide +kernel
theorem dX5_unsure_10 : decode cX5_unsure 10 = .ok (.iconst 0, 1) := by decide +kernel
theorem dX5_unsure_11 : decode cX5_unsure 11 = .ok (.istore_n 2, 1) := by decide +kernel
theorem dX5_unsure_12 : decode cX5_unsure 12 = .ok (.iconst 0, 1) := by decide +kernel
theorem dX5_unsure_13 : decode cX5_unsure 13 = .ok (.istore_n 3, 1) := by decide +kernel
theorem dX5_unsure_14 : decode cX5_unsure 14 = .ok (.iload_n 3, 1) := by decide +kernel
theorem dX5_unsure_15 : decode cX5_unsure 15 = .ok (.aload_n 0, 1) := by decide +kernel
theorem dX5_unsure_16 : decode cX5_unsure 16 = .ok (.getfield 91, 3) := by decide +kernel
theorem dX5_unsure_19 : decode cX5_unsure 19 = .ok (.if_icmp .ge 40, 3) := by decide +kernel
theorem dX5_unsure_22 : decode cX5_unsure 22 = .ok (.iload_n 2, 1) := by decide +kernel
theorem dX5_unsure_23 : decode cX5_unsure 23 = .ok (.iload_n 1, 1) := by decide +kernel
theorem dX5_unsure_24 : decode cX5_unsure 24 = .ok (.ifCond .eq 22, 3) := by decide +kernel
theorem dX5_unsure_27 : decode cX5_unsure 27 = .ok (.aload_n 0, 1) := by decide +kernel
theorem dX5_unsure_28 : decode cX5_unsure 28 = .ok (.getfield 88, 3) := by decide +kernel
theorem dX5_unsure_31 : decode cX5_unsure 31 = .ok (.iload_n 3, 1) := by decide +kernel
theorem dX5_unsure_32 : decode cX5_unsure 32 = .ok (.iaload, 1) := by decide +kernel
theorem dX5_unsure_33 : decode cX5_unsure 33 = .ok (.ifCond .le 17, 3) := by decide +kernel
theorem dX5_unsure_36 : decode cX5_unsure 36 = .ok (.aload_n 0, 1) := by decide +kernel
theorem dX5_unsure_37 : decode cX5_unsure 37 = .ok (.getfield 88, 3) := by decide +kernel
theorem dX5_unsure_40 : decode cX5_unsure 40 = .ok (.iload_n 3, 1) := by decide +kernel
theorem dX5_unsure_41 : decode cX5_unsure 41 = .ok (.iaload, 1) := by decide +kernel
theorem dX5_unsure_42 : decode cX5_unsure 42 = .ok (.iload_n 1, 1) := by decide +kernel
theorem dX5_unsure_43 : decode cX5_unsure 43 = .ok (.if_icmp .ge 7, 3) := by decide +kernel
theorem dX5_unsure_46 : decode cX5_unsure 46 = .ok (.iconst 1, 1) := by decide +kernel
theorem dX5_unsure_47 : decode cX5_unsure 47 = .ok (.goto 4, 3) := by decide +kernel
theorem dX5_unsure_50 : decode cX5_unsure 50 = .ok (.iconst 0, 1) := by decide +kernel
theorem dX5_unsure_51 : decode cX5_unsure 51 = .ok (.iadd, 1) := by decide +kernel
theorem dX5_unsure_52 : decode cX5_unsure 52 = .ok (.istore_n 2, 1) := by decide +kernel
theorem dX5_unsure_53 : decode cX5_unsure 53 = .ok (.iinc 3 1, 3) := by decide +kernel
theorem dX5_unsure_56 : decode cX5_unsure 56 = .ok (.goto (-42), 3) := by decide +kernel
theorem dX5_unsure_59 : decode cX5_unsure 59 = .ok (.iload_n 2, 1) := by decide +kernel
theorem dX5_unsure_60 : decode cX5_unsure 60 = .ok (.ireturn, 1) := by decide +kernel
theorem dX5_count_0 : decode cX5_count 0 = .ok (.aload_n 0, 1) := by decide +kernel
theorem dX5_count_1 : decode cX5_count 1 = .ok (.iconst 0, 1) := by decide +kernel
theorem dX5_count_2 : decode cX5_count 2 = .ok (.putfield 1, 3) := by decide +kernel
theorem dX5_count_5 : decode cX5_count 5 = .ok (.iload_n 1, 1) := by decide +kernel
theorem dX5_count_6 : decode cX5_count 6 = .ok (.tableswitch 100 0 5 #[38, 43, 48, 53, 66, 71], 38) := by decide +kernel
theorem dX5_count_44 : decode cX5_count 44 = .ok (.aload_n 0, 1) := by decide +kernel
theorem dX5_count_45 : decode cX5_count 45 = .ok (.getfield 91, 3) := by decide +kernel
theorem dX5_count_48 : decode cX5_count 48 = .ok (.ireturn, 1) := by decide +kernel
theorem dX5_count_49 : decode cX5_count 49 = .ok (.aload_n 0, 1) := by decide +kernel
theorem dX5_count_50 : decode cX5_count 50 = .ok (.getfield 154, 3) := by decide +kernel
theorem dX5_count_53 : decode cX5_count 53 = .ok (.ireturn, 1) := by decide +kernel
theorem dX5_count_54 : decode cX5_count 54 = .ok (.aload_n 0, 1) := by decide +kernel
theorem dX5_count_55 : decode cX5_count 55 = .ok (.getfield 168, 3) := by decide +kernel
theorem dX5_count_58 : decode cX5_count 58 = .ok (.ireturn, 1) := by decide +kernel
theorem dX5_count_59 : decode cX5_count 59 = .ok (.aload_n 0, 1) := by decide +kernel
theorem dX5_count_60 : decode cX5_count 60 = .ok (.getfield 171, 3) := by decide +kernel
theorem dX5_count_63 : decode cX5_count 63 = .ok (.ifCond .eq 7, 3) := by decide +kernel
theorem dX5_count_66 : decode cX5_count 66 = .ok (.iconst 1, 1) := by decide +kernel
theorem dX5_count_67 : decode cX5_count 67 = .ok (.goto 4, 3) := by decide +kernel
theorem dX5_count_70 : decode cX5_count 70 = .ok (.iconst 0, 1) := by decide +kernel
theorem dX5_count_71 : decode cX5_count 71 = .ok (.ireturn, 1) := by decide +kernel
theorem dX5_count_72 : decode cX5_count 72 = .ok (.aload_n 0, 1) := by decide +kernel
theorem dX5_count_73 : decode cX5_count 73 = .ok (.getfield 186, 3) := by decide +kernel
theorem dX5_count_76 : decode cX5_count 76 = .ok (.ireturn, 1) := by decide +kernel
theorem dX5_count_77 : decode cX5_count 77 = .ok (.iconst 0, 1) := by decide +kernel
theorem dX5_count_78 : decode cX5_count 78 = .ok (.istore_n 2, 1) := by decide +kernel
theorem dX5_count_79 : decode cX5_count 79 = .ok (.iconst 0, 1) := by decide +kernel
theorem dX5_count_80 : decode cX5_count 80 = .ok (.istore_n 3, 1) := by decide +kernel
end
section
theorem dX5_count_81 : decode cX5_count 81 = .ok (.iload_n 3, 1) := by decide +kernel
theorem dX5_count_82 : decode cX5_count 82 = .ok (.aload_n 0, 1) := by decide +kernel
theorem dX5_count_83 : decode cX5_count 83 = .ok (.getfield 91, 3) := by decide +kernel
theorem dX5_count_86 : decode cX5_count 86 = .ok (.if_icmp .ge 18, 3) := by decide +kernel
theorem dX5_count_89 : decode cX5_count 89 = .ok (.iload_n 2, 1) := by decide +kernel
theorem dX5_count_90 : decode cX5_count 90 = .ok (.aload_n 0, 1) := by decide +kernel
theorem dX5_count_91 : decode cX5_count 91 = .ok (.getfield 26, 3) := by decide +kernel
theorem dX5_count_94 : decode cX5_count 94 = .ok (.iload_n 3, 1) := by decide +kernel
theorem dX5_count_95 : decode cX5_count 95 = .ok (.iaload, 1) := by decide +kernel
theorem dX5_count_96 : decode cX5_count 96 = .ok (.iadd, 1) := by decide +kernel
theorem dX5_count_97 : decode cX5_count 97 = .ok (.istore_n 2, 1) := by decide +kernel
theorem dX5_count_98 : decode cX5_count 98 = .ok (.iinc 3 1, 3) := by decide +kernel
theorem dX5_count_101 : decode cX5_count 101 = .ok (.goto (-20), 3) := by decide +kernel
theorem dX5_count_104 : decode cX5_count 104 = .ok (.iload_n 2, 1) := by decide +kernel
theorem dX5_count_105 : decode cX5_count 105 = .ok (.ireturn, 1) := by decide +kernel
theorem dX5_count_106 : decode cX5_count 106 = .ok (.iconst (-1), 1) := by decide +kernel
theorem dX5_count_107 : decode cX5_count 107 = .ok (.ireturn, 1) := by decide +kernel
theorem dX5_trouble_0 : decode cX5_trouble 0 = .ok (.aload_n 0, 1) := by decide +kernel
theorem dX5_trouble_1 : decode cX5_trouble 1 = .ok (.iconst 0, 1) := by decide +kernel
theorem dX5_trouble_2 : decode cX5_trouble 2 = .ok (.putfield 1, 3) := by decide +kernel
theorem dX5_trouble_5 : decode cX5_trouble 5 = .ok (.aload_n 0, 1) := by decide +kernel
theorem dX5_trouble_6 : decode cX5_trouble 6 = .ok (.getfield 7, 3) := by decide +kernel
theorem dX5_trouble_9 : decode cX5_trouble 9 = .ok (.ireturn, 1) := by decide +kernel
theorem dJ13_bitCount_95d88_0 : decode cJ13_bitCount_95d88 0 = .ok (.lload_n 0, 1) := by decide +kernel
theorem dJ13_bitCount_95d88_1 : decode cJ13_bitCount_95d88 1 = .ok (.lload_n 0, 1) := by decide +kernel
theorem dJ13_bitCount_95d88_2 : decode cJ13_bitCount_95d88 2 = .ok (.iconst 1, 1) := by decide +kernel
theorem dJ13_bitCount_95d88_3 : decode cJ13_bitCount_95d88 3 = .ok (.lushr, 1) := by decide +kernel
theorem dJ13_bitCount_95d88_4 : decode cJ13_bitCount_95d88 4 = .ok (.ldc2_w 314, 3) := by decide +kernel
theorem dJ13_bitCount_95d88_7 : decode cJ13_bitCount_95d88 7 = .ok (.land, 1) := by decide +kernel
theorem dJ13_bitCount_95d88_8 : decode cJ13_bitCount_95d88 8 = .ok (.lsub, 1) := by decide +kernel
theorem dJ13_bitCount_95d88_9 : decode cJ13_bitCount_95d88 9 = .ok (.lstore_n 0, 1) := by decide +kernel
theorem dJ13_bitCount_95d88_10 : decode cJ13_bitCount_95d88 10 = .ok (.lload_n 0, 1) := by decide +kernel
theorem dJ13_bitCount_95d88_11 : decode cJ13_bitCount_95d88 11 = .ok (.ldc2_w 316, 3) := by decide +kernel
theorem dJ13_bitCount_95d88_14 : decode cJ13_bitCount_95d88 14 = .ok (.land, 1) := by decide +kernel
theorem dJ13_bitCount_95d88_15 : decode cJ13_bitCount_95d88 15 = .ok (.lload_n 0, 1) := by decide +kernel
theorem dJ13_bitCount_95d88_16 : decode cJ13_bitCount_95d88 16 = .ok (.iconst 2, 1) := by decide +kernel
theorem dJ13_bitCount_95d88_17 : decode cJ13_bitCount_95d88 17 = .ok (.lushr, 1) := by decide +kernel
theorem dJ13_bitCount_95d88_18 : decode cJ13_bitCount_95d88 18 = .ok (.ldc2_w 316, 3) := by decide +kernel
theorem dJ13_bitCount_95d88_21 : decode cJ13_bitCount_95d88 21 = .ok (.land, 1) := by decide +kernel
theorem dJ13_bitCount_95d88_22 : decode cJ13_bitCount_95d88 22 = .ok (.ladd, 1) := by decide +kernel
theorem dJ13_bitCount_95d88_23 : decode cJ13_bitCount_95d88 23 = .ok (.lstore_n 0, 1) := by decide +kernel
theorem dJ13_bitCount_95d88_24 : decode cJ13_bitCount_95d88 24 = .ok (.lload_n 0, 1) := by decide +kernel
theorem dJ13_bitCount_95d88_25 : decode cJ13_bitCount_95d88 25 = .ok (.lload_n 0, 1) := by decide +kernel
theorem dJ13_bitCount_95d88_26 : decode cJ13_bitCount_95d88 26 = .ok (.iconst 4, 1) := by decide +kernel
theorem dJ13_bitCount_95d88_27 : decode cJ13_bitCount_95d88 27 = .ok (.lushr, 1) := by decide +kernel
theorem dJ13_bitCount_95d88_28 : decode cJ13_bitCount_95d88 28 = .ok (.ladd, 1) := by decide +kernel
theorem dJ13_bitCount_95d88_29 : decode cJ13_bitCount_95d88 29 = .ok (.ldc2_w 318, 3) := by decide +kernel
theorem dJ13_bitCount_95d88_32 : decode cJ13_bitCount_95d88 32 = .ok (.land, 1) := by decide +kernel
theorem dJ13_bitCount_95d88_33 : decode cJ13_bitCount_95d88 33 = .ok (.lstore_n 0, 1) := by decide +kernel
theorem dJ13_bitCount_95d88_34 : decode cJ13_bitCount_95d88 34 = .ok (.lload_n 0, 1) := by decide +kernel
theorem dJ13_bitCount_95d88_35 : decode cJ13_bitCount_95d88 35 = .ok (.lload_n 0, 1) := by decide +kernel
theorem dJ13_bitCount_95d88_36 : decode cJ13_bitCount_95d88 36 = .ok (.bipush 8, 2) := by decide +kernel
theorem dJ13_bitCount_95d88_38 : decode cJ13_bitCount_95d88 38 = .ok (.lushr, 1) := by decide +kernel
theorem dJ13_bitCount_95d88_39 : decode cJ13_bitCount_95d88 39 = .ok (.ladd, 1) := by decide +kernel
theorem dJ13_bitCount_95d88_40 : decode cJ13_bitCount_95d88 40 = .ok (.lstore_n 0, 1) := by decide +kernel
theorem dJ13_bitCount_95d88_41 : decode cJ13_bitCount_95d88 41 = .ok (.lload_n 0, 1) := by decide +kernel
theorem dJ13_bitCount_95d88_42 : decode cJ13_bitCount_95d88 42 = .ok (.lload_n 0, 1) := by decide +kernel
theorem dJ13_bitCount_95d88_43 : decode cJ13_bitCount_95d88 43 = .ok (.bipush 16, 2) := by decide +kernel
theorem dJ13_bitCount_95d88_45 : decode cJ13_bitCount_95d88 45 = .ok (.lushr, 1) := by decide +kernel
theorem dJ13_bitCount_95d88_46 : decode cJ13_bitCount_95d88 46 = .ok (.ladd, 1) := by decide +kernel
theorem dJ13_bitCount_95d88_47 : decode cJ13_bitCount_95d88 47 = .ok (.lstore_n 0, 1) := by decide +kernel
theorem dJ13_bitCount_95d88_48 : decode cJ13_bitCount_95d88 48 = .ok (.lload_n 0, 1) := by decide +kernel
theorem dJ13_bitCount_95d88_49 : decode cJ13_bitCount_95d88 49 = .ok (.lload_n 0, 1) := by decide +kernel
theorem dJ13_bitCount_95d88_50 : decode cJ13_bitCount_95d88 50 = .ok (.bipush 32, 2) := by decide +kernel
theorem dJ13_bitCount_95d88_52 : decode cJ13_bitCount_95d88 52 = .ok (.lushr, 1) := by decide +kernel
theorem dJ13_bitCount_95d88_53 : decode cJ13_bitCount_95d88 53 = .ok (.ladd, 1) := by decide +kernel
theorem dJ13_bitCount_95d88_54 : decode cJ13_bitCount_95d88 54 = .ok (.lstore_n 0, 1) := by decide +kernel
theorem dJ13_bitCount_95d88_55 : decode cJ13_bitCount_95d88 55 = .ok (.lload_n 0, 1) := by decide +kernel
theorem dJ13_bitCount_95d88_56 : decode cJ13_bitCount_95d88 56 = .ok (.l2i, 1) := by decide +kernel
theorem dJ13_bitCount_95d88_57 : decode cJ13_bitCount_95d88 57 = .ok (.bipush 127, 2) := by decide +kernel
theorem dJ13_bitCount_95d88_59 : decode cJ13_bitCount_95d88 59 = .ok (.iand, 1) := by decide +kernel
theorem dJ13_bitCount_95d88_60 : decode cJ13_bitCount_95d88 60 = .ok (.ireturn, 1) := by decide +kernel
theorem dJ9_max_7cf53_0 : decode cJ9_max_7cf53 0 = .ok (.iload_n 0, 1) := by decide +kernel
theorem dJ9_max_7cf53_1 : decode cJ9_max_7cf53 1 = .ok (.iload_n 1, 1) := by decide +kernel
theorem dJ9_max_7cf53_2 : decode cJ9_max_7cf53 2 = .ok (.if_icmp .lt 7, 3) := by decide +kernel
theorem dJ9_max_7cf53_5 : decode cJ9_max_7cf53 5 = .ok (.iload_n 0, 1) := by decide +kernel
theorem dJ9_max_7cf53_6 : decode cJ9_max_7cf53 6 = .ok (.goto 4, 3) := by decide +kernel
theorem dJ9_max_7cf53_9 : decode cJ9_max_7cf53 9 = .ok (.iload_n 1, 1) := by decide +kernel
theorem dJ9_max_7cf53_10 : decode cJ9_max_7cf53 10 = .ok (.ireturn, 1) := by decide +kernel
theorem dJ9_min_7cf53_0 : decode cJ9_min_7cf53 0 = .ok (.iload_n 0, 1) := by decide +kernel
theorem dJ9_min_7cf53_1 : decode cJ9_min_7cf53 1 = .ok (.iload_n 1, 1) := by decide +kernel
theorem dJ9_min_7cf53_2 : decode cJ9_min_7cf53 2 = .ok (.if_icmp .gt 7, 3) := by decide +kernel
theorem dJ9_min_7cf53_5 : decode cJ9_min_7cf53 5 = .ok (.iload_n 0, 1) := by decide +kernel
theorem dJ9_min_7cf53_6 : decode cJ9_min_7cf53 6 = .ok (.goto 4, 3) := by decide +kernel
theorem dJ9_min_7cf53_9 : decode cJ9_min_7cf53 9 = .ok (.iload_n 1, 1) := by decide +kernel
theorem dJ9_min_7cf53_10 : decode cJ9_min_7cf53 10 = .ok (.ireturn, 1) := by decide +kernel
theorem dJ7_fill_53178_0 : decode cJ7_fill_53178 0 = .ok (.iconst 0, 1) := by decide +kernel
theorem dJ7_fill_53178_1 : decode cJ7_fill_53178 1 = .ok (.istore_n 2, 1) := by decide +kernel
theorem dJ7_fill_53178_2 : decode cJ7_fill_53178 2 = .ok (.aload_n 0, 1) := by decide +kernel
theorem dJ7_fill_53178_3 : decode cJ7_fill_53178 3 = .ok (.arraylength, 1) := by decide +kernel
theorem dJ7_fill_53178_4 : decode cJ7_fill_53178 4 = .ok (.istore_n 3, 1) := by decide +kernel
theorem dJ7_fill_53178_5 : decode cJ7_fill_53178 5 = .ok (.iload_n 2, 1) := by decide +kernel
theorem dJ7_fill_53178_6 : decode cJ7_fill_53178 6 = .ok (.iload_n 3, 1) := by decide +kernel
theorem dJ7_fill_53178_7 : decode cJ7_fill_53178 7 = .ok (.if_icmp .ge 13, 3) := by decide +kernel
theorem dJ7_fill_53178_10 : decode cJ7_fill_53178 10 = .ok (.aload_n 0, 1) := by decide +kernel
theorem dJ7_fill_53178_11 : decode cJ7_fill_53178 11 = .ok (.iload_n 2, 1) := by decide +kernel
theorem dJ7_fill_53178_12 : decode cJ7_fill_53178 12 = .ok (.iload_n 1, 1) := by decide +kernel
theorem dJ7_fill_53178_13 : decode cJ7_fill_53178 13 = .ok (.iastore, 1) := by decide +kernel
theorem dJ7_fill_53178_14 : decode cJ7_fill_53178 14 = .ok (.iinc 2 1, 3) := by decide +kernel
theorem dJ7_fill_53178_17 : decode cJ7_fill_53178 17 = .ok (.goto (-12), 3) := by decide +kernel
theorem dJ7_fill_53178_20 : decode cJ7_fill_53178 20 = .ok (.return_, 1) := by decide +kernel
set_option maxRecDepth 20000 in
theorem ggL_law_X4_init : GoodIn wsL_law wsX4_init := goodIn_r _ [8, 9, 10, 11, 12, 13, 14, 15, 16, 17, 18, 19, 20, 21, 22, 23, 24, 25, 26, 27, 28, 29, 30, 31, 32, 33, 34, 35, 36, 37, 38, 39, 40, 41, 42, 43, 44, 45, 46, 47, 48, 49, 50, 51, 52, 53, 54, 55, 56, 57, 58, 59, 60, 61, 62, 63, 64, 65, 66, 67, 68, 69, 70, 71, 72, 73, 74, 75, 76, 77, 78, 79, 80, 81, 82, 726, 727, 728, 729, 730, 731, 732, 733, 734, 735, 736, 688, 689, 690, 691, 692, 737, 738, 739, 740, 741, 742, 743, 744, 745, 746, 747, 748, 749, 750, 751, 752, 753, 754, 755, 756, 757, 758, 759, 760, 761, 762, 763, 764, 765, 766] rfl (by decide +kernel)
set_option maxRecDepth 20000 in
theorem gL_law_X4_init : GoodIn wsL_law (wsX4_init) := ggL_law_X4_init
set_option maxRecDepth 20000 in
theorem ggL_law_X5_init : GoodIn wsL_law wsX5_init := goodIn_r _ [85, 86, 10, 11, 87, 33, 88, 89, 90, 91, 92, 93, 94, 95, 96, 97, 98, 99, 100, 101, 102, 103, 104, 57, 105, 106, 107, 108, 109, 110, 111, 693, 694, 695, 696, 697, 698, 699, 700, 701, 702, 703, 704, 705, 706, 707, 708, 709, 710, 711, 712, 713, 714, 715, 716, 717, 718, 719, 720, 721, 722, 723, 724, 725] rfl (by decide +kernel)
set_option maxRecDepth 20000 in
theorem gL_law_X5_init : GoodIn wsL_law (wsX5_init) := ggL_law_X5_init
set_option maxRecDepth 20000 in
theorem ggL_law_X4_mirror : GoodIn wsL_law wsX4_mirror := goodIn_r _ [115, 15, 116, 117, 2, 118, 119, 120, 121, 122, 28, 123, 124, 125, 14, 126, 34, 127, 128, 129, 130, 131, 132, 133, 134, 135, 35, 36, 37, 136, 137, 138, 139, 140, 141, 142, 143, 688, 689, 690, 691, 692, 726, 727, 728, 729, 730, 731, 732, 733, 734, 735, 736] rfl (by decide +kernel)
set_option maxRecDepth 20000 in
theorem gL_law_X4_mirror : GoodIn wsL_law (wsV RL 13 RX4 yX4_mirror wsX4_mirror) := goodIn_app (goodIn_of _ (by decide +kernel)) ggL_law_X4_mirror
set_option maxRecDepth 20000 in
theorem ggL_law_X5_mirror : GoodIn wsL_law wsX5_mirror := goodIn_r _ [147, 148, 149, 88, 89, 150, 151, 5, 152, 153, 154, 155, 156, 157, 158, 159, 160, 161, 693, 694, 695, 696, 697, 698, 699, 700, 701, 702, 703, 704, 705, 706, 707, 708, 709, 710, 711, 712, 713, 714, 715, 716, 717, 718, 719, 720, 721, 722, 723, 724, 725] rfl (by decide +kernel)
set_option maxRecDepth 20000 in
theorem gL_law_X5_mirror : GoodIn wsL_law (wsV RL 17 RX5 yX5_mirror wsX5_mirror) := goodIn_app (goodIn_of _ (by decide +kernel)) ggL_law_X5_mirror
set_option maxRecDepth 20000 in
theorem ggL_law_X4_sun : GoodIn wsL_law wsX4_sun := goodIn_r _ [165, 15, 116, 117, 2, 118, 166, 167, 168, 169, 170, 171, 172, 28, 173, 174, 175, 14, 176, 39, 40, 41, 177, 178, 179, 180, 688, 689, 690, 691, 692, 726, 727, 728, 729, 730, 731, 732, 733, 734, 735, 736] rfl (by decide +kernel)
set_option maxRecDepth 20000 in
theorem gL_law_X4_sun : GoodIn wsL_law (wsV RL 18 RX4 yX4_sun wsX4_sun) := goodIn_app (goodIn_of _ (by decide +kernel)) ggL_law_X4_sun
set_option maxRecDepth 20000 in
theorem ggL_law_X5_sun : GoodIn wsL_law wsX5_sun := goodIn_r _ [184, 148, 92, 93, 94, 185, 186, 5, 187, 150, 151, 152, 188, 189, 190, 191, 157, 192, 193, 194, 195, 693, 694, 695, 696, 697, 698, 699, 700, 701, 702, 703, 704, 705, 706, 707, 708, 709, 710, 711, 712, 713, 714, 715, 716, 717, 718, 719, 720, 721, 722, 723, 724, 725] rfl (by decide +kernel)
set_option maxRecDepth 20000 in
theorem gL_law_X5_sun : GoodIn wsL_law (wsV RL 22 RX5 yX5_sun wsX5_sun) := goodIn_app (goodIn_of _ (by decide +kernel)) ggL_law_X5_sun
set_option maxRecDepth 20000 in
theorem ggL_law_X4_limit : GoodIn wsL_law wsX4_limit := goodIn_r _ [199, 19, 200, 201, 2, 202, 116, 117, 118, 169, 170, 171, 172, 28, 203, 204, 205, 18, 206, 49, 177, 178, 179, 180, 688, 689, 690, 691, 692, 737, 738, 739, 740, 741, 742, 743, 744, 745, 746, 747] rfl (by decide +kernel)
set_option maxRecDepth 20000 in
theorem gL_law_X4_limit : GoodIn wsL_law (wsV RL 23 RX4 yX4_limit wsX4_limit) := goodIn_app (goodIn_of _ (by decide +kernel)) ggL_law_X4_limit
set_option maxRecDepth 20000 in
theorem ggL_law_X5_limit : GoodIn wsL_law wsX5_limit := goodIn_r _ [210, 148, 91, 150, 151, 5, 152, 188, 189, 190, 191, 157, 192, 193, 194, 195, 693, 694, 695, 696, 697, 698, 699, 700, 701, 702, 703, 704, 705, 706, 707, 708, 709, 710, 711, 712, 713, 714, 715, 716, 717, 718, 719, 720, 721, 722, 723, 724, 725] rfl (by decide +kernel)
set_option maxRecDepth 20000 in
theorem gL_law_X5_limit : GoodIn wsL_law (wsV RL 27 RX5 yX5_limit wsX5_limit) := goodIn_app (goodIn_of _ (by decide +kernel)) ggL_law_X5_limit
set_option maxRecDepth 20000 in
theorem ggL_law_X4_wind : GoodIn wsL_law wsX4_wind := goodIn_r _ [214, 15, 166, 167, 2, 168, 116, 117, 118, 169, 170, 171, 172, 28, 215, 216, 217, 14, 218, 42, 177, 178, 179, 180, 688, 689, 690, 691, 692, 726, 727, 728, 729, 730, 731, 732, 733, 734, 735, 736] rfl (by decide +kernel)
set_option maxRecDepth 20000 in
theorem gL_law_X4_wind : GoodIn wsL_law (wsV RL 28 RX4 yX4_wind wsX4_wind) := goodIn_app (goodIn_of _ (by decide +kernel)) ggL_law_X4_wind
set_option maxRecDepth 20000 in
theorem ggL_law_X5_wind : GoodIn wsL_law wsX5_wind := goodIn_r _ [222, 148, 95, 185, 186, 5, 187, 150, 151, 152, 188, 189, 190, 191, 157, 192, 193, 194, 195, 693, 694, 695, 696, 697, 698, 699, 700, 701, 702, 703, 704, 705, 706, 707, 708, 709, 710, 711, 712, 713, 714, 715, 716, 717, 718, 719, 720, 721, 722, 723, 724, 725] rfl (by decide +kernel)
set_option maxRecDepth 20000 in
theorem gL_law_X5_wind : GoodIn wsL_law (wsV RL 31 RX5 yX5_wind wsX5_wind) := goodIn_app (goodIn_of _ (by decide +kernel)) ggL_law_X5_wind
set_option maxRecDepth 20000 in
theorem ggL_law_X4_price : GoodIn wsL_law wsX4_price := goodIn_r _ [226, 23, 166, 167, 2, 168, 116, 117, 118, 169, 170, 171, 172, 28, 227, 228, 229, 22, 230, 69, 177, 178, 179, 180, 688, 689, 690, 691, 692, 748, 749, 750, 751, 752, 753, 754, 755, 756, 757, 758, 759, 760, 761] rfl (by decide +kernel)
set_option maxRecDepth 20000 in
theorem gL_law_X4_price : GoodIn wsL_law (wsV RL 32 RX4 yX4_price wsX4_price) := goodIn_app (goodIn_of _ (by decide +kernel)) ggL_law_X4_price
set_option maxRecDepth 20000 in
theorem ggL_law_X5_price : GoodIn wsL_law wsX5_price := goodIn_r _ [234, 148, 96, 185, 186, 5, 187, 150, 151, 152, 188, 189, 190, 191, 157, 192, 193, 194, 195, 693, 694, 695, 696, 697, 698, 699, 700, 701, 702, 703, 704, 705, 706, 707, 708, 709, 710, 711, 712, 713, 714, 715, 716, 717, 718, 719, 720, 721, 722, 723, 724, 725] rfl (by decide +kernel)
set_option maxRecDepth 20000 in
theorem gL_law_X5_price : GoodIn wsL_law (wsV RL 35 RX5 yX5_price wsX5_price) := goodIn_app (goodIn_of _ (by decide +kernel)) ggL_law_X5_price
set_option maxRecDepth 20000 in
theorem ggL_law_X4_dust : GoodIn wsL_law wsX4_dust := goodIn_r _ [238, 15, 116, 117, 2, 118, 169, 170, 171, 172, 28, 239, 240, 241, 14, 242, 43, 177, 178, 179, 180, 688, 689, 690, 691, 692, 726, 727, 728, 729, 730, 731, 732, 733, 734, 735, 736] rfl (by decide +kernel)
set_option maxRecDepth 20000 in
theorem gL_law_X4_dust : GoodIn wsL_law (wsV RL 36 RX4 yX4_dust wsX4_dust) := goodIn_app (goodIn_of _ (by decide +kernel)) ggL_law_X4_dust
set_option maxRecDepth 20000 in
theorem ggL_law_X5_dust : GoodIn wsL_law wsX5_dust := goodIn_r _ [246, 148, 87, 150, 151, 5, 152, 188, 189, 190, 191, 157, 192, 193, 194, 195, 693, 694, 695, 696, 697, 698, 699, 700, 701, 702, 703, 704, 705, 706, 707, 708, 709, 710, 711, 712, 713, 714, 715, 716, 717, 718, 719, 720, 721, 722, 723, 724, 725] rfl (by decide +kernel)
set_option maxRecDepth 20000 in
theorem gL_law_X5_dust : GoodIn wsL_law (wsV RL 40 RX5 yX5_dust wsX5_dust) := goodIn_app (goodIn_of _ (by decide +kernel)) ggL_law_X5_dust
set_option maxRecDepth 20000 in
theorem ggL_law_X4_shaded : GoodIn wsL_law wsX4_shaded := goodIn_r _ [250, 15, 251, 252, 253, 2, 254, 127, 128, 129, 14, 130, 131, 116, 117, 118, 166, 167, 168, 255, 256, 257, 258, 37, 259, 260, 261, 262, 41, 35, 36, 39, 40, 34, 688, 689, 690, 691, 692, 726, 727, 728, 729, 730, 731, 732, 733, 734, 735, 736] rfl (by decide +kernel)
set_option maxRecDepth 20000 in
theorem gL_law_X4_shaded : GoodIn wsL_law (wsV RL 41 RX4 yX4_shaded wsX4_shaded) := goodIn_app (goodIn_of _ (by decide +kernel)) ggL_law_X4_shaded
set_option maxRecDepth 20000 in
theorem ggL_law_X5_shaded : GoodIn wsL_law wsX5_shaded := goodIn_r _ [266, 148, 267, 268, 269, 5, 270, 149, 185, 186, 187, 271, 272, 273, 274, 88, 89, 275, 276, 277, 278, 94, 92, 93, 693, 694, 695, 696, 697, 698, 699, 700, 701, 702, 703, 704, 705, 706, 707, 708, 709, 710, 711, 712, 713, 714, 715, 716, 717, 718, 719, 720, 721, 722, 723, 724, 725] rfl (by decide +kernel)
set_option maxRecDepth 20000 in
theorem gL_law_X5_shaded : GoodIn wsL_law (wsV RL 45 RX5 yX5_shaded wsX5_shaded) := goodIn_app (goodIn_of _ (by decide +kernel)) ggL_law_X5_shaded
set_option maxRecDepth 20000 in
theorem ggL_law_X4_power : GoodIn wsL_law wsX4_power := goodIn_r _ [282, 15, 251, 252, 253, 2, 254, 127, 128, 129, 14, 130, 131, 116, 117, 118, 166, 167, 168, 283, 284, 285, 286, 41, 287, 288, 289, 290, 37, 291, 292, 293, 294, 42, 295, 296, 297, 298, 38, 43, 299, 300, 301, 302, 260, 261, 262, 35, 36, 39, 40, 34, 688, 689, 690, 691, 692, 726, 727, 728, 729, 730, 731, 732, 733, 734, 735, 736] rfl (by decide +kernel)
set_option maxRecDepth 20000 in
theorem gL_law_X4_power : GoodIn wsL_law (wsV RL 46 RX4 yX4_power wsX4_power) := goodIn_app (goodIn_of _ (by decide +kernel)) ggL_law_X4_power
set_option maxRecDepth 20000 in
theorem ggL_law_X5_power : GoodIn wsL_law wsX5_power := goodIn_r _ [306, 148, 267, 268, 269, 5, 270, 149, 185, 186, 187, 307, 308, 309, 310, 94, 90, 311, 300, 289, 301, 312, 288, 290, 313, 314, 315, 316, 95, 275, 276, 277, 278, 88, 92, 89, 93, 271, 272, 273, 274, 693, 694, 695, 696, 697, 698, 699, 700, 701, 702, 703, 704, 705, 706, 707, 708, 709, 710, 711, 712, 713, 714, 715, 716, 717, 718, 719, 720, 721, 722, 723, 724, 725] rfl (by decide +kernel)
set_option maxRecDepth 20000 in
theorem gL_law_X5_power : GoodIn wsL_law (wsV RL 49 RX5 yX5_power wsX5_power) := goodIn_app (goodIn_of _ (by decide +kernel)) ggL_law_X5_power
set_option maxRecDepth 20000 in
theorem ggL_law_X4_stowed : GoodIn wsL_law wsX4_stowed := goodIn_r _ [320, 15, 166, 167, 2, 168, 116, 117, 118, 321, 292, 293, 14, 294, 42, 688, 689, 690, 691, 692, 726, 727, 728, 729, 730, 731, 732, 733, 734, 735, 736] rfl (by decide +kernel)
set_option maxRecDepth 20000 in
theorem gL_law_X4_stowed : GoodIn wsL_law (wsV RL 50 RX4 yX4_stowed wsX4_stowed) := goodIn_app (goodIn_of _ (by decide +kernel)) ggL_law_X4_stowed
set_option maxRecDepth 20000 in
theorem ggL_law_X5_stowed : GoodIn wsL_law wsX5_stowed := goodIn_r _ [325, 148, 185, 186, 5, 187, 313, 314, 315, 316, 95, 693, 694, 695, 696, 697, 698, 699, 700, 701, 702, 703, 704, 705, 706, 707, 708, 709, 710, 711, 712, 713, 714, 715, 716, 717, 718, 719, 720, 721, 722, 723, 724, 725] rfl (by decide +kernel)
set_option maxRecDepth 20000 in
theorem gL_law_X5_stowed : GoodIn wsL_law (wsV RL 54 RX5 yX5_stowed wsX5_stowed) := goodIn_app (goodIn_of _ (by decide +kernel)) ggL_law_X5_stowed
set_option maxRecDepth 20000 in
theorem ggL_law_X4_soil : GoodIn wsL_law wsX4_soil := goodIn_r _ [329, 15, 251, 252, 253, 2, 254, 127, 128, 129, 14, 130, 131, 116, 117, 118, 330, 296, 297, 298, 38, 43, 299, 300, 289, 301, 688, 689, 690, 691, 692, 726, 727, 728, 729, 730, 731, 732, 733, 734, 735, 736] rfl (by decide +kernel)
set_option maxRecDepth 20000 in
theorem gL_law_X4_soil : GoodIn wsL_law (wsV RL 55 RX4 yX4_soil wsX4_soil) := goodIn_app (goodIn_of _ (by decide +kernel)) ggL_law_X4_soil
set_option maxRecDepth 20000 in
theorem ggL_law_X5_soil : GoodIn wsL_law wsX5_soil := goodIn_r _ [334, 148, 90, 267, 268, 269, 5, 270, 149, 693, 694, 695, 696, 697, 698, 699, 700, 701, 702, 703, 704, 705, 706, 707, 708, 709, 710, 711, 712, 713, 714, 715, 716, 717, 718, 719, 720, 721, 722, 723, 724, 725] rfl (by decide +kernel)
set_option maxRecDepth 20000 in
theorem gL_law_X5_soil : GoodIn wsL_law (wsV RL 58 RX5 yX5_soil wsX5_soil) := goodIn_app (goodIn_of _ (by decide +kernel)) ggL_law_X5_soil
set_option maxRecDepth 20000 in
theorem ggL_law_X4_wash : GoodIn wsL_law wsX4_wash := goodIn_r _ [338, 15, 116, 117, 2, 118, 119, 120, 121, 122, 28, 339, 340, 341, 14, 342, 131, 299, 300, 289, 301, 38, 343, 344, 345, 346, 140, 141, 142, 143, 688, 689, 690, 691, 692, 726, 727, 728, 729, 730, 731, 732, 733, 734, 735, 736] rfl (by decide +kernel)
set_option maxRecDepth 20000 in
theorem gL_law_X4_wash : GoodIn wsL_law (wsV RL 59 RX4 yX4_wash wsX4_wash) := goodIn_app (goodIn_of _ (by decide +kernel)) ggL_law_X4_wash
set_option maxRecDepth 20000 in
theorem ggL_law_X5_wash : GoodIn wsL_law wsX5_wash := goodIn_r _ [350, 148, 149, 90, 150, 151, 5, 152, 153, 154, 155, 156, 157, 158, 159, 160, 161, 693, 694, 695, 696, 697, 698, 699, 700, 701, 702, 703, 704, 705, 706, 707, 708, 709, 710, 711, 712, 713, 714, 715, 716, 717, 718, 719, 720, 721, 722, 723, 724, 725] rfl (by decide +kernel)
set_option maxRecDepth 20000 in
theorem gL_law_X5_wash : GoodIn wsL_law (wsV RL 62 RX5 yX5_wash wsX5_wash) := goodIn_app (goodIn_of _ (by decide +kernel)) ggL_law_X5_wash
set_option maxRecDepth 20000 in
theorem ggL_law_X4_aim : GoodIn wsL_law wsX4_aim := goodIn_r _ [354, 19, 166, 167, 2, 168, 116, 117, 118, 119, 120, 121, 122, 28, 355, 356, 357, 18, 358, 48, 359, 52, 54, 360, 361, 362, 363, 55, 49, 53, 364, 365, 366, 367, 50, 51, 368, 369, 370, 371, 372, 128, 129, 14, 130, 131, 373, 284, 285, 286, 41, 287, 288, 289, 290, 37, 291, 292, 293, 294, 42, 295, 296, 297, 298, 38, 43, 299, 300, 301, 302, 260, 261, 262, 35, 36, 39, 40, 34, 374, 375, 376, 377, 378, 379, 380, 381, 140, 141, 142, 143, 688, 689, 690, 691, 692, 737, 738, 739, 740, 741, 742, 743, 744, 745, 746, 747, 726, 727, 728, 729, 730, 731, 732, 733, 734, 735, 736] rfl (by decide +kernel)
set_option maxRecDepth 20000 in
theorem gL_law_X4_aim : GoodIn wsL_law (wsV RL 63 RX4 yX4_aim wsX4_aim) := goodIn_app (goodIn_of _ (by decide +kernel)) ggL_law_X4_aim
set_option maxRecDepth 20000 in
theorem ggL_law_X5_aim : GoodIn wsL_law wsX5_aim := goodIn_r _ [385, 148, 149, 103, 100, 101, 102, 91, 99, 185, 186, 5, 187, 153, 154, 155, 156, 157, 386, 387, 388, 389, 97, 98, 390, 391, 392, 393, 307, 308, 309, 310, 94, 90, 311, 300, 289, 301, 312, 288, 290, 313, 314, 315, 316, 95, 275, 276, 277, 278, 88, 92, 89, 93, 271, 272, 273, 274, 158, 159, 160, 161, 693, 694, 695, 696, 697, 698, 699, 700, 701, 702, 703, 704, 705, 706, 707, 708, 709, 710, 711, 712, 713, 714, 715, 716, 717, 718, 719, 720, 721, 722, 723, 724, 725] rfl (by decide +kernel)
set_option maxRecDepth 20000 in
theorem gL_law_X5_aim : GoodIn wsL_law (wsV RL 66 RX5 yX5_aim wsX5_aim) := goodIn_app (goodIn_of _ (by decide +kernel)) ggL_law_X5_aim
set_option maxRecDepth 20000 in
theorem ggL_law_X4_aimed : GoodIn wsL_law wsX4_aimed := goodIn_r _ [397, 19, 251, 252, 253, 2, 254, 15, 127, 128, 129, 14, 130, 131, 116, 117, 118, 398, 399, 400, 18, 401, 359, 54, 688, 689, 690, 691, 692, 726, 727, 728, 729, 730, 731, 732, 733, 734, 735, 736, 737, 738, 739, 740, 741, 742, 743, 744, 745, 746, 747] rfl (by decide +kernel)
set_option maxRecDepth 20000 in
theorem gL_law_X4_aimed : GoodIn wsL_law (wsV RL 67 RX4 yX4_aimed wsX4_aimed) := goodIn_app (goodIn_of _ (by decide +kernel)) ggL_law_X4_aimed
set_option maxRecDepth 20000 in
theorem ggL_law_X5_aimed : GoodIn wsL_law wsX5_aimed := goodIn_r _ [405, 148, 103, 100, 693, 694, 695, 696, 697, 698, 699, 700, 701, 702, 703, 704, 705, 706, 707, 708, 709, 710, 711, 712, 713, 714, 715, 716, 717, 718, 719, 720, 721, 722, 723, 724, 725] rfl (by decide +kernel)
set_option maxRecDepth 20000 in
theorem gL_law_X5_aimed : GoodIn wsL_law (wsV RL 70 RX5 yX5_aimed wsX5_aimed) := goodIn_app (goodIn_of _ (by decide +kernel)) ggL_law_X5_aimed
set_option maxRecDepth 20000 in
theorem ggL_law_X4_face : GoodIn wsL_law wsX4_face := goodIn_r _ [409, 19, 200, 201, 2, 202, 116, 117, 118, 410, 411, 412, 18, 413, 55, 688, 689, 690, 691, 692, 737, 738, 739, 740, 741, 742, 743, 744, 745, 746, 747] rfl (by decide +kernel)
set_option maxRecDepth 20000 in
theorem gL_law_X4_face : GoodIn wsL_law (wsV RL 71 RX4 yX4_face wsX4_face) := goodIn_app (goodIn_of _ (by decide +kernel)) ggL_law_X4_face
set_option maxRecDepth 20000 in
theorem ggL_law_X5_face : GoodIn wsL_law wsX5_face := goodIn_r _ [417, 148, 102, 150, 151, 5, 152, 693, 694, 695, 696, 697, 698, 699, 700, 701, 702, 703, 704, 705, 706, 707, 708, 709, 710, 711, 712, 713, 714, 715, 716, 717, 718, 719, 720, 721, 722, 723, 724, 725] rfl (by decide +kernel)
set_option maxRecDepth 20000 in
theorem gL_law_X5_face : GoodIn wsL_law (wsV RL 74 RX5 yX5_face wsX5_face) := goodIn_app (goodIn_of _ (by decide +kernel)) ggL_law_X5_face
set_option maxRecDepth 20000 in
theorem ggL_law_X4_best : GoodIn wsL_law wsX4_best := goodIn_r _ [421, 19, 166, 167, 2, 168, 116, 117, 118, 119, 120, 121, 122, 28, 422, 423, 424, 18, 425, 48, 426, 300, 289, 301, 58, 49, 56, 427, 288, 290, 368, 369, 370, 371, 51, 372, 128, 129, 14, 130, 131, 373, 284, 285, 286, 41, 287, 37, 291, 292, 293, 294, 42, 295, 296, 297, 298, 38, 43, 299, 302, 260, 261, 262, 35, 36, 39, 40, 34, 374, 375, 376, 377, 50, 428, 429, 430, 431, 432, 433, 434, 435, 140, 141, 142, 143, 688, 689, 690, 691, 692, 737, 738, 739, 740, 741, 742, 743, 744, 745, 746, 747, 726, 727, 728, 729, 730, 731, 732, 733, 734, 735, 736] rfl (by decide +kernel)
set_option maxRecDepth 20000 in
theorem gL_law_X4_best : GoodIn wsL_law (wsV RL 75 RX4 yX4_best wsX4_best) := goodIn_app (goodIn_of _ (by decide +kernel)) ggL_law_X4_best
set_option maxRecDepth 20000 in
theorem ggL_law_X5_best : GoodIn wsL_law wsX5_best := goodIn_r _ [439, 148, 99, 91, 440, 185, 186, 5, 187, 153, 154, 155, 156, 157, 390, 391, 392, 393, 149, 98, 97, 307, 308, 309, 310, 94, 90, 311, 300, 289, 301, 312, 288, 290, 313, 314, 315, 316, 95, 275, 276, 277, 278, 88, 92, 89, 93, 271, 272, 273, 274, 441, 442, 443, 444, 158, 159, 160, 161, 693, 694, 695, 696, 697, 698, 699, 700, 701, 702, 703, 704, 705, 706, 707, 708, 709, 710, 711, 712, 713, 714, 715, 716, 717, 718, 719, 720, 721, 722, 723, 724, 725] rfl (by decide +kernel)
set_option maxRecDepth 20000 in
theorem gL_law_X5_best : GoodIn wsL_law (wsV RL 78 RX5 yX5_best wsX5_best) := goodIn_app (goodIn_of _ (by decide +kernel)) ggL_law_X5_best
set_option maxRecDepth 20000 in
theorem ggL_law_X4_comes : GoodIn wsL_law wsX4_comes := goodIn_r _ [448, 23, 19, 449, 450, 451, 22, 452, 453, 116, 117, 2, 118, 454, 365, 366, 18, 367, 49, 53, 360, 361, 362, 363, 48, 50, 51, 52, 368, 369, 370, 371, 372, 128, 129, 14, 130, 131, 373, 284, 285, 286, 41, 287, 288, 289, 290, 37, 291, 292, 293, 294, 42, 295, 296, 297, 298, 38, 43, 299, 300, 301, 302, 260, 261, 262, 35, 36, 39, 40, 34, 374, 375, 376, 377, 378, 379, 380, 381, 688, 689, 690, 691, 692, 748, 749, 750, 751, 752, 753, 754, 755, 756, 757, 758, 759, 760, 761, 737, 738, 739, 740, 741, 742, 743, 744, 745, 746, 747, 726, 727, 728, 729, 730, 731, 732, 733, 734, 735, 736] rfl (by decide +kernel)
set_option maxRecDepth 20000 in
theorem gL_law_X4_comes : GoodIn wsL_law (wsV RL 79 RX4 yX4_comes wsX4_comes) := goodIn_app (goodIn_of _ (by decide +kernel)) ggL_law_X4_comes
set_option maxRecDepth 20000 in
theorem ggL_law_X5_comes : GoodIn wsL_law wsX5_comes := goodIn_r _ [458, 148, 459, 87, 150, 151, 5, 152, 386, 387, 388, 389, 99, 91, 149, 97, 101, 98, 390, 391, 392, 393, 307, 308, 309, 310, 94, 90, 311, 300, 289, 301, 312, 288, 290, 313, 314, 315, 316, 95, 275, 276, 277, 278, 88, 92, 89, 93, 271, 272, 273, 274, 693, 694, 695, 696, 697, 698, 699, 700, 701, 702, 703, 704, 705, 706, 707, 708, 709, 710, 711, 712, 713, 714, 715, 716, 717, 718, 719, 720, 721, 722, 723, 724, 725] rfl (by decide +kernel)
set_option maxRecDepth 20000 in
theorem gL_law_X5_comes : GoodIn wsL_law (wsV RL 82 RX5 yX5_comes wsX5_comes) := goodIn_app (goodIn_of _ (by decide +kernel)) ggL_law_X5_comes
set_option maxRecDepth 20000 in
theorem ggL_law_X4_plan : GoodIn wsL_law wsX4_plan := goodIn_r _ [463, 23, 464, 465, 466, 22, 467, 70, 72, 453, 71, 468, 469, 470, 471, 472, 473, 74, 73, 68, 474, 365, 366, 18, 367, 49, 53, 360, 361, 362, 363, 48, 50, 51, 52, 368, 369, 370, 371, 372, 128, 129, 14, 130, 131, 373, 284, 285, 286, 41, 287, 288, 289, 290, 37, 291, 292, 293, 294, 42, 295, 296, 297, 298, 38, 43, 299, 300, 301, 302, 260, 261, 262, 35, 36, 39, 40, 34, 374, 375, 376, 377, 378, 379, 380, 381, 475, 476, 477, 478, 76, 60, 61, 62, 479, 480, 481, 482, 483, 484, 485, 486, 487, 488, 489, 490, 491, 492, 493, 494, 495, 496, 69, 497, 498, 499, 500, 501, 75, 688, 689, 690, 691, 692, 748, 749, 750, 751, 752, 753, 754, 755, 756, 757, 758, 759, 760, 761, 737, 738, 739, 740, 741, 742, 743, 744, 745, 746, 747, 726, 727, 728, 729, 730, 731, 732, 733, 734, 735, 736] rfl (by decide +kernel)
set_option maxRecDepth 20000 in
theorem gL_law_X4_plan : GoodIn wsL_law (wsV RL 83 RX4 yX4_plan wsX4_plan) := goodIn_app (goodIn_of _ (by decide +kernel)) ggL_law_X4_plan
set_option maxRecDepth 20000 in
theorem ggL_law_X5_plan : GoodIn wsL_law wsX5_plan := goodIn_r _ [505, 148, 107, 459, 87, 104, 96, 312, 288, 289, 290, 106, 506, 507, 105, 386, 387, 388, 5, 389, 99, 91, 149, 97, 101, 98, 390, 391, 392, 393, 307, 308, 309, 310, 94, 90, 311, 300, 301, 313, 314, 315, 316, 95, 275, 276, 277, 278, 88, 92, 89, 93, 271, 272, 273, 274, 508, 509, 510, 511, 512, 513, 514, 515, 516, 693, 694, 695, 696, 697, 698, 699, 700, 701, 702, 703, 704, 705, 706, 707, 708, 709, 710, 711, 712, 713, 714, 715, 716, 717, 718, 719, 720, 721, 722, 723, 724, 725] rfl (by decide +kernel)
set_option maxRecDepth 20000 in
theorem gL_law_X5_plan : GoodIn wsL_law (wsV RL 87 RX5 yX5_plan wsX5_plan) := goodIn_app (goodIn_of _ (by decide +kernel)) ggL_law_X5_plan
set_option maxRecDepth 20000 in
theorem ggL_law_X4_runs : GoodIn wsL_law wsX4_runs := goodIn_r _ [520, 23, 166, 167, 2, 168, 116, 117, 118, 521, 522, 523, 22, 524, 75, 501, 688, 689, 690, 691, 692, 748, 749, 750, 751, 752, 753, 754, 755, 756, 757, 758, 759, 760, 761] rfl (by decide +kernel)
set_option maxRecDepth 20000 in
theorem gL_law_X4_runs : GoodIn wsL_law (wsV RL 88 RX4 yX4_runs wsX4_runs) := goodIn_app (goodIn_of _ (by decide +kernel)) ggL_law_X4_runs
set_option maxRecDepth 20000 in
theorem ggL_law_X5_runs : GoodIn wsL_law wsX5_runs := goodIn_r _ [528, 148, 106, 105, 150, 151, 5, 152, 693, 694, 695, 696, 697, 698, 699, 700, 701, 702, 703, 704, 705, 706, 707, 708, 709, 710, 711, 712, 713, 714, 715, 716, 717, 718, 719, 720, 721, 722, 723, 724, 725] rfl (by decide +kernel)
set_option maxRecDepth 20000 in
theorem gL_law_X5_runs : GoodIn wsL_law (wsV RL 91 RX5 yX5_runs wsX5_runs) := goodIn_app (goodIn_of _ (by decide +kernel)) ggL_law_X5_runs
set_option maxRecDepth 20000 in
theorem ggL_law_X4_step : GoodIn wsL_law wsX4_step := goodIn_r _ [532, 23, 533, 534, 535, 22, 536, 468, 68, 453, 469, 537, 67, 474, 365, 366, 18, 367, 49, 53, 360, 361, 362, 363, 48, 50, 51, 52, 368, 369, 370, 371, 372, 128, 129, 14, 130, 131, 373, 284, 285, 286, 41, 287, 288, 289, 290, 37, 291, 292, 293, 294, 42, 295, 296, 297, 298, 38, 43, 299, 300, 301, 302, 260, 261, 262, 35, 36, 39, 40, 34, 374, 375, 376, 377, 378, 379, 380, 381, 475, 476, 477, 478, 490, 491, 492, 493, 494, 495, 496, 69, 538, 539, 540, 541, 119, 120, 121, 2, 122, 28, 140, 141, 142, 143, 688, 689, 690, 691, 692, 748, 749, 750, 751, 752, 753, 754, 755, 756, 757, 758, 759, 760, 761, 737, 738, 739, 740, 741, 742, 743, 744, 745, 746, 747, 726, 727, 728, 729, 730, 731, 732, 733, 734, 735, 736] rfl (by decide +kernel)
set_option maxRecDepth 20000 in
theorem gL_law_X4_step : GoodIn wsL_law (wsV RL 92 RX4 yX4_step wsX4_step) := goodIn_app (goodIn_of _ (by decide +kernel)) ggL_law_X4_step
set_option maxRecDepth 20000 in
theorem ggL_law_X5_step : GoodIn wsL_law wsX5_step := goodIn_r _ [545, 148, 506, 459, 507, 96, 546, 149, 90, 87, 311, 300, 289, 301, 386, 387, 388, 5, 389, 99, 91, 97, 101, 98, 390, 391, 392, 393, 307, 308, 309, 310, 94, 312, 288, 290, 313, 314, 315, 316, 95, 275, 276, 277, 278, 88, 92, 89, 93, 271, 272, 273, 274, 511, 512, 513, 514, 515, 516, 153, 154, 155, 156, 157, 158, 159, 160, 161, 693, 694, 695, 696, 697, 698, 699, 700, 701, 702, 703, 704, 705, 706, 707, 708, 709, 710, 711, 712, 713, 714, 715, 716, 717, 718, 719, 720, 721, 722, 723, 724, 725] rfl (by decide +kernel)
set_option maxRecDepth 20000 in
theorem gL_law_X5_step : GoodIn wsL_law (wsV RL 96 RX5 yX5_step wsX5_step) := goodIn_app (goodIn_of _ (by decide +kernel)) ggL_law_X5_step
set_option maxRecDepth 20000 in
theorem ggL_law_X4_earned : GoodIn wsL_law wsX4_earned := goodIn_r _ [550, 23, 551, 552, 553, 22, 554, 537, 688, 689, 690, 691, 692, 748, 749, 750, 751, 752, 753, 754, 755, 756, 757, 758, 759, 760, 761] rfl (by decide +kernel)
set_option maxRecDepth 20000 in
theorem gL_law_X4_earned : GoodIn wsL_law (wsV RL 97 RX4 yX4_earned wsX4_earned) := goodIn_app (goodIn_of _ (by decide +kernel)) ggL_law_X4_earned
set_option maxRecDepth 20000 in
theorem ggL_law_X5_earned : GoodIn wsL_law wsX5_earned := goodIn_r _ [558, 148, 546, 693, 694, 695, 696, 697, 698, 699, 700, 701, 702, 703, 704, 705, 706, 707, 708, 709, 710, 711, 712, 713, 714, 715, 716, 717, 718, 719, 720, 721, 722, 723, 724, 725] rfl (by decide +kernel)
set_option maxRecDepth 20000 in
theorem gL_law_X5_earned : GoodIn wsL_law (wsV RL 100 RX5 yX5_earned wsX5_earned) := goodIn_app (goodIn_of _ (by decide +kernel)) ggL_law_X5_earned
set_option maxRecDepth 20000 in
theorem ggL_law_X4_shot : GoodIn wsL_law wsX4_shot := goodIn_r _ [562, 563, 564, 300, 289, 301, 15, 27, 565, 566, 567, 568, 569, 570, 571, 116, 117, 2, 118, 119, 120, 121, 122, 28, 127, 128, 129, 14, 130, 131, 572, 573, 574, 26, 575, 576, 577, 578, 579, 580, 81, 581, 582, 583, 140, 141, 142, 143, 688, 689, 690, 691, 692, 726, 727, 728, 729, 730, 731, 732, 733, 734, 735, 736, 762, 763, 764, 765, 766] rfl (by decide +kernel)
set_option maxRecDepth 20000 in
theorem gL_law_X4_shot : GoodIn wsL_law (wsV RL 101 RX4 yX4_shot wsX4_shot) := goodIn_app (goodIn_of _ (by decide +kernel)) ggL_law_X4_shot
set_option maxRecDepth 20000 in
theorem ggL_law_X5_shot : GoodIn wsL_law wsX5_shot := goodIn_r _ [587, 148, 588, 149, 589, 590, 109, 110, 591, 592, 5, 593, 153, 154, 155, 156, 157, 158, 159, 160, 161, 693, 694, 695, 696, 697, 698, 699, 700, 701, 702, 703, 704, 705, 706, 707, 708, 709, 710, 711, 712, 713, 714, 715, 716, 717, 718, 719, 720, 721, 722, 723, 724, 725] rfl (by decide +kernel)
set_option maxRecDepth 20000 in
theorem gL_law_X5_shot : GoodIn wsL_law (wsV RL 105 RX5 yX5_shot wsX5_shot) := goodIn_app (goodIn_of _ (by decide +kernel)) ggL_law_X5_shot
set_option maxRecDepth 20000 in
theorem ggL_law_X4_forget : GoodIn wsL_law wsX4_forget := goodIn_r _ [597, 27, 598, 599, 600, 26, 601, 576, 81, 581, 602, 60, 61, 62, 688, 689, 690, 691, 692, 762, 763, 764, 765, 766] rfl (by decide +kernel)
set_option maxRecDepth 20000 in
theorem gL_law_X4_forget : GoodIn wsL_law (wsV RL 106 RX4 yX4_forget wsX4_forget) := goodIn_app (goodIn_of _ (by decide +kernel)) ggL_law_X4_forget
set_option maxRecDepth 20000 in
theorem ggL_law_X5_forget : GoodIn wsL_law wsX5_forget := goodIn_r _ [606, 148, 590, 693, 694, 695, 696, 697, 698, 699, 700, 701, 702, 703, 704, 705, 706, 707, 708, 709, 710, 711, 712, 713, 714, 715, 716, 717, 718, 719, 720, 721, 722, 723, 724, 725] rfl (by decide +kernel)
set_option maxRecDepth 20000 in
theorem gL_law_X5_forget : GoodIn wsL_law (wsV RL 109 RX5 yX5_forget wsX5_forget) := goodIn_app (goodIn_of _ (by decide +kernel)) ggL_law_X5_forget
set_option maxRecDepth 20000 in
theorem ggL_law_X4_agree : GoodIn wsL_law wsX4_agree := goodIn_r _ [610, 27, 15, 127, 128, 129, 14, 130, 131, 611, 612, 613, 26, 614, 615, 616, 617, 618, 619, 82, 581, 81, 602, 60, 61, 62, 688, 689, 690, 691, 692, 726, 727, 728, 729, 730, 731, 732, 733, 734, 735, 736, 762, 763, 764, 765, 766] rfl (by decide +kernel)
set_option maxRecDepth 20000 in
theorem gL_law_X4_agree : GoodIn wsL_law (wsV RL 110 RX4 yX4_agree wsX4_agree) := goodIn_app (goodIn_of _ (by decide +kernel)) ggL_law_X4_agree
set_option maxRecDepth 20000 in
theorem ggL_law_X5_agree : GoodIn wsL_law wsX5_agree := goodIn_r _ [623, 148, 624, 625, 626, 5, 627, 111, 149, 628, 629, 630, 631, 590, 109, 589, 110, 591, 592, 593, 693, 694, 695, 696, 697, 698, 699, 700, 701, 702, 703, 704, 705, 706, 707, 708, 709, 710, 711, 712, 713, 714, 715, 716, 717, 718, 719, 720, 721, 722, 723, 724, 725] rfl (by decide +kernel)
set_option maxRecDepth 20000 in
theorem gL_law_X5_agree : GoodIn wsL_law (wsV RL 113 RX5 yX5_agree wsX5_agree) := goodIn_app (goodIn_of _ (by decide +kernel)) ggL_law_X5_agree
set_option maxRecDepth 20000 in
theorem ggL_law_X4_stuck : GoodIn wsL_law wsX4_stuck := goodIn_r _ [635, 27, 15, 251, 252, 253, 2, 254, 127, 128, 129, 14, 130, 131, 116, 117, 118, 636, 637, 638, 26, 639, 82, 616, 617, 618, 619, 581, 615, 81, 602, 60, 61, 62, 640, 641, 642, 643, 688, 689, 690, 691, 692, 726, 727, 728, 729, 730, 731, 732, 733, 734, 735, 736, 762, 763, 764, 765, 766] rfl (by decide +kernel)
set_option maxRecDepth 20000 in
theorem gL_law_X4_stuck : GoodIn wsL_law (wsV RL 114 RX4 yX4_stuck wsX4_stuck) := goodIn_app (goodIn_of _ (by decide +kernel)) ggL_law_X4_stuck
set_option maxRecDepth 20000 in
theorem ggL_law_X5_stuck : GoodIn wsL_law wsX5_stuck := goodIn_r _ [647, 148, 111, 267, 268, 269, 5, 270, 149, 624, 625, 626, 627, 628, 629, 630, 631, 590, 109, 589, 110, 591, 592, 593, 693, 694, 695, 696, 697, 698, 699, 700, 701, 702, 703, 704, 705, 706, 707, 708, 709, 710, 711, 712, 713, 714, 715, 716, 717, 718, 719, 720, 721, 722, 723, 724, 725] rfl (by decide +kernel)
set_option maxRecDepth 20000 in
theorem gL_law_X5_stuck : GoodIn wsL_law (wsV RL 117 RX5 yX5_stuck wsX5_stuck) := goodIn_app (goodIn_of _ (by decide +kernel)) ggL_law_X5_stuck
set_option maxRecDepth 20000 in
theorem ggL_law_X4_unsure : GoodIn wsL_law wsX4_unsure := goodIn_r _ [651, 27, 15, 127, 128, 129, 14, 130, 131, 652, 653, 654, 26, 655, 616, 617, 618, 619, 82, 581, 615, 81, 602, 60, 61, 62, 640, 641, 642, 643, 688, 689, 690, 691, 692, 726, 727, 728, 729, 730, 731, 732, 733, 734, 735, 736, 762, 763, 764, 765, 766] rfl (by decide +kernel)
set_option maxRecDepth 20000 in
theorem gL_law_X4_unsure : GoodIn wsL_law (wsV RL 118 RX4 yX4_unsure wsX4_unsure) := goodIn_app (goodIn_of _ (by decide +kernel)) ggL_law_X4_unsure
set_option maxRecDepth 20000 in
theorem ggL_law_X5_unsure : GoodIn wsL_law wsX5_unsure := goodIn_r _ [659, 148, 149, 111, 624, 625, 626, 5, 627, 628, 629, 630, 631, 590, 109, 589, 110, 591, 592, 593, 693, 694, 695, 696, 697, 698, 699, 700, 701, 702, 703, 704, 705, 706, 707, 708, 709, 710, 711, 712, 713, 714, 715, 716, 717, 718, 719, 720, 721, 722, 723, 724, 725] rfl (by decide +kernel)
set_option maxRecDepth 20000 in
theorem gL_law_X5_unsure : GoodIn wsL_law (wsV RL 121 RX5 yX5_unsure wsX5_unsure) := goodIn_app (goodIn_of _ (by decide +kernel)) ggL_law_X5_unsure
set_option maxRecDepth 20000 in
theorem ggL_law_X4_count : GoodIn wsL_law wsX4_count := goodIn_r _ [663, 15, 23, 27, 127, 128, 129, 14, 130, 131, 449, 450, 451, 22, 452, 453, 664, 665, 666, 667, 468, 668, 669, 670, 671, 469, 572, 573, 574, 26, 575, 576, 672, 673, 674, 675, 38, 688, 689, 690, 691, 692, 726, 727, 728, 729, 730, 731, 732, 733, 734, 735, 736, 748, 749, 750, 751, 752, 753, 754, 755, 756, 757, 758, 759, 760, 761, 762, 763, 764, 765, 766] rfl (by decide +kernel)
set_option maxRecDepth 20000 in
theorem gL_law_X4_count : GoodIn wsL_law (wsV RL 122 RX4 yX4_count wsX4_count) := goodIn_app (goodIn_of _ (by decide +kernel)) ggL_law_X4_count
set_option maxRecDepth 20000 in
theorem ggL_law_X5_count : GoodIn wsL_law wsX5_count := goodIn_r _ [679, 148, 149, 459, 506, 507, 590, 90, 693, 694, 695, 696, 697, 698, 699, 700, 701, 702, 703, 704, 705, 706, 707, 708, 709, 710, 711, 712, 713, 714, 715, 716, 717, 718, 719, 720, 721, 722, 723, 724, 725] rfl (by decide +kernel)
set_option maxRecDepth 20000 in
theorem gL_law_X5_count : GoodIn wsL_law (wsV RL 125 RX5 yX5_count wsX5_count) := goodIn_app (goodIn_of _ (by decide +kernel)) ggL_law_X5_count
set_option maxRecDepth 20000 in
theorem ggL_law_X4_trouble : GoodIn wsL_law wsX4_trouble := goodIn_r _ [683, 28, 688, 689, 690, 691, 692] rfl (by decide +kernel)
set_option maxRecDepth 20000 in
theorem gL_law_X4_trouble : GoodIn wsL_law (wsV RL 126 RX4 yX4_trouble wsX4_trouble) := goodIn_app (goodIn_of _ (by decide +kernel)) ggL_law_X4_trouble
set_option maxRecDepth 20000 in
theorem ggL_law_X5_trouble : GoodIn wsL_law wsX5_trouble := goodIn_r _ [687, 148, 157, 693, 694, 695, 696, 697, 698, 699, 700, 701, 702, 703, 704, 705, 706, 707, 708, 709, 710, 711, 712, 713, 714, 715, 716, 717, 718, 719, 720, 721, 722, 723, 724, 725] rfl (by decide +kernel)
set_option maxRecDepth 20000 in
theorem gL_law_X5_trouble : GoodIn wsL_law (wsV RL 129 RX5 yX5_trouble wsX5_trouble) := goodIn_app (goodIn_of _ (by decide +kernel)) ggL_law_X5_trouble
theorem dL_law_0 : decode cL_law 0 = .ok (.new 7, 3) := by decide +kernel
theorem dL_law_3 : decode cL_law 3 = .ok (.dup, 1) := by decide +kernel
theorem dL_law_4 : decode cL_law 4 = .ok (.invokespecial 9, 3) := by decide +kernel
theorem dL_law_7 : decode cL_law 7 = .ok (.astore_n 1, 1) := by decide +kernel
theorem dL_law_8 : decode cL_law 8 = .ok (.new 10, 3) := by decide +kernel
theorem dL_law_11 : decode cL_law 11 = .ok (.dup, 1) := by decide +kernel
theorem dL_law_12 : decode cL_law 12 = .ok (.invokespecial 12, 3) := by decide +kernel
theorem dL_law_15 : decode cL_law 15 = .ok (.astore_n 2, 1) := by decide +kernel
theorem dL_law_16 : decode cL_law 16 = .ok (.iconst 0, 1) := by decide +kernel
theorem dL_law_17 : decode cL_law 17 = .ok (.istore_n 3, 1) := by decide +kernel
theorem dL_law_18 : decode cL_law 18 = .ok (.iload_n 3, 1) := by decide +kernel
theorem dL_law_19 : decode cL_law 19 = .ok (.aload_n 0, 1) := by decide +kernel
theorem dL_law_20 : decode cL_law 20 = .ok (.arraylength, 1) := by decide +kernel
theorem dL_law_21 : decode cL_law 21 = .ok (.iconst 5, 1) := by decide +kernel
theorem dL_law_22 : decode cL_law 22 = .ok (.isub, 1) := by decide +kernel
theorem dL_law_23 : decode cL_law 23 = .ok (.if_icmp .gt 852, 3) := by decide +kernel
theorem dL_law_26 : decode cL_law 26 = .ok (.aload_n 0, 1) := by decide +kernel
theorem dL_law_27 : decode cL_law 27 = .ok (.iload_n 3, 1) := by decide +kernel
theorem dL_law_28 : decode cL_law 28 = .ok (.iaload, 1) := by decide +kernel
theorem dL_law_29 : decode cL_law 29 = .ok (.bipush 31, 2) := by decide +kernel
theorem dL_law_31 : decode cL_law 31 = .ok (.iand, 1) := by decide +kernel
theorem dL_law_32 : decode cL_law 32 = .ok (.tableswitch 837 0 26 #[124, 157, 210, 243, 276, 309, 332, 391, 424, 447, 470, 493, 516, 539, 562, 585, 608, 621, 644, 683, 696, 739, 752, 765, 788, 801, 824], 124) := by decide +kernel
theorem dL_law_156 : decode cL_law 156 = .ok (.aload_n 1, 1) := by decide +kernel
theorem dL_law_157 : decode cL_law 157 = .ok (.aload_n 0, 1) := by decide +kernel
theorem dL_law_158 : decode cL_law 158 = .ok (.iload_n 3, 1) := by decide +kernel
theorem dL_law_159 : decode cL_law 159 = .ok (.iconst 1, 1) := by decide +kernel
theorem dL_law_160 : decode cL_law 160 = .ok (.iadd, 1) := by decide +kernel
theorem dL_law_161 : decode cL_law 161 = .ok (.iaload, 1) := by decide +kernel
theorem dL_law_162 : decode cL_law 162 = .ok (.aload_n 0, 1) := by decide +kernel
theorem dL_law_163 : decode cL_law 163 = .ok (.iload_n 3, 1) := by decide +kernel
theorem dL_law_164 : decode cL_law 164 = .ok (.iconst 2, 1) := by decide +kernel
theorem dL_law_165 : decode cL_law 165 = .ok (.iadd, 1) := by decide +kernel
theorem dL_law_166 : decode cL_law 166 = .ok (.iaload, 1) := by decide +kernel
theorem dL_law_167 : decode cL_law 167 = .ok (.invokevirtual 13, 3) := by decide +kernel
theorem dL_law_170 : decode cL_law 170 = .ok (.pop, 1) := by decide +kernel
theorem dL_law_171 : decode cL_law 171 = .ok (.aload_n 2, 1) := by decide +kernel
theorem dL_law_172 : decode cL_law 172 = .ok (.aload_n 0, 1) := by decide +kernel
theorem dL_law_173 : decode cL_law 173 = .ok (.iload_n 3, 1) := by decide +kernel
theorem dL_law_174 : decode cL_law 174 = .ok (.iconst 1, 1) := by decide +kernel
theorem dL_law_175 : decode cL_law 175 = .ok (.iadd, 1) := by decide +kernel
theorem dL_law_176 : decode cL_law 176 = .ok (.iaload, 1) := by decide +kernel
theorem dL_law_177 : decode cL_law 177 = .ok (.aload_n 0, 1) := by decide +kernel
theorem dL_law_178 : decode cL_law 178 = .ok (.iload_n 3, 1) := by decide +kernel
theorem dL_law_179 : decode cL_law 179 = .ok (.iconst 2, 1) := by decide +kernel
theorem dL_law_180 : decode cL_law 180 = .ok (.iadd, 1) := by decide +kernel
theorem dL_law_181 : decode cL_law 181 = .ok (.iaload, 1) := by decide +kernel
theorem dL_law_182 : decode cL_law 182 = .ok (.invokevirtual 17, 3) := by decide +kernel
theorem dL_law_185 : decode cL_law 185 = .ok (.pop, 1) := by decide +kernel
theorem dL_law_186 : decode cL_law 186 = .ok (.goto 683, 3) := by decide +kernel
theorem dL_law_189 : decode cL_law 189 = .ok (.aload_n 1, 1) := by decide +kernel
theorem dL_law_190 : decode cL_law 190 = .ok (.aload_n 0, 1) := by decide +kernel
theorem dL_law_191 : decode cL_law 191 = .ok (.iload_n 3, 1) := by decide +kernel
theorem dL_law_192 : decode cL_law 192 = .ok (.iconst 1, 1) := by decide +kernel
theorem dL_law_193 : decode cL_law 193 = .ok (.iadd, 1) := by decide +kernel
theorem dL_law_194 : decode cL_law 194 = .ok (.iaload, 1) := by decide +kernel
theorem dL_law_195 : decode cL_law 195 = .ok (.aload_n 0, 1) := by decide +kernel
theorem dL_law_196 : decode cL_law 196 = .ok (.iload_n 3, 1) := by decide +kernel
theorem dL_law_197 : decode cL_law 197 = .ok (.iconst 2, 1) := by decide +kernel
theorem dL_law_198 : decode cL_law 198 = .ok (.iadd, 1) := by decide +kernel
theorem dL_law_199 : decode cL_law 199 = .ok (.iaload, 1) := by decide +kernel
theorem dL_law_200 : decode cL_law 200 = .ok (.aload_n 0, 1) := by decide +kernel
theorem dL_law_201 : decode cL_law 201 = .ok (.iload_n 3, 1) := by decide +kernel
theorem dL_law_202 : decode cL_law 202 = .ok (.iconst 3, 1) := by decide +kernel
theorem dL_law_203 : decode cL_law 203 = .ok (.iadd, 1) := by decide +kernel
theorem dL_law_204 : decode cL_law 204 = .ok (.iaload, 1) := by decide +kernel
theorem dL_law_205 : decode cL_law 205 = .ok (.aload_n 0, 1) := by decide +kernel
theorem dL_law_206 : decode cL_law 206 = .ok (.iload_n 3, 1) := by decide +kernel
theorem dL_law_207 : decode cL_law 207 = .ok (.iconst 4, 1) := by decide +kernel
theorem dL_law_208 : decode cL_law 208 = .ok (.iadd, 1) := by decide +kernel
theorem dL_law_209 : decode cL_law 209 = .ok (.iaload, 1) := by decide +kernel
theorem dL_law_210 : decode cL_law 210 = .ok (.invokevirtual 18, 3) := by decide +kernel
theorem dL_law_213 : decode cL_law 213 = .ok (.aload_n 2, 1) := by decide +kernel
theorem dL_law_214 : decode cL_law 214 = .ok (.aload_n 0, 1) := by decide +kernel
theorem dL_law_215 : decode cL_law 215 = .ok (.iload_n 3, 1) := by decide +kernel
theorem dL_law_216 : decode cL_law 216 = .ok (.iconst 1, 1) := by decide +kernel
theorem dL_law_217 : decode cL_law 217 = .ok (.iadd, 1) := by decide +kernel
theorem dL_law_218 : decode cL_law 218 = .ok (.iaload, 1) := by decide +kernel
theorem dL_law_219 : decode cL_law 219 = .ok (.aload_n 0, 1) := by decide +kernel
theorem dL_law_220 : decode cL_law 220 = .ok (.iload_n 3, 1) := by decide +kernel
theorem dL_law_221 : decode cL_law 221 = .ok (.iconst 2, 1) := by decide +kernel
theorem dL_law_222 : decode cL_law 222 = .ok (.iadd, 1) := by decide +kernel
theorem dL_law_223 : decode cL_law 223 = .ok (.iaload, 1) := by decide +kernel
theorem dL_law_224 : decode cL_law 224 = .ok (.aload_n 0, 1) := by decide +kernel
theorem dL_law_225 : decode cL_law 225 = .ok (.iload_n 3, 1) := by decide +kernel
theorem dL_law_226 : decode cL_law 226 = .ok (.iconst 3, 1) := by decide +kernel
theorem dL_law_227 : decode cL_law 227 = .ok (.iadd, 1) := by decide +kernel
theorem dL_law_228 : decode cL_law 228 = .ok (.iaload, 1) := by decide +kernel
theorem dL_law_229 : decode cL_law 229 = .ok (.aload_n 0, 1) := by decide +kernel
theorem dL_law_230 : decode cL_law 230 = .ok (.iload_n 3, 1) := by decide +kernel
theorem dL_law_231 : decode cL_law 231 = .ok (.iconst 4, 1) := by decide +kernel
theorem dL_law_232 : decode cL_law 232 = .ok (.iadd, 1) := by decide +kernel
theorem dL_law_233 : decode cL_law 233 = .ok (.iaload, 1) := by decide +kernel
theorem dL_law_234 : decode cL_law 234 = .ok (.invokevirtual 22, 3) := by decide +kernel
theorem dL_law_237 : decode cL_law 237 = .ok (.if_icmp .eq 632, 3) := by decide +kernel
theorem dL_law_240 : decode cL_law 240 = .ok (.iconst 0, 1) := by decide +kernel
theorem dL_law_241 : decode cL_law 241 = .ok (.ireturn, 1) := by decide +kernel
theorem dL_law_242 : decode cL_law 242 = .ok (.aload_n 1, 1) := by decide +kernel
theorem dL_law_243 : decode cL_law 243 = .ok (.aload_n 0, 1) := by decide +kernel
theorem dL_law_244 : decode cL_law 244 = .ok (.iload_n 3, 1) := by decide +kernel
theorem dL_law_245 : decode cL_law 245 = .ok (.iconst 1, 1) := by decide +kernel
theorem dL_law_246 : decode cL_law 246 = .ok (.iadd, 1) := by decide +kernel
theorem dL_law_247 : decode cL_law 247 = .ok (.iaload, 1) := by decide +kernel
theorem dL_law_248 : decode cL_law 248 = .ok (.aload_n 0, 1) := by decide +kernel
theorem dL_law_249 : decode cL_law 249 = .ok (.iload_n 3, 1) := by decide +kernel
theorem dL_law_250 : decode cL_law 250 = .ok (.iconst 2, 1) := by decide +kernel
theorem dL_law_251 : decode cL_law 251 = .ok (.iadd, 1) := by decide +kernel
theorem dL_law_252 : decode cL_law 252 = .ok (.iaload, 1) := by decide +kernel
theorem dL_law_253 : decode cL_law 253 = .ok (.invokevirtual 23, 3) := by decide +kernel
theorem dL_law_256 : decode cL_law 256 = .ok (.pop, 1) := by decide +kernel
theorem dL_law_257 : decode cL_law 257 = .ok (.aload_n 2, 1) := by decide +kernel
theorem dL_law_258 : decode cL_law 258 = .ok (.aload_n 0, 1) := by decide +kernel
theorem dL_law_259 : decode cL_law 259 = .ok (.iload_n 3, 1) := by decide +kernel
theorem dL_law_260 : decode cL_law 260 = .ok (.iconst 1, 1) := by decide +kernel
theorem dL_law_261 : decode cL_law 261 = .ok (.iadd, 1) := by decide +kernel
theorem dL_law_262 : decode cL_law 262 = .ok (.iaload, 1) := by decide +kernel
theorem dL_law_263 : decode cL_law 263 = .ok (.aload_n 0, 1) := by decide +kernel
theorem dL_law_264 : decode cL_law 264 = .ok (.iload_n 3, 1) := by decide +kernel
theorem dL_law_265 : decode cL_law 265 = .ok (.iconst 2, 1) := by decide +kernel
theorem dL_law_266 : decode cL_law 266 = .ok (.iadd, 1) := by decide +kernel
theorem dL_law_267 : decode cL_law 267 = .ok (.iaload, 1) := by decide +kernel
theorem dL_law_268 : decode cL_law 268 = .ok (.invokevirtual 27, 3) := by decide +kernel
theorem dL_law_271 : decode cL_law 271 = .ok (.pop, 1) := by decide +kernel
theorem dL_law_272 : decode cL_law 272 = .ok (.goto 597, 3) := by decide +kernel
theorem dL_law_275 : decode cL_law 275 = .ok (.aload_n 1, 1) := by decide +kernel
theorem dL_law_276 : decode cL_law 276 = .ok (.aload_n 0, 1) := by decide +kernel
theorem dL_law_277 : decode cL_law 277 = .ok (.iload_n 3, 1) := by decide +kernel
theorem dL_law_278 : decode cL_law 278 = .ok (.iconst 1, 1) := by decide +kernel
theorem dL_law_279 : decode cL_law 279 = .ok (.iadd, 1) := by decide +kernel
theorem dL_law_280 : decode cL_law 280 = .ok (.iaload, 1) := by decide +kernel
theorem dL_law_281 : decode cL_law 281 = .ok (.aload_n 0, 1) := by decide +kernel
theorem dL_law_282 : decode cL_law 282 = .ok (.iload_n 3, 1) := by decide +kernel
theorem dL_law_283 : decode cL_law 283 = .ok (.iconst 2, 1) := by decide +kernel
theorem dL_law_284 : decode cL_law 284 = .ok (.iadd, 1) := by decide +kernel
theorem dL_law_285 : decode cL_law 285 = .ok (.iaload, 1) := by decide +kernel
theorem dL_law_286 : decode cL_law 286 = .ok (.invokevirtual 28, 3) := by decide +kernel
theorem dL_law_289 : decode cL_law 289 = .ok (.pop, 1) := by decide +kernel
theorem dL_law_290 : decode cL_law 290 = .ok (.aload_n 2, 1) := by decide +kernel
theorem dL_law_291 : decode cL_law 291 = .ok (.aload_n 0, 1) := by decide +kernel
theorem dL_law_292 : decode cL_law 292 = .ok (.iload_n 3, 1) := by decide +kernel
theorem dL_law_293 : decode cL_law 293 = .ok (.iconst 1, 1) := by decide +kernel
theorem dL_law_294 : decode cL_law 294 = .ok (.iadd, 1) := by decide +kernel
theorem dL_law_295 : decode cL_law 295 = .ok (.iaload, 1) := by decide +kernel
theorem dL_law_296 : decode cL_law 296 = .ok (.aload_n 0, 1) := by decide +kernel
theorem dL_law_297 : decode cL_law 297 = .ok (.iload_n 3, 1) := by decide +kernel
theorem dL_law_298 : decode cL_law 298 = .ok (.iconst 2, 1) := by decide +kernel
theorem dL_law_299 : decode cL_law 299 = .ok (.iadd, 1) := by decide +kernel
theorem dL_law_300 : decode cL_law 300 = .ok (.iaload, 1) := by decide +kernel
theorem dL_law_301 : decode cL_law 301 = .ok (.invokevirtual 31, 3) := by decide +kernel
theorem dL_law_304 : decode cL_law 304 = .ok (.pop, 1) := by decide +kernel
theorem dL_law_305 : decode cL_law 305 = .ok (.goto 564, 3) := by decide +kernel
theorem dL_law_308 : decode cL_law 308 = .ok (.aload_n 1, 1) := by decide +kernel
theorem dL_law_309 : decode cL_law 309 = .ok (.aload_n 0, 1) := by decide +kernel
theorem dL_law_310 : decode cL_law 310 = .ok (.iload_n 3, 1) := by decide +kernel
theorem dL_law_311 : decode cL_law 311 = .ok (.iconst 1, 1) := by decide +kernel
theorem dL_law_312 : decode cL_law 312 = .ok (.iadd, 1) := by decide +kernel
theorem dL_law_313 : decode cL_law 313 = .ok (.iaload, 1) := by decide +kernel
theorem dL_law_314 : decode cL_law 314 = .ok (.aload_n 0, 1) := by decide +kernel
theorem dL_law_315 : decode cL_law 315 = .ok (.iload_n 3, 1) := by decide +kernel
theorem dL_law_316 : decode cL_law 316 = .ok (.iconst 2, 1) := by decide +kernel
theorem dL_law_317 : decode cL_law 317 = .ok (.iadd, 1) := by decide +kernel
theorem dL_law_318 : decode cL_law 318 = .ok (.iaload, 1) := by decide +kernel
theorem dL_law_319 : decode cL_law 319 = .ok (.invokevirtual 32, 3) := by decide +kernel
theorem dL_law_322 : decode cL_law 322 = .ok (.pop, 1) := by decide +kernel
theorem dL_law_323 : decode cL_law 323 = .ok (.aload_n 2, 1) := by decide +kernel
theorem dL_law_324 : decode cL_law 324 = .ok (.aload_n 0, 1) := by decide +kernel
theorem dL_law_325 : decode cL_law 325 = .ok (.iload_n 3, 1) := by decide +kernel
theorem dL_law_326 : decode cL_law 326 = .ok (.iconst 1, 1) := by decide +kernel
theorem dL_law_327 : decode cL_law 327 = .ok (.iadd, 1) := by decide +kernel
theorem dL_law_328 : decode cL_law 328 = .ok (.iaload, 1) := by decide +kernel
theorem dL_law_329 : decode cL_law 329 = .ok (.aload_n 0, 1) := by decide +kernel
theorem dL_law_330 : decode cL_law 330 = .ok (.iload_n 3, 1) := by decide +kernel
theorem dL_law_331 : decode cL_law 331 = .ok (.iconst 2, 1) := by decide +kernel
theorem dL_law_332 : decode cL_law 332 = .ok (.iadd, 1) := by decide +kernel
theorem dL_law_333 : decode cL_law 333 = .ok (.iaload, 1) := by decide +kernel
theorem dL_law_334 : decode cL_law 334 = .ok (.invokevirtual 35, 3) := by decide +kernel
theorem dL_law_337 : decode cL_law 337 = .ok (.pop, 1) := by decide +kernel
theorem dL_law_338 : decode cL_law 338 = .ok (.goto 531, 3) := by decide +kernel
theorem dL_law_341 : decode cL_law 341 = .ok (.aload_n 1, 1) := by decide +kernel
theorem dL_law_342 : decode cL_law 342 = .ok (.aload_n 0, 1) := by decide +kernel
theorem dL_law_343 : decode cL_law 343 = .ok (.iload_n 3, 1) := by decide +kernel
theorem dL_law_344 : decode cL_law 344 = .ok (.iconst 1, 1) := by decide +kernel
theorem dL_law_345 : decode cL_law 345 = .ok (.iadd, 1) := by decide +kernel
theorem dL_law_346 : decode cL_law 346 = .ok (.iaload, 1) := by decide +kernel
theorem dL_law_347 : decode cL_law 347 = .ok (.invokevirtual 36, 3) := by decide +kernel
theorem dL_law_350 : decode cL_law 350 = .ok (.pop, 1) := by decide +kernel
theorem dL_law_351 : decode cL_law 351 = .ok (.aload_n 2, 1) := by decide +kernel
theorem dL_law_352 : decode cL_law 352 = .ok (.aload_n 0, 1) := by decide +kernel
theorem dL_law_353 : decode cL_law 353 = .ok (.iload_n 3, 1) := by decide +kernel
theorem dL_law_354 : decode cL_law 354 = .ok (.iconst 1, 1) := by decide +kernel
theorem dL_law_355 : decode cL_law 355 = .ok (.iadd, 1) := by decide +kernel
theorem dL_law_356 : decode cL_law 356 = .ok (.iaload, 1) := by decide +kernel
theorem dL_law_357 : decode cL_law 357 = .ok (.invokevirtual 40, 3) := by decide +kernel
theorem dL_law_360 : decode cL_law 360 = .ok (.pop, 1) := by decide +kernel
theorem dL_law_361 : decode cL_law 361 = .ok (.goto 508, 3) := by decide +kernel
theorem dL_law_364 : decode cL_law 364 = .ok (.aload_n 1, 1) := by decide +kernel
theorem dL_law_365 : decode cL_law 365 = .ok (.aload_n 0, 1) := by decide +kernel
theorem dL_law_366 : decode cL_law 366 = .ok (.iload_n 3, 1) := by decide +kernel
theorem dL_law_367 : decode cL_law 367 = .ok (.iconst 1, 1) := by decide +kernel
theorem dL_law_368 : decode cL_law 368 = .ok (.iadd, 1) := by decide +kernel
theorem dL_law_369 : decode cL_law 369 = .ok (.iaload, 1) := by decide +kernel
theorem dL_law_370 : decode cL_law 370 = .ok (.aload_n 0, 1) := by decide +kernel
theorem dL_law_371 : decode cL_law 371 = .ok (.iload_n 3, 1) := by decide +kernel
theorem dL_law_372 : decode cL_law 372 = .ok (.iconst 2, 1) := by decide +kernel
theorem dL_law_373 : decode cL_law 373 = .ok (.iadd, 1) := by decide +kernel
theorem dL_law_374 : decode cL_law 374 = .ok (.iaload, 1) := by decide +kernel
theorem dL_law_375 : decode cL_law 375 = .ok (.aload_n 0, 1) := by decide +kernel
theorem dL_law_376 : decode cL_law 376 = .ok (.iload_n 3, 1) := by decide +kernel
theorem dL_law_377 : decode cL_law 377 = .ok (.iconst 3, 1) := by decide +kernel
theorem dL_law_378 : decode cL_law 378 = .ok (.iadd, 1) := by decide +kernel
theorem dL_law_379 : decode cL_law 379 = .ok (.iaload, 1) := by decide +kernel
theorem dL_law_380 : decode cL_law 380 = .ok (.ifCond .eq 7, 3) := by decide +kernel
theorem dL_law_383 : decode cL_law 383 = .ok (.iconst 1, 1) := by decide +kernel
theorem dL_law_384 : decode cL_law 384 = .ok (.goto 4, 3) := by decide +kernel
theorem dL_law_387 : decode cL_law 387 = .ok (.iconst 0, 1) := by decide +kernel
theorem dL_law_388 : decode cL_law 388 = .ok (.invokevirtual 41, 3) := by decide +kernel
theorem dL_law_391 : decode cL_law 391 = .ok (.pop, 1) := by decide +kernel
theorem dL_law_392 : decode cL_law 392 = .ok (.aload_n 2, 1) := by decide +kernel
theorem dL_law_393 : decode cL_law 393 = .ok (.aload_n 0, 1) := by decide +kernel
theorem dL_law_394 : decode cL_law 394 = .ok (.iload_n 3, 1) := by decide +kernel
theorem dL_law_395 : decode cL_law 395 = .ok (.iconst 1, 1) := by decide +kernel
theorem dL_law_396 : decode cL_law 396 = .ok (.iadd, 1) := by decide +kernel
theorem dL_law_397 : decode cL_law 397 = .ok (.iaload, 1) := by decide +kernel
theorem dL_law_398 : decode cL_law 398 = .ok (.aload_n 0, 1) := by decide +kernel
theorem dL_law_399 : decode cL_law 399 = .ok (.iload_n 3, 1) := by decide +kernel
theorem dL_law_400 : decode cL_law 400 = .ok (.iconst 2, 1) := by decide +kernel
theorem dL_law_401 : decode cL_law 401 = .ok (.iadd, 1) := by decide +kernel
theorem dL_law_402 : decode cL_law 402 = .ok (.iaload, 1) := by decide +kernel
theorem dL_law_403 : decode cL_law 403 = .ok (.aload_n 0, 1) := by decide +kernel
theorem dL_law_404 : decode cL_law 404 = .ok (.iload_n 3, 1) := by decide +kernel
theorem dL_law_405 : decode cL_law 405 = .ok (.iconst 3, 1) := by decide +kernel
theorem dL_law_406 : decode cL_law 406 = .ok (.iadd, 1) := by decide +kernel
theorem dL_law_407 : decode cL_law 407 = .ok (.iaload, 1) := by decide +kernel
theorem dL_law_408 : decode cL_law 408 = .ok (.ifCond .eq 7, 3) := by decide +kernel
theorem dL_law_411 : decode cL_law 411 = .ok (.iconst 1, 1) := by decide +kernel
theorem dL_law_412 : decode cL_law 412 = .ok (.goto 4, 3) := by decide +kernel
theorem dL_law_415 : decode cL_law 415 = .ok (.iconst 0, 1) := by decide +kernel
theorem dL_law_416 : decode cL_law 416 = .ok (.invokevirtual 45, 3) := by decide +kernel
theorem dL_law_419 : decode cL_law 419 = .ok (.pop, 1) := by decide +kernel
theorem dL_law_420 : decode cL_law 420 = .ok (.goto 449, 3) := by decide +kernel
theorem dL_law_423 : decode cL_law 423 = .ok (.aload_n 1, 1) := by decide +kernel
theorem dL_law_424 : decode cL_law 424 = .ok (.aload_n 0, 1) := by decide +kernel
theorem dL_law_425 : decode cL_law 425 = .ok (.iload_n 3, 1) := by decide +kernel
theorem dL_law_426 : decode cL_law 426 = .ok (.iconst 1, 1) := by decide +kernel
theorem dL_law_427 : decode cL_law 427 = .ok (.iadd, 1) := by decide +kernel
theorem dL_law_428 : decode cL_law 428 = .ok (.iaload, 1) := by decide +kernel
theorem dL_law_429 : decode cL_law 429 = .ok (.aload_n 0, 1) := by decide +kernel
theorem dL_law_430 : decode cL_law 430 = .ok (.iload_n 3, 1) := by decide +kernel
theorem dL_law_431 : decode cL_law 431 = .ok (.iconst 2, 1) := by decide +kernel
theorem dL_law_432 : decode cL_law 432 = .ok (.iadd, 1) := by decide +kernel
theorem dL_law_433 : decode cL_law 433 = .ok (.iaload, 1) := by decide +kernel
theorem dL_law_434 : decode cL_law 434 = .ok (.invokevirtual 46, 3) := by decide +kernel
theorem dL_law_437 : decode cL_law 437 = .ok (.pop, 1) := by decide +kernel
theorem dL_law_438 : decode cL_law 438 = .ok (.aload_n 2, 1) := by decide +kernel
theorem dL_law_439 : decode cL_law 439 = .ok (.aload_n 0, 1) := by decide +kernel
theorem dL_law_440 : decode cL_law 440 = .ok (.iload_n 3, 1) := by decide +kernel
theorem dL_law_441 : decode cL_law 441 = .ok (.iconst 1, 1) := by decide +kernel
theorem dL_law_442 : decode cL_law 442 = .ok (.iadd, 1) := by decide +kernel
theorem dL_law_443 : decode cL_law 443 = .ok (.iaload, 1) := by decide +kernel
theorem dL_law_444 : decode cL_law 444 = .ok (.aload_n 0, 1) := by decide +kernel
theorem dL_law_445 : decode cL_law 445 = .ok (.iload_n 3, 1) := by decide +kernel
theorem dL_law_446 : decode cL_law 446 = .ok (.iconst 2, 1) := by decide +kernel
theorem dL_law_447 : decode cL_law 447 = .ok (.iadd, 1) := by decide +kernel
theorem dL_law_448 : decode cL_law 448 = .ok (.iaload, 1) := by decide +kernel
theorem dL_law_449 : decode cL_law 449 = .ok (.invokevirtual 49, 3) := by decide +kernel
theorem dL_law_452 : decode cL_law 452 = .ok (.pop, 1) := by decide +kernel
theorem dL_law_453 : decode cL_law 453 = .ok (.goto 416, 3) := by decide +kernel
theorem dL_law_456 : decode cL_law 456 = .ok (.aload_n 1, 1) := by decide +kernel
theorem dL_law_457 : decode cL_law 457 = .ok (.aload_n 0, 1) := by decide +kernel
theorem dL_law_458 : decode cL_law 458 = .ok (.iload_n 3, 1) := by decide +kernel
theorem dL_law_459 : decode cL_law 459 = .ok (.iconst 1, 1) := by decide +kernel
theorem dL_law_460 : decode cL_law 460 = .ok (.iadd, 1) := by decide +kernel
theorem dL_law_461 : decode cL_law 461 = .ok (.iaload, 1) := by decide +kernel
theorem dL_law_462 : decode cL_law 462 = .ok (.invokevirtual 50, 3) := by decide +kernel
theorem dL_law_465 : decode cL_law 465 = .ok (.pop, 1) := by decide +kernel
theorem dL_law_466 : decode cL_law 466 = .ok (.aload_n 2, 1) := by decide +kernel
theorem dL_law_467 : decode cL_law 467 = .ok (.aload_n 0, 1) := by decide +kernel
theorem dL_law_468 : decode cL_law 468 = .ok (.iload_n 3, 1) := by decide +kernel
theorem dL_law_469 : decode cL_law 469 = .ok (.iconst 1, 1) := by decide +kernel
theorem dL_law_470 : decode cL_law 470 = .ok (.iadd, 1) := by decide +kernel
theorem dL_law_471 : decode cL_law 471 = .ok (.iaload, 1) := by decide +kernel
theorem dL_law_472 : decode cL_law 472 = .ok (.invokevirtual 54, 3) := by decide +kernel
theorem dL_law_475 : decode cL_law 475 = .ok (.pop, 1) := by decide +kernel
theorem dL_law_476 : decode cL_law 476 = .ok (.goto 393, 3) := by decide +kernel
theorem dL_law_479 : decode cL_law 479 = .ok (.aload_n 1, 1) := by decide +kernel
theorem dL_law_480 : decode cL_law 480 = .ok (.aload_n 0, 1) := by decide +kernel
theorem dL_law_481 : decode cL_law 481 = .ok (.iload_n 3, 1) := by decide +kernel
theorem dL_law_482 : decode cL_law 482 = .ok (.iconst 1, 1) := by decide +kernel
theorem dL_law_483 : decode cL_law 483 = .ok (.iadd, 1) := by decide +kernel
theorem dL_law_484 : decode cL_law 484 = .ok (.iaload, 1) := by decide +kernel
theorem dL_law_485 : decode cL_law 485 = .ok (.invokevirtual 55, 3) := by decide +kernel
theorem dL_law_488 : decode cL_law 488 = .ok (.pop, 1) := by decide +kernel
theorem dL_law_489 : decode cL_law 489 = .ok (.aload_n 2, 1) := by decide +kernel
theorem dL_law_490 : decode cL_law 490 = .ok (.aload_n 0, 1) := by decide +kernel
theorem dL_law_491 : decode cL_law 491 = .ok (.iload_n 3, 1) := by decide +kernel
theorem dL_law_492 : decode cL_law 492 = .ok (.iconst 1, 1) := by decide +kernel
theorem dL_law_493 : decode cL_law 493 = .ok (.iadd, 1) := by decide +kernel
theorem dL_law_494 : decode cL_law 494 = .ok (.iaload, 1) := by decide +kernel
theorem dL_law_495 : decode cL_law 495 = .ok (.invokevirtual 58, 3) := by decide +kernel
theorem dL_law_498 : decode cL_law 498 = .ok (.pop, 1) := by decide +kernel
theorem dL_law_499 : decode cL_law 499 = .ok (.goto 370, 3) := by decide +kernel
theorem dL_law_502 : decode cL_law 502 = .ok (.aload_n 1, 1) := by decide +kernel
theorem dL_law_503 : decode cL_law 503 = .ok (.aload_n 0, 1) := by decide +kernel
theorem dL_law_504 : decode cL_law 504 = .ok (.iload_n 3, 1) := by decide +kernel
theorem dL_law_505 : decode cL_law 505 = .ok (.iconst 1, 1) := by decide +kernel
theorem dL_law_506 : decode cL_law 506 = .ok (.iadd, 1) := by decide +kernel
theorem dL_law_507 : decode cL_law 507 = .ok (.iaload, 1) := by decide +kernel
theorem dL_law_508 : decode cL_law 508 = .ok (.invokevirtual 59, 3) := by decide +kernel
theorem dL_law_511 : decode cL_law 511 = .ok (.pop, 1) := by decide +kernel
theorem dL_law_512 : decode cL_law 512 = .ok (.aload_n 2, 1) := by decide +kernel
theorem dL_law_513 : decode cL_law 513 = .ok (.aload_n 0, 1) := by decide +kernel
theorem dL_law_514 : decode cL_law 514 = .ok (.iload_n 3, 1) := by decide +kernel
theorem dL_law_515 : decode cL_law 515 = .ok (.iconst 1, 1) := by decide +kernel
theorem dL_law_516 : decode cL_law 516 = .ok (.iadd, 1) := by decide +kernel
theorem dL_law_517 : decode cL_law 517 = .ok (.iaload, 1) := by decide +kernel
theorem dL_law_518 : decode cL_law 518 = .ok (.invokevirtual 62, 3) := by decide +kernel
theorem dL_law_521 : decode cL_law 521 = .ok (.pop, 1) := by decide +kernel
theorem dL_law_522 : decode cL_law 522 = .ok (.goto 347, 3) := by decide +kernel
theorem dL_law_525 : decode cL_law 525 = .ok (.aload_n 1, 1) := by decide +kernel
theorem dL_law_526 : decode cL_law 526 = .ok (.aload_n 0, 1) := by decide +kernel
theorem dL_law_527 : decode cL_law 527 = .ok (.iload_n 3, 1) := by decide +kernel
theorem dL_law_528 : decode cL_law 528 = .ok (.iconst 1, 1) := by decide +kernel
theorem dL_law_529 : decode cL_law 529 = .ok (.iadd, 1) := by decide +kernel
theorem dL_law_530 : decode cL_law 530 = .ok (.iaload, 1) := by decide +kernel
theorem dL_law_531 : decode cL_law 531 = .ok (.invokevirtual 63, 3) := by decide +kernel
theorem dL_law_534 : decode cL_law 534 = .ok (.pop, 1) := by decide +kernel
theorem dL_law_535 : decode cL_law 535 = .ok (.aload_n 2, 1) := by decide +kernel
theorem dL_law_536 : decode cL_law 536 = .ok (.aload_n 0, 1) := by decide +kernel
theorem dL_law_537 : decode cL_law 537 = .ok (.iload_n 3, 1) := by decide +kernel
theorem dL_law_538 : decode cL_law 538 = .ok (.iconst 1, 1) := by decide +kernel
theorem dL_law_539 : decode cL_law 539 = .ok (.iadd, 1) := by decide +kernel
theorem dL_law_540 : decode cL_law 540 = .ok (.iaload, 1) := by decide +kernel
theorem dL_law_541 : decode cL_law 541 = .ok (.invokevirtual 66, 3) := by decide +kernel
theorem dL_law_544 : decode cL_law 544 = .ok (.pop, 1) := by decide +kernel
theorem dL_law_545 : decode cL_law 545 = .ok (.goto 324, 3) := by decide +kernel
theorem dL_law_548 : decode cL_law 548 = .ok (.aload_n 1, 1) := by decide +kernel
theorem dL_law_549 : decode cL_law 549 = .ok (.aload_n 0, 1) := by decide +kernel
theorem dL_law_550 : decode cL_law 550 = .ok (.iload_n 3, 1) := by decide +kernel
theorem dL_law_551 : decode cL_law 551 = .ok (.iconst 1, 1) := by decide +kernel
theorem dL_law_552 : decode cL_law 552 = .ok (.iadd, 1) := by decide +kernel
theorem dL_law_553 : decode cL_law 553 = .ok (.iaload, 1) := by decide +kernel
theorem dL_law_554 : decode cL_law 554 = .ok (.invokevirtual 67, 3) := by decide +kernel
theorem dL_law_557 : decode cL_law 557 = .ok (.pop, 1) := by decide +kernel
theorem dL_law_558 : decode cL_law 558 = .ok (.aload_n 2, 1) := by decide +kernel
theorem dL_law_559 : decode cL_law 559 = .ok (.aload_n 0, 1) := by decide +kernel
theorem dL_law_560 : decode cL_law 560 = .ok (.iload_n 3, 1) := by decide +kernel
theorem dL_law_561 : decode cL_law 561 = .ok (.iconst 1, 1) := by decide +kernel
theorem dL_law_562 : decode cL_law 562 = .ok (.iadd, 1) := by decide +kernel
theorem dL_law_563 : decode cL_law 563 = .ok (.iaload, 1) := by decide +kernel
theorem dL_law_564 : decode cL_law 564 = .ok (.invokevirtual 70, 3) := by decide +kernel
theorem dL_law_567 : decode cL_law 567 = .ok (.pop, 1) := by decide +kernel
theorem dL_law_568 : decode cL_law 568 = .ok (.goto 301, 3) := by decide +kernel
theorem dL_law_571 : decode cL_law 571 = .ok (.aload_n 1, 1) := by decide +kernel
theorem dL_law_572 : decode cL_law 572 = .ok (.aload_n 0, 1) := by decide +kernel
theorem dL_law_573 : decode cL_law 573 = .ok (.iload_n 3, 1) := by decide +kernel
theorem dL_law_574 : decode cL_law 574 = .ok (.iconst 1, 1) := by decide +kernel
theorem dL_law_575 : decode cL_law 575 = .ok (.iadd, 1) := by decide +kernel
theorem dL_law_576 : decode cL_law 576 = .ok (.iaload, 1) := by decide +kernel
theorem dL_law_577 : decode cL_law 577 = .ok (.invokevirtual 71, 3) := by decide +kernel
theorem dL_law_580 : decode cL_law 580 = .ok (.pop, 1) := by decide +kernel
theorem dL_law_581 : decode cL_law 581 = .ok (.aload_n 2, 1) := by decide +kernel
theorem dL_law_582 : decode cL_law 582 = .ok (.aload_n 0, 1) := by decide +kernel
theorem dL_law_583 : decode cL_law 583 = .ok (.iload_n 3, 1) := by decide +kernel
theorem dL_law_584 : decode cL_law 584 = .ok (.iconst 1, 1) := by decide +kernel
theorem dL_law_585 : decode cL_law 585 = .ok (.iadd, 1) := by decide +kernel
theorem dL_law_586 : decode cL_law 586 = .ok (.iaload, 1) := by decide +kernel
theorem dL_law_587 : decode cL_law 587 = .ok (.invokevirtual 74, 3) := by decide +kernel
theorem dL_law_590 : decode cL_law 590 = .ok (.pop, 1) := by decide +kernel
theorem dL_law_591 : decode cL_law 591 = .ok (.goto 278, 3) := by decide +kernel
theorem dL_law_594 : decode cL_law 594 = .ok (.aload_n 1, 1) := by decide +kernel
theorem dL_law_595 : decode cL_law 595 = .ok (.aload_n 0, 1) := by decide +kernel
theorem dL_law_596 : decode cL_law 596 = .ok (.iload_n 3, 1) := by decide +kernel
theorem dL_law_597 : decode cL_law 597 = .ok (.iconst 1, 1) := by decide +kernel
theorem dL_law_598 : decode cL_law 598 = .ok (.iadd, 1) := by decide +kernel
theorem dL_law_599 : decode cL_law 599 = .ok (.iaload, 1) := by decide +kernel
theorem dL_law_600 : decode cL_law 600 = .ok (.invokevirtual 75, 3) := by decide +kernel
end
section
theorem dL_law_603 : decode cL_law 603 = .ok (.pop, 1) := by decide +kernel
theorem dL_law_604 : decode cL_law 604 = .ok (.aload_n 2, 1) := by decide +kernel
theorem dL_law_605 : decode cL_law 605 = .ok (.aload_n 0, 1) := by decide +kernel
theorem dL_law_606 : decode cL_law 606 = .ok (.iload_n 3, 1) := by decide +kernel
theorem dL_law_607 : decode cL_law 607 = .ok (.iconst 1, 1) := by decide +kernel
theorem dL_law_608 : decode cL_law 608 = .ok (.iadd, 1) := by decide +kernel
theorem dL_law_609 : decode cL_law 609 = .ok (.iaload, 1) := by decide +kernel
theorem dL_law_610 : decode cL_law 610 = .ok (.invokevirtual 78, 3) := by decide +kernel
theorem dL_law_613 : decode cL_law 613 = .ok (.pop, 1) := by decide +kernel
theorem dL_law_614 : decode cL_law 614 = .ok (.goto 255, 3) := by decide +kernel
theorem dL_law_617 : decode cL_law 617 = .ok (.aload_n 1, 1) := by decide +kernel
theorem dL_law_618 : decode cL_law 618 = .ok (.aload_n 0, 1) := by decide +kernel
theorem dL_law_619 : decode cL_law 619 = .ok (.iload_n 3, 1) := by decide +kernel
theorem dL_law_620 : decode cL_law 620 = .ok (.iconst 1, 1) := by decide +kernel
theorem dL_law_621 : decode cL_law 621 = .ok (.iadd, 1) := by decide +kernel
theorem dL_law_622 : decode cL_law 622 = .ok (.iaload, 1) := by decide +kernel
theorem dL_law_623 : decode cL_law 623 = .ok (.invokevirtual 79, 3) := by decide +kernel
theorem dL_law_626 : decode cL_law 626 = .ok (.pop, 1) := by decide +kernel
theorem dL_law_627 : decode cL_law 627 = .ok (.aload_n 2, 1) := by decide +kernel
theorem dL_law_628 : decode cL_law 628 = .ok (.aload_n 0, 1) := by decide +kernel
theorem dL_law_629 : decode cL_law 629 = .ok (.iload_n 3, 1) := by decide +kernel
theorem dL_law_630 : decode cL_law 630 = .ok (.iconst 1, 1) := by decide +kernel
theorem dL_law_631 : decode cL_law 631 = .ok (.iadd, 1) := by decide +kernel
theorem dL_law_632 : decode cL_law 632 = .ok (.iaload, 1) := by decide +kernel
theorem dL_law_633 : decode cL_law 633 = .ok (.invokevirtual 82, 3) := by decide +kernel
theorem dL_law_636 : decode cL_law 636 = .ok (.pop, 1) := by decide +kernel
theorem dL_law_637 : decode cL_law 637 = .ok (.goto 232, 3) := by decide +kernel
theorem dL_law_640 : decode cL_law 640 = .ok (.aload_n 1, 1) := by decide +kernel
theorem dL_law_641 : decode cL_law 641 = .ok (.invokevirtual 83, 3) := by decide +kernel
theorem dL_law_644 : decode cL_law 644 = .ok (.pop, 1) := by decide +kernel
theorem dL_law_645 : decode cL_law 645 = .ok (.aload_n 2, 1) := by decide +kernel
theorem dL_law_646 : decode cL_law 646 = .ok (.invokevirtual 87, 3) := by decide +kernel
theorem dL_law_649 : decode cL_law 649 = .ok (.pop, 1) := by decide +kernel
theorem dL_law_650 : decode cL_law 650 = .ok (.goto 219, 3) := by decide +kernel
theorem dL_law_653 : decode cL_law 653 = .ok (.aload_n 1, 1) := by decide +kernel
theorem dL_law_654 : decode cL_law 654 = .ok (.aload_n 0, 1) := by decide +kernel
theorem dL_law_655 : decode cL_law 655 = .ok (.iload_n 3, 1) := by decide +kernel
theorem dL_law_656 : decode cL_law 656 = .ok (.iconst 1, 1) := by decide +kernel
theorem dL_law_657 : decode cL_law 657 = .ok (.iadd, 1) := by decide +kernel
theorem dL_law_658 : decode cL_law 658 = .ok (.iaload, 1) := by decide +kernel
theorem dL_law_659 : decode cL_law 659 = .ok (.invokevirtual 88, 3) := by decide +kernel
theorem dL_law_662 : decode cL_law 662 = .ok (.pop, 1) := by decide +kernel
theorem dL_law_663 : decode cL_law 663 = .ok (.aload_n 2, 1) := by decide +kernel
theorem dL_law_664 : decode cL_law 664 = .ok (.aload_n 0, 1) := by decide +kernel
theorem dL_law_665 : decode cL_law 665 = .ok (.iload_n 3, 1) := by decide +kernel
theorem dL_law_666 : decode cL_law 666 = .ok (.iconst 1, 1) := by decide +kernel
theorem dL_law_667 : decode cL_law 667 = .ok (.iadd, 1) := by decide +kernel
theorem dL_law_668 : decode cL_law 668 = .ok (.iaload, 1) := by decide +kernel
theorem dL_law_669 : decode cL_law 669 = .ok (.invokevirtual 91, 3) := by decide +kernel
theorem dL_law_672 : decode cL_law 672 = .ok (.pop, 1) := by decide +kernel
theorem dL_law_673 : decode cL_law 673 = .ok (.goto 196, 3) := by decide +kernel
theorem dL_law_676 : decode cL_law 676 = .ok (.aload_n 1, 1) := by decide +kernel
theorem dL_law_677 : decode cL_law 677 = .ok (.aload_n 0, 1) := by decide +kernel
theorem dL_law_678 : decode cL_law 678 = .ok (.iload_n 3, 1) := by decide +kernel
theorem dL_law_679 : decode cL_law 679 = .ok (.iconst 1, 1) := by decide +kernel
theorem dL_law_680 : decode cL_law 680 = .ok (.iadd, 1) := by decide +kernel
theorem dL_law_681 : decode cL_law 681 = .ok (.iaload, 1) := by decide +kernel
theorem dL_law_682 : decode cL_law 682 = .ok (.ifCond .eq 7, 3) := by decide +kernel
theorem dL_law_685 : decode cL_law 685 = .ok (.iconst 1, 1) := by decide +kernel
theorem dL_law_686 : decode cL_law 686 = .ok (.goto 4, 3) := by decide +kernel
theorem dL_law_689 : decode cL_law 689 = .ok (.iconst 0, 1) := by decide +kernel
theorem dL_law_690 : decode cL_law 690 = .ok (.invokevirtual 92, 3) := by decide +kernel
theorem dL_law_693 : decode cL_law 693 = .ok (.pop, 1) := by decide +kernel
theorem dL_law_694 : decode cL_law 694 = .ok (.aload_n 2, 1) := by decide +kernel
theorem dL_law_695 : decode cL_law 695 = .ok (.aload_n 0, 1) := by decide +kernel
theorem dL_law_696 : decode cL_law 696 = .ok (.iload_n 3, 1) := by decide +kernel
theorem dL_law_697 : decode cL_law 697 = .ok (.iconst 1, 1) := by decide +kernel
theorem dL_law_698 : decode cL_law 698 = .ok (.iadd, 1) := by decide +kernel
theorem dL_law_699 : decode cL_law 699 = .ok (.iaload, 1) := by decide +kernel
theorem dL_law_700 : decode cL_law 700 = .ok (.ifCond .eq 7, 3) := by decide +kernel
theorem dL_law_703 : decode cL_law 703 = .ok (.iconst 1, 1) := by decide +kernel
theorem dL_law_704 : decode cL_law 704 = .ok (.goto 4, 3) := by decide +kernel
theorem dL_law_707 : decode cL_law 707 = .ok (.iconst 0, 1) := by decide +kernel
theorem dL_law_708 : decode cL_law 708 = .ok (.invokevirtual 96, 3) := by decide +kernel
theorem dL_law_711 : decode cL_law 711 = .ok (.pop, 1) := by decide +kernel
theorem dL_law_712 : decode cL_law 712 = .ok (.goto 157, 3) := by decide +kernel
theorem dL_law_715 : decode cL_law 715 = .ok (.aload_n 1, 1) := by decide +kernel
theorem dL_law_716 : decode cL_law 716 = .ok (.invokevirtual 97, 3) := by decide +kernel
theorem dL_law_719 : decode cL_law 719 = .ok (.pop, 1) := by decide +kernel
theorem dL_law_720 : decode cL_law 720 = .ok (.aload_n 2, 1) := by decide +kernel
theorem dL_law_721 : decode cL_law 721 = .ok (.invokevirtual 100, 3) := by decide +kernel
theorem dL_law_724 : decode cL_law 724 = .ok (.pop, 1) := by decide +kernel
theorem dL_law_725 : decode cL_law 725 = .ok (.goto 144, 3) := by decide +kernel
theorem dL_law_728 : decode cL_law 728 = .ok (.aload_n 1, 1) := by decide +kernel
theorem dL_law_729 : decode cL_law 729 = .ok (.aload_n 0, 1) := by decide +kernel
theorem dL_law_730 : decode cL_law 730 = .ok (.iload_n 3, 1) := by decide +kernel
theorem dL_law_731 : decode cL_law 731 = .ok (.iconst 1, 1) := by decide +kernel
theorem dL_law_732 : decode cL_law 732 = .ok (.iadd, 1) := by decide +kernel
theorem dL_law_733 : decode cL_law 733 = .ok (.iaload, 1) := by decide +kernel
theorem dL_law_734 : decode cL_law 734 = .ok (.aload_n 0, 1) := by decide +kernel
theorem dL_law_735 : decode cL_law 735 = .ok (.iload_n 3, 1) := by decide +kernel
theorem dL_law_736 : decode cL_law 736 = .ok (.iconst 2, 1) := by decide +kernel
theorem dL_law_737 : decode cL_law 737 = .ok (.iadd, 1) := by decide +kernel
theorem dL_law_738 : decode cL_law 738 = .ok (.iaload, 1) := by decide +kernel
theorem dL_law_739 : decode cL_law 739 = .ok (.aload_n 0, 1) := by decide +kernel
theorem dL_law_740 : decode cL_law 740 = .ok (.iload_n 3, 1) := by decide +kernel
theorem dL_law_741 : decode cL_law 741 = .ok (.iconst 3, 1) := by decide +kernel
theorem dL_law_742 : decode cL_law 742 = .ok (.iadd, 1) := by decide +kernel
theorem dL_law_743 : decode cL_law 743 = .ok (.iaload, 1) := by decide +kernel
theorem dL_law_744 : decode cL_law 744 = .ok (.invokevirtual 101, 3) := by decide +kernel
theorem dL_law_747 : decode cL_law 747 = .ok (.pop, 1) := by decide +kernel
theorem dL_law_748 : decode cL_law 748 = .ok (.aload_n 2, 1) := by decide +kernel
theorem dL_law_749 : decode cL_law 749 = .ok (.aload_n 0, 1) := by decide +kernel
theorem dL_law_750 : decode cL_law 750 = .ok (.iload_n 3, 1) := by decide +kernel
theorem dL_law_751 : decode cL_law 751 = .ok (.iconst 1, 1) := by decide +kernel
theorem dL_law_752 : decode cL_law 752 = .ok (.iadd, 1) := by decide +kernel
theorem dL_law_753 : decode cL_law 753 = .ok (.iaload, 1) := by decide +kernel
theorem dL_law_754 : decode cL_law 754 = .ok (.aload_n 0, 1) := by decide +kernel
theorem dL_law_755 : decode cL_law 755 = .ok (.iload_n 3, 1) := by decide +kernel
theorem dL_law_756 : decode cL_law 756 = .ok (.iconst 2, 1) := by decide +kernel
theorem dL_law_757 : decode cL_law 757 = .ok (.iadd, 1) := by decide +kernel
theorem dL_law_758 : decode cL_law 758 = .ok (.iaload, 1) := by decide +kernel
theorem dL_law_759 : decode cL_law 759 = .ok (.aload_n 0, 1) := by decide +kernel
theorem dL_law_760 : decode cL_law 760 = .ok (.iload_n 3, 1) := by decide +kernel
theorem dL_law_761 : decode cL_law 761 = .ok (.iconst 3, 1) := by decide +kernel
theorem dL_law_762 : decode cL_law 762 = .ok (.iadd, 1) := by decide +kernel
theorem dL_law_763 : decode cL_law 763 = .ok (.iaload, 1) := by decide +kernel
theorem dL_law_764 : decode cL_law 764 = .ok (.invokevirtual 105, 3) := by decide +kernel
theorem dL_law_767 : decode cL_law 767 = .ok (.pop, 1) := by decide +kernel
theorem dL_law_768 : decode cL_law 768 = .ok (.goto 101, 3) := by decide +kernel
theorem dL_law_771 : decode cL_law 771 = .ok (.aload_n 1, 1) := by decide +kernel
theorem dL_law_772 : decode cL_law 772 = .ok (.invokevirtual 106, 3) := by decide +kernel
theorem dL_law_775 : decode cL_law 775 = .ok (.pop, 1) := by decide +kernel
theorem dL_law_776 : decode cL_law 776 = .ok (.aload_n 2, 1) := by decide +kernel
theorem dL_law_777 : decode cL_law 777 = .ok (.invokevirtual 109, 3) := by decide +kernel
theorem dL_law_780 : decode cL_law 780 = .ok (.pop, 1) := by decide +kernel
theorem dL_law_781 : decode cL_law 781 = .ok (.goto 88, 3) := by decide +kernel
theorem dL_law_784 : decode cL_law 784 = .ok (.aload_n 1, 1) := by decide +kernel
theorem dL_law_785 : decode cL_law 785 = .ok (.invokevirtual 110, 3) := by decide +kernel
theorem dL_law_788 : decode cL_law 788 = .ok (.pop, 1) := by decide +kernel
theorem dL_law_789 : decode cL_law 789 = .ok (.aload_n 2, 1) := by decide +kernel
theorem dL_law_790 : decode cL_law 790 = .ok (.invokevirtual 113, 3) := by decide +kernel
theorem dL_law_793 : decode cL_law 793 = .ok (.pop, 1) := by decide +kernel
theorem dL_law_794 : decode cL_law 794 = .ok (.goto 75, 3) := by decide +kernel
theorem dL_law_797 : decode cL_law 797 = .ok (.aload_n 1, 1) := by decide +kernel
theorem dL_law_798 : decode cL_law 798 = .ok (.aload_n 0, 1) := by decide +kernel
theorem dL_law_799 : decode cL_law 799 = .ok (.iload_n 3, 1) := by decide +kernel
theorem dL_law_800 : decode cL_law 800 = .ok (.iconst 1, 1) := by decide +kernel
theorem dL_law_801 : decode cL_law 801 = .ok (.iadd, 1) := by decide +kernel
theorem dL_law_802 : decode cL_law 802 = .ok (.iaload, 1) := by decide +kernel
theorem dL_law_803 : decode cL_law 803 = .ok (.invokevirtual 114, 3) := by decide +kernel
theorem dL_law_806 : decode cL_law 806 = .ok (.pop, 1) := by decide +kernel
theorem dL_law_807 : decode cL_law 807 = .ok (.aload_n 2, 1) := by decide +kernel
theorem dL_law_808 : decode cL_law 808 = .ok (.aload_n 0, 1) := by decide +kernel
theorem dL_law_809 : decode cL_law 809 = .ok (.iload_n 3, 1) := by decide +kernel
theorem dL_law_810 : decode cL_law 810 = .ok (.iconst 1, 1) := by decide +kernel
theorem dL_law_811 : decode cL_law 811 = .ok (.iadd, 1) := by decide +kernel
theorem dL_law_812 : decode cL_law 812 = .ok (.iaload, 1) := by decide +kernel
theorem dL_law_813 : decode cL_law 813 = .ok (.invokevirtual 117, 3) := by decide +kernel
theorem dL_law_816 : decode cL_law 816 = .ok (.pop, 1) := by decide +kernel
theorem dL_law_817 : decode cL_law 817 = .ok (.goto 52, 3) := by decide +kernel
theorem dL_law_820 : decode cL_law 820 = .ok (.aload_n 1, 1) := by decide +kernel
theorem dL_law_821 : decode cL_law 821 = .ok (.invokevirtual 118, 3) := by decide +kernel
theorem dL_law_824 : decode cL_law 824 = .ok (.pop, 1) := by decide +kernel
theorem dL_law_825 : decode cL_law 825 = .ok (.aload_n 2, 1) := by decide +kernel
theorem dL_law_826 : decode cL_law 826 = .ok (.invokevirtual 121, 3) := by decide +kernel
theorem dL_law_829 : decode cL_law 829 = .ok (.pop, 1) := by decide +kernel
theorem dL_law_830 : decode cL_law 830 = .ok (.goto 39, 3) := by decide +kernel
theorem dL_law_833 : decode cL_law 833 = .ok (.aload_n 1, 1) := by decide +kernel
theorem dL_law_834 : decode cL_law 834 = .ok (.aload_n 0, 1) := by decide +kernel
theorem dL_law_835 : decode cL_law 835 = .ok (.iload_n 3, 1) := by decide +kernel
theorem dL_law_836 : decode cL_law 836 = .ok (.iconst 1, 1) := by decide +kernel
theorem dL_law_837 : decode cL_law 837 = .ok (.iadd, 1) := by decide +kernel
theorem dL_law_838 : decode cL_law 838 = .ok (.iaload, 1) := by decide +kernel
theorem dL_law_839 : decode cL_law 839 = .ok (.invokevirtual 122, 3) := by decide +kernel
theorem dL_law_842 : decode cL_law 842 = .ok (.pop, 1) := by decide +kernel
theorem dL_law_843 : decode cL_law 843 = .ok (.aload_n 2, 1) := by decide +kernel
theorem dL_law_844 : decode cL_law 844 = .ok (.aload_n 0, 1) := by decide +kernel
theorem dL_law_845 : decode cL_law 845 = .ok (.iload_n 3, 1) := by decide +kernel
theorem dL_law_846 : decode cL_law 846 = .ok (.iconst 1, 1) := by decide +kernel
theorem dL_law_847 : decode cL_law 847 = .ok (.iadd, 1) := by decide +kernel
theorem dL_law_848 : decode cL_law 848 = .ok (.iaload, 1) := by decide +kernel
theorem dL_law_849 : decode cL_law 849 = .ok (.invokevirtual 125, 3) := by decide +kernel
theorem dL_law_852 : decode cL_law 852 = .ok (.pop, 1) := by decide +kernel
theorem dL_law_853 : decode cL_law 853 = .ok (.goto 16, 3) := by decide +kernel
theorem dL_law_856 : decode cL_law 856 = .ok (.aload_n 1, 1) := by decide +kernel
theorem dL_law_857 : decode cL_law 857 = .ok (.invokevirtual 126, 3) := by decide +kernel
theorem dL_law_860 : decode cL_law 860 = .ok (.pop, 1) := by decide +kernel
theorem dL_law_861 : decode cL_law 861 = .ok (.aload_n 2, 1) := by decide +kernel
theorem dL_law_862 : decode cL_law 862 = .ok (.invokevirtual 129, 3) := by decide +kernel
theorem dL_law_865 : decode cL_law 865 = .ok (.pop, 1) := by decide +kernel
theorem dL_law_866 : decode cL_law 866 = .ok (.goto 3, 3) := by decide +kernel
theorem dL_law_869 : decode cL_law 869 = .ok (.iinc 3 5, 3) := by decide +kernel
theorem dL_law_872 : decode cL_law 872 = .ok (.goto (-854), 3) := by decide +kernel
theorem dL_law_875 : decode cL_law 875 = .ok (.iconst 1, 1) := by decide +kernel
theorem dL_law_876 : decode cL_law 876 = .ok (.ireturn, 1) := by decide +kernel
abbrev vwCl : List vw_C := [(RX0, TX0, 11), (RX1, TX1, 11), (RX2, TX2, 5), (RX3, TX3, 14), (RX4, TX4, 5), (RX5, TX5, 33)]
end
section
/-! base: uniform contracts, and calls by them (my own rows) -/
section BASE
abbrev CtI (l : Launch) (D : va_G) (cl : List vw_C) (tys : List (ClassId × FieldType)) (y : MethodName) (ws : List Cond) (rm : Room) (av : List Value) (w : va_W) {S : Type} (post : Int32 → S → Prop) (wn : S → va_W) (mc ms : Nat) : Prop :=
  ∀ sz : Nat, Met l y ws rm (va_Pc av (fun U => U.heap.size = sz ∧ va_P D cl w U.heap ∧ va_K D cl tys U ∧ va_D (fun _ => True) w)) (va_Qi post (fun u t => va_P D cl (wn u) t.heap ∧ va_K D cl tys t ∧ va_D (va_A w sz) (wn u)) (va_A w sz)) mc ms (va_A w sz)
abbrev CtV (l : Launch) (D : va_G) (cl : List vw_C) (tys : List (ClassId × FieldType)) (y : MethodName) (ws : List Cond) (rm : Room) (av : List Value) (w : va_W) {S : Type} (post : S → Prop) (wn : S → va_W) (mc ms : Nat) : Prop :=
  ∀ sz : Nat, Met l y ws rm (va_Pc av (fun U => U.heap.size = sz ∧ va_P D cl w U.heap ∧ va_K D cl tys U ∧ va_D (fun _ => True) w)) (va_Qv post (fun u t => va_P D cl (wn u) t.heap ∧ va_K D cl tys t ∧ va_D (va_A w sz) (wn u)) (va_A w sz)) mc ms (va_A w sz)
variable {p : Program} {l : Launch} {e : Env} {R : Room} {s : State} {m : MethodId} {args : Array Value} {below : List Frame} {meth : Method} {c : Code} {H : Heap} {locs : List Loc} {cells slots : Nat} {Q : State → Prop}
variable {cc bytes : ByteArray} {pc nL maxL index n mc ms : Nat} {ls : Array Slot} {rest st0 : List Value} {D : va_G} {cl : List vw_C} {A : Nat → Prop} {tys : List (ClassId × FieldType)} {ws w wr : va_W} {S : Type}
variable {y : MethodName} {ret : Option FieldType} {wd wd' Ts : List Cond} {rm : Room} {own C : String} {b : Addr} {As av : List Value} {ty : FieldType} {lv : List (Nat × Value)}
theorem ct_I {post : Int32 → S → Prop} {wn : S → va_W} (hy : plainName y.cls = true) (hw : wd = Cond.code y cc maxL (some ty) :: wd') (ho : y.cls = own) (hav : (lg_sl av).length ≤ maxL) (hlv : lv_args 0 av = lv)
    (body : ∀ (p : Program) (e : Env) (s : State) (m : MethodId) (args : Array Value) (below : List Frame) (meth : Method) (c : Code) (A : Nat → Prop) (Q : State → Prop) (ls : Array Slot), CallFix p m c cc maxL s args wd own → va_K D cl tys s → va_P D cl w s.heap → va_D A w → (∀ q, s.heap.size ≤ q → A q) → lv_has ls maxL lv →
      (∀ (v : Int32) (u : S) (H : Heap) (locs : List Loc) (pc : Nat) (ls : Array Slot), narrow ty (.int v) = .int v → decode cc pc = .ok (.ireturn, 1) → post v u → va_P D cl (wn u) H → va_D A (wn u) → va_S A s.heap H locs → W p l e rm s m args below meth c H locs mc ms Q (F0 m pc ls [.int v])) →
      W p l e rm s m args below meth c s.heap [] 0 0 Q (F0 m 0 ls [])) : CtI l D cl tys y wd rm av w post wn mc ms := by
  intro sz
  refine Met.ofW (cc := cc) (maxL := maxL) (ret := some ty) hy hw ?_
  intro p e s m args below meth c s₁ B hml hv
  obtain ⟨rfl, hsz, hP, hK, hD0⟩ := hv
  subst hsz
  have hts := atoms_spec (ws := wd) B.pre
  have hown : s.vm.findClass own = some m.cls := ho ▸ findClass_of_methodNamed B.named
  have hl := lv_entry av (n := maxL) hav
  rw [lg_entry_eq]
  rw [hlv] at hl
  refine body p e s m av.toArray below meth c (va_A w s.heap.size) _ _ ⟨B.exec, B.bytes, hml, hown, hts⟩ hK hP hD0.self (fun q h => Or.inr h) hl ?_
  intro v u H locs pc ls hn hdg hpost hP hD hS
  exact W.zret B.exec B.bytes B.returns hn (fun t ht hW => ⟨⟨v, u, rfl, hpost, by rw [ht]; exact hP, va_K.moved hW.alike hK, hD⟩, hS.F ht⟩) hS.2.2 hdg B.notSynchronized
theorem ct_V {post : S → Prop} {wn : S → va_W} (hy : plainName y.cls = true) (hw : wd = Cond.code y cc maxL none :: wd') (ho : y.cls = own) (hav : (lg_sl av).length ≤ maxL) (hlv : lv_args 0 av = lv)
    (body : ∀ (p : Program) (e : Env) (s : State) (m : MethodId) (args : Array Value) (below : List Frame) (meth : Method) (c : Code) (A : Nat → Prop) (Q : State → Prop) (ls : Array Slot), meth.name = y.name → CallFix p m c cc maxL s args wd own → va_K D cl tys s → va_P D cl w s.heap → va_D A w → (∀ q, s.heap.size ≤ q → A q) → lv_has ls maxL lv →
      (∀ (u : S) (H : Heap) (locs : List Loc) (pc : Nat) (ls : Array Slot), decode cc pc = .ok (.return_, 1) → post u → va_P D cl (wn u) H → va_D A (wn u) → va_S A s.heap H locs → W p l e rm s m args below meth c H locs mc ms Q (F0 m pc ls [])) →
      W p l e rm s m args below meth c s.heap [] 0 0 Q (F0 m 0 ls [])) : CtV l D cl tys y wd rm av w post wn mc ms := by
  intro sz
  refine Met.ofW (cc := cc) (maxL := maxL) (ret := none) hy hw ?_
  intro p e s m args below meth c s₁ B hml hv
  obtain ⟨rfl, hsz, hP, hK, hD0⟩ := hv
  subst hsz
  have hts := atoms_spec (ws := wd) B.pre
  have hown : s.vm.findClass own = some m.cls := ho ▸ findClass_of_methodNamed B.named
  have hl := lv_entry av (n := maxL) hav
  rw [lg_entry_eq]
  rw [hlv] at hl
  refine body p e s m av.toArray below meth c (va_A w s.heap.size) _ _ (name_of_methodNamed B.named B.method).1 ⟨B.exec, B.bytes, hml, hown, hts⟩ hK hP hD0.self (fun q h => Or.inr h) hl ?_
  intro u H locs pc ls hdg hpost hP hD hS
  exact W.vret B.exec B.bytes B.returns (fun t ht hW => ⟨⟨u, rfl, hpost, by rw [ht]; exact hP, va_K.moved hW.alike hK, hD⟩, hS.F ht⟩) hS.2.2 hdg B.notSynchronized
theorem cl_sub {ws w : va_W} {isC : List Nat} (h : isC.map (fun i => ws[i]?) = w.map some) : isC.filterMap (fun i => ws[i]?) = w := by
  induction isC generalizing w with
  | nil => cases w with
    | nil => rfl
    | cons a t => simp at h
  | cons i t ih => cases w with
    | nil => simp at h
    | cons a r =>
      simp only [List.map_cons, List.cons.injEq] at h
      rw [List.filterMap_cons, h.1]
      exact congrArg (a :: ·) (ih h.2)
theorem cl_all (hD : va_D A ws) (hS : va_S A s.heap H locs) (hA : ∀ q, s.heap.size ≤ q → A q) : ∀ q, va_A ws H.size q → A q := fun q h => h.elim (fun ⟨k, e, hk⟩ => hD.2 k _ hk) (fun h => hA q (Nat.le_trans hS.1 h))
theorem cl_arr (h : (Cond.arrayClass ty).before args s = true) : ∃ cA, ArrOfT s cA ty ∧ s.vm.findClass ("[" ++ ty.toString) = some cA := by
  obtain ⟨cB, kB, comp, hcB, hkB, hkind⟩ := Cond.arrayClass_spec h
  exact ⟨cB, fun n z => ⟨fun k h => (by cases h), kB, hkB, comp, hkind⟩, hcB⟩
theorem cl_newa (hexec : p.tables.exec = Jvm.exec) (hb : c.code = cc) {atype : ArrayType} (harr : (Cond.arrayClass (newarray.typeOf atype)).before args s = true) (hty : newarray.typeOf atype = ty) (hra : ∀ cA, va_RA s cA ty → s.vm.findClass ("[" ++ ty.toString) = some cA) (t0 : Nat) {cI : ClassId} (ht : tys[t0]? = some (cI, ty)) (hK : va_K D cl tys s) (hP : va_P D cl ws H) (hD : va_D A ws) (hS : va_S A s.heap H locs) (hA : ∀ q, s.heap.size ≤ q → A q)
    {n : Int32} {N' : Nat} {a0 : vp_A} (ha : ∀ cA : ClassId, vp_cell cA a0 = arrV cA N' (fun _ => defaultValue ty)) (hn : ¬ n < 0) (hN : n.toNatClampNeg = N') (hbytes : N' * componentBytes ty ≤ 536870912) (hcells : cells + 1 ≤ R.cells) (hslots : slots + N' ≤ R.slots) (hdg : decode cc pc = .ok (.newarray atype, 2))
    (kk : ∀ (q : Nat) (H1 : Heap), va_P D cl (ws ++ [(q, .inl (cI, a0))]) H1 → va_D A (ws ++ [(q, .inl (cI, a0))]) → va_S A s.heap H1 locs →
      W p l e R s m args below meth c H1 locs (cells + 1) (slots + N') Q (F0 m (pc + 2) ls (.ref q :: rest))) : W p l e R s m args below meth c H locs cells slots Q (F0 m pc ls (.int n :: rest)) := by
  refine va_newa hexec hb harr hty hK hP hD hS hA ha hn hN hbytes hcells hslots hdg (fun q cA H1 hK2 hP2 hD2 hS2 => ?_)
  have e1 := hra _ (hK.2 t0 _ ht).2
  have e2 := hra _ (hK2.2 tys.length (cA, ty) (by simp)).2
  rw [e1] at e2
  obtain rfl := Option.some.inj e2
  exact kk q H1 hP2 hD2 hS2

theorem cw_Vi {post : Int32 → S → Prop} {wn : S → va_W} (hC : CtI l D cl tys y wd rm (.ref b :: As) ws post wn mc ms) (fix : CallFix p m c cc nL s args Ts own) (cw : CallW R s args own C index y bytes maxL ret wd rm mc ms n)
    (hK : va_K D cl tys s) (hP : va_P D cl ws H) (hD : va_D A ws) (hS : va_S A s.heap H locs) (hA : ∀ q, s.heap.size ≤ q → A q) 
    (q0 : Nat) {ci : Nat} {q : vw_C} {fs : List Value} (hc : cl[ci]? = some q) (hqC : q.1 = C) (he : ws[q0]? = some (b, .inr (ci, fs))) (hlen : As.length = n) (hls : ls.size = nL) (hst : st0 = As.reverse ++ .ref b :: rest) (hroom : (rest.map fun v => v.category).sum ≤ 8) (hdg : decode cc pc = .ok (.invokevirtual index, 3)) (hf : cells + mc ≤ R.cells ∧ slots + ms ≤ R.slots)
    (kk : ∀ (r : Int32) (u : S) (H1 : Heap) (locs1 : List Loc), post r u → va_P D cl (wn u) H1 → va_D A (wn u) → va_S A s.heap H1 locs1 → W p l e R s m args below meth c H1 locs1 (cells + mc) (slots + ms) Q (F0 m (pc + 3) ls (.int r :: rest))) :
    W p l e R s m args below meth c H locs cells slots Q (F0 m pc ls st0) := by
  subst hqC
  have hPc := hP
  have hDc := hD
  have hFc := cl_all hD hS hA
  refine va_calli (va_runV (As := As) (rest := rest) fix (hC H.size) cw ⟨fun a U g mk q => by obtain ⟨q0, q1, qP, qK, qD⟩ := q; exact ⟨q0, q1, qP, va_K.moved (u := U) (U := U.calling g mk a) (Vm.Alike.refl U.vm) qK, qD⟩, va_recv hK hPc hc he, fun U hU hW => ⟨rfl, by rw [hU], by rw [hU]; exact hPc, va_K.moved hW.alike hK, hDc.weaken (fun _ _ _ _ => trivial)⟩⟩ rfl hlen hls hst (lv_room hroom) hdg hf) hS (fun q _ h => hFc q h) hFc (fun r u t H1 locs1 ht hvm hw hB hz1 hk1 hS1 => ?_)
  obtain ⟨hP1, hK1, hD1⟩ := hB
  rw [ht] at hP1
  exact kk r u H1 locs1 hw hP1 (hD1.weaken (fun _ _ _ h => hFc _ h)) hS1
theorem cw_Vv {post : S → Prop} {wn : S → va_W} (hC : CtV l D cl tys y wd rm (.ref b :: As) ws post wn mc ms) (fix : CallFix p m c cc nL s args Ts own) (cw : CallW R s args own C index y bytes maxL ret wd rm mc ms n)
    (hK : va_K D cl tys s) (hP : va_P D cl ws H) (hD : va_D A ws) (hS : va_S A s.heap H locs) (hA : ∀ q, s.heap.size ≤ q → A q) 
    (q0 : Nat) {ci : Nat} {q : vw_C} {fs : List Value} (hc : cl[ci]? = some q) (hqC : q.1 = C) (he : ws[q0]? = some (b, .inr (ci, fs))) (hlen : As.length = n) (hls : ls.size = nL) (hst : st0 = As.reverse ++ .ref b :: rest) (hroom : (rest.map fun v => v.category).sum ≤ 8) (hdg : decode cc pc = .ok (.invokevirtual index, 3)) (hf : cells + mc ≤ R.cells ∧ slots + ms ≤ R.slots)
    (kk : ∀ (u : S) (H1 : Heap) (locs1 : List Loc), post u → va_P D cl (wn u) H1 → va_D A (wn u) → va_S A s.heap H1 locs1 → W p l e R s m args below meth c H1 locs1 (cells + mc) (slots + ms) Q (F0 m (pc + 3) ls (rest))) :
    W p l e R s m args below meth c H locs cells slots Q (F0 m pc ls st0) := by
  subst hqC
  have hPc := hP
  have hDc := hD
  have hFc := cl_all hD hS hA
  refine va_callv (va_runV (As := As) (rest := rest) fix (hC H.size) cw ⟨fun a U g mk q => by obtain ⟨q0, q1, qP, qK, qD⟩ := q; exact ⟨q0, q1, qP, va_K.moved (u := U) (U := U.calling g mk a) (Vm.Alike.refl U.vm) qK, qD⟩, va_recv hK hPc hc he, fun U hU hW => ⟨rfl, by rw [hU], by rw [hU]; exact hPc, va_K.moved hW.alike hK, hDc.weaken (fun _ _ _ _ => trivial)⟩⟩ rfl hlen hls hst (lv_room hroom) hdg hf) hS (fun q _ h => hFc q h) hFc (fun u t H1 locs1 ht hvm hw hB hz1 hk1 hS1 => ?_)
  obtain ⟨hP1, hK1, hD1⟩ := hB
  rw [ht] at hP1
  exact kk u H1 locs1 hw hP1 (hD1.weaken (fun _ _ _ h => hFc _ h)) hS1
theorem cw_Si {post : Int32 → S → Prop} {wn : S → va_W} (hC : CtI l D cl tys y wd rm As ws post wn mc ms) (fix : CallFix p m c cc nL s args Ts own) (cw : CallB R s args own index y bytes maxL ret wd rm mc ms n ∧ (Cond.static y).before args s = true)
    (hK : va_K D cl tys s) (hP : va_P D cl ws H) (hD : va_D A ws) (hS : va_S A s.heap H locs) (hA : ∀ q, s.heap.size ≤ q → A q) 
     (hlen : As.length = n) (hls : ls.size = nL) (hst : st0 = As.reverse ++ rest) (hroom : (rest.map fun v => v.category).sum ≤ 8) (hdg : decode cc pc = .ok (.invokestatic index, 3)) (hf : cells + mc ≤ R.cells ∧ slots + ms ≤ R.slots)
    (kk : ∀ (r : Int32) (u : S) (H1 : Heap) (locs1 : List Loc), post r u → va_P D cl (wn u) H1 → va_D A (wn u) → va_S A s.heap H1 locs1 → W p l e R s m args below meth c H1 locs1 (cells + mc) (slots + ms) Q (F0 m (pc + 3) ls (.int r :: rest))) :
    W p l e R s m args below meth c H locs cells slots Q (F0 m pc ls st0) := by
  have hPc := hP
  have hDc := hD
  have hFc := cl_all hD hS hA
  refine va_calli (va_runS (As := As) (rest := rest) fix (hC H.size) cw ⟨fun a U g mk q => by obtain ⟨q0, q1, qP, qK, qD⟩ := q; exact ⟨q0, q1, qP, va_K.moved (u := U) (U := U.calling g mk a) (Vm.Alike.refl U.vm) qK, qD⟩, fun U hU hW => ⟨rfl, by rw [hU], by rw [hU]; exact hPc, va_K.moved hW.alike hK, hDc.weaken (fun _ _ _ _ => trivial)⟩⟩ rfl hlen hls hst (lv_room hroom) hdg hf) hS (fun q _ h => hFc q h) hFc (fun r u t H1 locs1 ht hvm hw hB hz1 hk1 hS1 => ?_)
  obtain ⟨hP1, hK1, hD1⟩ := hB
  rw [ht] at hP1
  exact kk r u H1 locs1 hw hP1 (hD1.weaken (fun _ _ _ h => hFc _ h)) hS1
theorem cw_Sv {post : S → Prop} {wn : S → va_W} (hC : CtV l D cl tys y wd rm As ws post wn mc ms) (fix : CallFix p m c cc nL s args Ts own) (cw : CallB R s args own index y bytes maxL ret wd rm mc ms n ∧ (Cond.static y).before args s = true)
    (hK : va_K D cl tys s) (hP : va_P D cl ws H) (hD : va_D A ws) (hS : va_S A s.heap H locs) (hA : ∀ q, s.heap.size ≤ q → A q) 
     (hlen : As.length = n) (hls : ls.size = nL) (hst : st0 = As.reverse ++ rest) (hroom : (rest.map fun v => v.category).sum ≤ 8) (hdg : decode cc pc = .ok (.invokestatic index, 3)) (hf : cells + mc ≤ R.cells ∧ slots + ms ≤ R.slots)
    (kk : ∀ (u : S) (H1 : Heap) (locs1 : List Loc), post u → va_P D cl (wn u) H1 → va_D A (wn u) → va_S A s.heap H1 locs1 → W p l e R s m args below meth c H1 locs1 (cells + mc) (slots + ms) Q (F0 m (pc + 3) ls (rest))) :
    W p l e R s m args below meth c H locs cells slots Q (F0 m pc ls st0) := by
  have hPc := hP
  have hDc := hD
  have hFc := cl_all hD hS hA
  refine va_callv (va_runS (As := As) (rest := rest) fix (hC H.size) cw ⟨fun a U g mk q => by obtain ⟨q0, q1, qP, qK, qD⟩ := q; exact ⟨q0, q1, qP, va_K.moved (u := U) (U := U.calling g mk a) (Vm.Alike.refl U.vm) qK, qD⟩, fun U hU hW => ⟨rfl, by rw [hU], by rw [hU]; exact hPc, va_K.moved hW.alike hK, hDc.weaken (fun _ _ _ _ => trivial)⟩⟩ rfl hlen hls hst (lv_room hroom) hdg hf) hS (fun q _ h => hFc q h) hFc (fun u t H1 locs1 ht hvm hw hB hz1 hk1 hS1 => ?_)
  obtain ⟨hP1, hK1, hD1⟩ := hB
  rw [ht] at hP1
  exact kk u H1 locs1 hw hP1 (hD1.weaken (fun _ _ _ h => hFc _ h)) hS1
theorem cw_Iv {post : S → Prop} {wn : S → va_W} (hC : CtV l D cl tys y wd rm (.ref b :: As) ws post wn mc ms) (fix : CallFix p m c cc nL s args Ts own) (cw : CallB R s args own index y bytes maxL none wd rm mc ms n ∧ y.name = "<init>" ∧ (Cond.instanceMethod y).before args s = true)
    (hK : va_K D cl tys s) (hP : va_P D cl ws H) (hD : va_D A ws) (hS : va_S A s.heap H locs) (hA : ∀ q, s.heap.size ≤ q → A q) 
     (hlen : As.length = n) (hls : ls.size = nL) (hst : st0 = As.reverse ++ .ref b :: rest) (hroom : (rest.map fun v => v.category).sum ≤ 8) (hdg : decode cc pc = .ok (.invokespecial index, 3)) (hf : cells + mc ≤ R.cells ∧ slots + ms ≤ R.slots)
    (kk : ∀ (u : S) (H1 : Heap) (locs1 : List Loc), post u → va_P D cl (wn u) H1 → va_D A (wn u) → va_S A s.heap H1 locs1 → W p l e R s m args below meth c H1 locs1 (cells + mc) (slots + ms) Q (F0 m (pc + 3) ls (rest))) :
    W p l e R s m args below meth c H locs cells slots Q (F0 m pc ls st0) := by
  have hPc := hP
  have hDc := hD
  have hFc := cl_all hD hS hA
  refine va_callv (va_runI (As := As) (rest := rest) fix (hC H.size) cw ⟨fun a U g mk q => by obtain ⟨q0, q1, qP, qK, qD⟩ := q; exact ⟨q0, q1, qP, va_K.moved (u := U) (U := U.calling g mk a) (Vm.Alike.refl U.vm) qK, qD⟩, fun U hU hW => ⟨rfl, by rw [hU], by rw [hU]; exact hPc, va_K.moved hW.alike hK, hDc.weaken (fun _ _ _ _ => trivial)⟩⟩ rfl hlen hls hst (lv_room hroom) hdg hf) hS (fun q _ h => hFc q h) hFc (fun u t H1 locs1 ht hvm hw hB hz1 hk1 hS1 => ?_)
  obtain ⟨hP1, hK1, hD1⟩ := hB
  rw [ht] at hP1
  exact kk u H1 locs1 hw hP1 (hD1.weaken (fun _ _ _ h => hFc _ h)) hS1
theorem cl_Vi {post : Int32 → S → Prop} {wn : S → va_W} (hC : CtI l D cl tys y wd rm (.ref b :: As) w post wn mc ms) (fix : CallFix p m c cc nL s args Ts own) (cw : CallW R s args own C index y bytes maxL ret wd rm mc ms n)
    (hK : va_K D cl tys s) (hP : va_P D cl ws H) (hD : va_D A ws) (hS : va_S A s.heap H locs) (hA : ∀ q, s.heap.size ≤ q → A q) (isC isR : List Nat) (eC : isC.map (fun i => ws[i]?) = w.map some) (eR : isR.map (fun i => ws[i]?) = wr.map some) (hn : va_nd isR = true) (hnC : va_nd isC = true) (hdis : ∀ i ∈ isR, i ∉ isC)
    (q0 : Nat) {ci : Nat} {q : vw_C} {fs : List Value} (hc : cl[ci]? = some q) (hqC : q.1 = C) (he : w[q0]? = some (b, .inr (ci, fs))) (hlen : As.length = n) (hls : ls.size = nL) (hst : st0 = As.reverse ++ .ref b :: rest) (hroom : (rest.map fun v => v.category).sum ≤ 8) (hdg : decode cc pc = .ok (.invokevirtual index, 3)) (hf : cells + mc ≤ R.cells ∧ slots + ms ≤ R.slots)
    (kk : ∀ (r : Int32) (u : S) (H1 : Heap) (locs1 : List Loc), post r u → va_P D cl (wr ++ wn u) H1 → va_D A (wr ++ wn u) → va_S A s.heap H1 locs1 → W p l e R s m args below meth c H1 locs1 (cells + mc) (slots + ms) Q (F0 m (pc + 3) ls (.int r :: rest))) :
    W p l e R s m args below meth c H locs cells slots Q (F0 m pc ls st0) := by
  subst hqC
  have hPc := hP.sub (ws' := w) isC (cl_sub eC)
  have hDc := hD.sub (ws' := w) isC hnC eC
  have hFc := va_free (wc := w) hD hS hA isC eC
  refine va_calli (va_runV (As := As) (rest := rest) fix (hC H.size) cw ⟨fun a U g mk q => by obtain ⟨q0, q1, qP, qK, qD⟩ := q; exact ⟨q0, q1, qP, va_K.moved (u := U) (U := U.calling g mk a) (Vm.Alike.refl U.vm) qK, qD⟩, va_recv hK hPc hc he, fun U hU hW => ⟨rfl, by rw [hU], by rw [hU]; exact hPc, va_K.moved hW.alike hK, hDc.weaken (fun _ _ _ _ => trivial)⟩⟩ rfl hlen hls hst (lv_room hroom) hdg hf) hS (fun q _ h => hFc q h) hFc (fun r u t H1 locs1 ht hvm hw hB hz1 hk1 hS1 => ?_)
  obtain ⟨hP1, hK1, hD1⟩ := hB
  rw [ht] at hP1
  obtain ⟨hP2, hD2⟩ := va_join (wr := wr) (w1 := wn u) hP hD isC isR eC eR hn hdis hk1 hFc hP1 hD1
  exact kk r u H1 locs1 hw hP2 hD2 hS1
theorem cl_Vv {post : S → Prop} {wn : S → va_W} (hC : CtV l D cl tys y wd rm (.ref b :: As) w post wn mc ms) (fix : CallFix p m c cc nL s args Ts own) (cw : CallW R s args own C index y bytes maxL ret wd rm mc ms n)
    (hK : va_K D cl tys s) (hP : va_P D cl ws H) (hD : va_D A ws) (hS : va_S A s.heap H locs) (hA : ∀ q, s.heap.size ≤ q → A q) (isC isR : List Nat) (eC : isC.map (fun i => ws[i]?) = w.map some) (eR : isR.map (fun i => ws[i]?) = wr.map some) (hn : va_nd isR = true) (hnC : va_nd isC = true) (hdis : ∀ i ∈ isR, i ∉ isC)
    (q0 : Nat) {ci : Nat} {q : vw_C} {fs : List Value} (hc : cl[ci]? = some q) (hqC : q.1 = C) (he : w[q0]? = some (b, .inr (ci, fs))) (hlen : As.length = n) (hls : ls.size = nL) (hst : st0 = As.reverse ++ .ref b :: rest) (hroom : (rest.map fun v => v.category).sum ≤ 8) (hdg : decode cc pc = .ok (.invokevirtual index, 3)) (hf : cells + mc ≤ R.cells ∧ slots + ms ≤ R.slots)
    (kk : ∀ (u : S) (H1 : Heap) (locs1 : List Loc), post u → va_P D cl (wr ++ wn u) H1 → va_D A (wr ++ wn u) → va_S A s.heap H1 locs1 → W p l e R s m args below meth c H1 locs1 (cells + mc) (slots + ms) Q (F0 m (pc + 3) ls (rest))) :
    W p l e R s m args below meth c H locs cells slots Q (F0 m pc ls st0) := by
  subst hqC
  have hPc := hP.sub (ws' := w) isC (cl_sub eC)
  have hDc := hD.sub (ws' := w) isC hnC eC
  have hFc := va_free (wc := w) hD hS hA isC eC
  refine va_callv (va_runV (As := As) (rest := rest) fix (hC H.size) cw ⟨fun a U g mk q => by obtain ⟨q0, q1, qP, qK, qD⟩ := q; exact ⟨q0, q1, qP, va_K.moved (u := U) (U := U.calling g mk a) (Vm.Alike.refl U.vm) qK, qD⟩, va_recv hK hPc hc he, fun U hU hW => ⟨rfl, by rw [hU], by rw [hU]; exact hPc, va_K.moved hW.alike hK, hDc.weaken (fun _ _ _ _ => trivial)⟩⟩ rfl hlen hls hst (lv_room hroom) hdg hf) hS (fun q _ h => hFc q h) hFc (fun u t H1 locs1 ht hvm hw hB hz1 hk1 hS1 => ?_)
  obtain ⟨hP1, hK1, hD1⟩ := hB
  rw [ht] at hP1
  obtain ⟨hP2, hD2⟩ := va_join (wr := wr) (w1 := wn u) hP hD isC isR eC eR hn hdis hk1 hFc hP1 hD1
  exact kk u H1 locs1 hw hP2 hD2 hS1
theorem cl_Si {post : Int32 → S → Prop} {wn : S → va_W} (hC : CtI l D cl tys y wd rm As w post wn mc ms) (fix : CallFix p m c cc nL s args Ts own) (cw : CallB R s args own index y bytes maxL ret wd rm mc ms n ∧ (Cond.static y).before args s = true)
    (hK : va_K D cl tys s) (hP : va_P D cl ws H) (hD : va_D A ws) (hS : va_S A s.heap H locs) (hA : ∀ q, s.heap.size ≤ q → A q) (isC isR : List Nat) (eC : isC.map (fun i => ws[i]?) = w.map some) (eR : isR.map (fun i => ws[i]?) = wr.map some) (hn : va_nd isR = true) (hnC : va_nd isC = true) (hdis : ∀ i ∈ isR, i ∉ isC)
     (hlen : As.length = n) (hls : ls.size = nL) (hst : st0 = As.reverse ++ rest) (hroom : (rest.map fun v => v.category).sum ≤ 8) (hdg : decode cc pc = .ok (.invokestatic index, 3)) (hf : cells + mc ≤ R.cells ∧ slots + ms ≤ R.slots)
    (kk : ∀ (r : Int32) (u : S) (H1 : Heap) (locs1 : List Loc), post r u → va_P D cl (wr ++ wn u) H1 → va_D A (wr ++ wn u) → va_S A s.heap H1 locs1 → W p l e R s m args below meth c H1 locs1 (cells + mc) (slots + ms) Q (F0 m (pc + 3) ls (.int r :: rest))) :
    W p l e R s m args below meth c H locs cells slots Q (F0 m pc ls st0) := by
  have hPc := hP.sub (ws' := w) isC (cl_sub eC)
  have hDc := hD.sub (ws' := w) isC hnC eC
  have hFc := va_free (wc := w) hD hS hA isC eC
  refine va_calli (va_runS (As := As) (rest := rest) fix (hC H.size) cw ⟨fun a U g mk q => by obtain ⟨q0, q1, qP, qK, qD⟩ := q; exact ⟨q0, q1, qP, va_K.moved (u := U) (U := U.calling g mk a) (Vm.Alike.refl U.vm) qK, qD⟩, fun U hU hW => ⟨rfl, by rw [hU], by rw [hU]; exact hPc, va_K.moved hW.alike hK, hDc.weaken (fun _ _ _ _ => trivial)⟩⟩ rfl hlen hls hst (lv_room hroom) hdg hf) hS (fun q _ h => hFc q h) hFc (fun r u t H1 locs1 ht hvm hw hB hz1 hk1 hS1 => ?_)
  obtain ⟨hP1, hK1, hD1⟩ := hB
  rw [ht] at hP1
  obtain ⟨hP2, hD2⟩ := va_join (wr := wr) (w1 := wn u) hP hD isC isR eC eR hn hdis hk1 hFc hP1 hD1
  exact kk r u H1 locs1 hw hP2 hD2 hS1
theorem cl_Sv {post : S → Prop} {wn : S → va_W} (hC : CtV l D cl tys y wd rm As w post wn mc ms) (fix : CallFix p m c cc nL s args Ts own) (cw : CallB R s args own index y bytes maxL ret wd rm mc ms n ∧ (Cond.static y).before args s = true)
    (hK : va_K D cl tys s) (hP : va_P D cl ws H) (hD : va_D A ws) (hS : va_S A s.heap H locs) (hA : ∀ q, s.heap.size ≤ q → A q) (isC isR : List Nat) (eC : isC.map (fun i => ws[i]?) = w.map some) (eR : isR.map (fun i => ws[i]?) = wr.map some) (hn : va_nd isR = true) (hnC : va_nd isC = true) (hdis : ∀ i ∈ isR, i ∉ isC)
     (hlen : As.length = n) (hls : ls.size = nL) (hst : st0 = As.reverse ++ rest) (hroom : (rest.map fun v => v.category).sum ≤ 8) (hdg : decode cc pc = .ok (.invokestatic index, 3)) (hf : cells + mc ≤ R.cells ∧ slots + ms ≤ R.slots)
    (kk : ∀ (u : S) (H1 : Heap) (locs1 : List Loc), post u → va_P D cl (wr ++ wn u) H1 → va_D A (wr ++ wn u) → va_S A s.heap H1 locs1 → W p l e R s m args below meth c H1 locs1 (cells + mc) (slots + ms) Q (F0 m (pc + 3) ls (rest))) :
    W p l e R s m args below meth c H locs cells slots Q (F0 m pc ls st0) := by
  have hPc := hP.sub (ws' := w) isC (cl_sub eC)
  have hDc := hD.sub (ws' := w) isC hnC eC
  have hFc := va_free (wc := w) hD hS hA isC eC
  refine va_callv (va_runS (As := As) (rest := rest) fix (hC H.size) cw ⟨fun a U g mk q => by obtain ⟨q0, q1, qP, qK, qD⟩ := q; exact ⟨q0, q1, qP, va_K.moved (u := U) (U := U.calling g mk a) (Vm.Alike.refl U.vm) qK, qD⟩, fun U hU hW => ⟨rfl, by rw [hU], by rw [hU]; exact hPc, va_K.moved hW.alike hK, hDc.weaken (fun _ _ _ _ => trivial)⟩⟩ rfl hlen hls hst (lv_room hroom) hdg hf) hS (fun q _ h => hFc q h) hFc (fun u t H1 locs1 ht hvm hw hB hz1 hk1 hS1 => ?_)
  obtain ⟨hP1, hK1, hD1⟩ := hB
  rw [ht] at hP1
  obtain ⟨hP2, hD2⟩ := va_join (wr := wr) (w1 := wn u) hP hD isC isR eC eR hn hdis hk1 hFc hP1 hD1
  exact kk u H1 locs1 hw hP2 hD2 hS1
theorem cl_Iv {post : S → Prop} {wn : S → va_W} (hC : CtV l D cl tys y wd rm (.ref b :: As) w post wn mc ms) (fix : CallFix p m c cc nL s args Ts own) (cw : CallB R s args own index y bytes maxL none wd rm mc ms n ∧ y.name = "<init>" ∧ (Cond.instanceMethod y).before args s = true)
    (hK : va_K D cl tys s) (hP : va_P D cl ws H) (hD : va_D A ws) (hS : va_S A s.heap H locs) (hA : ∀ q, s.heap.size ≤ q → A q) (isC isR : List Nat) (eC : isC.map (fun i => ws[i]?) = w.map some) (eR : isR.map (fun i => ws[i]?) = wr.map some) (hn : va_nd isR = true) (hnC : va_nd isC = true) (hdis : ∀ i ∈ isR, i ∉ isC)
     (hlen : As.length = n) (hls : ls.size = nL) (hst : st0 = As.reverse ++ .ref b :: rest) (hroom : (rest.map fun v => v.category).sum ≤ 8) (hdg : decode cc pc = .ok (.invokespecial index, 3)) (hf : cells + mc ≤ R.cells ∧ slots + ms ≤ R.slots)
    (kk : ∀ (u : S) (H1 : Heap) (locs1 : List Loc), post u → va_P D cl (wr ++ wn u) H1 → va_D A (wr ++ wn u) → va_S A s.heap H1 locs1 → W p l e R s m args below meth c H1 locs1 (cells + mc) (slots + ms) Q (F0 m (pc + 3) ls (rest))) :
    W p l e R s m args below meth c H locs cells slots Q (F0 m pc ls st0) := by
  have hPc := hP.sub (ws' := w) isC (cl_sub eC)
  have hDc := hD.sub (ws' := w) isC hnC eC
  have hFc := va_free (wc := w) hD hS hA isC eC
  refine va_callv (va_runI (As := As) (rest := rest) fix (hC H.size) cw ⟨fun a U g mk q => by obtain ⟨q0, q1, qP, qK, qD⟩ := q; exact ⟨q0, q1, qP, va_K.moved (u := U) (U := U.calling g mk a) (Vm.Alike.refl U.vm) qK, qD⟩, fun U hU hW => ⟨rfl, by rw [hU], by rw [hU]; exact hPc, va_K.moved hW.alike hK, hDc.weaken (fun _ _ _ _ => trivial)⟩⟩ rfl hlen hls hst (lv_room hroom) hdg hf) hS (fun q _ h => hFc q h) hFc (fun u t H1 locs1 ht hvm hw hB hz1 hk1 hS1 => ?_)
  obtain ⟨hP1, hK1, hD1⟩ := hB
  rw [ht] at hP1
  obtain ⟨hP2, hD2⟩ := va_join (wr := wr) (w1 := wn u) hP hD isC isR eC eR hn hdis hk1 hFc hP1 hD1
  exact kk u H1 locs1 hw hP2 hD2 hS1
end BASE
abbrev tys3 (cI cZ cJ : ClassId) : List (ClassId × FieldType) := [(cI, .int), (cZ, .boolean), (cJ, .long)]
abbrev wC (cI cZ : ClassId) (h : Nat → Nat) (F : Nat → Nat → Int32) (V : Nat → Int32) : va_W := [
  (h 0, .inr (4, [.ref (h 1), .ref (h 2), .ref (h 3), .ref (h 4), .int (V 0)])),
  (h 1, .inr (1, [.ref (h 5), .ref (h 6), .ref (h 7), .ref (h 8), .ref (h 9), .int (V 1), .ref (h 10), .ref (h 11), .ref (h 12), .ref (h 13), .int (V 2)])),
  (h 2, .inr (0, [.ref (h 1), .ref (h 14), .ref (h 15), .ref (h 16), .ref (h 17), .ref (h 18), .ref (h 19), .ref (h 20), .int (V 3), .ref (h 21), .ref (h 22)])),
  (h 3, .inr (3, [.ref (h 1), .ref (h 2), .ref (h 23), .int (V 4), .int (V 5), .int (V 6), .int (V 7), .ref (h 24), .ref (h 25), .ref (h 26), .ref (h 27), .ref (h 28), .int (V 8), .int (V 9)])),
  (h 4, .inr (2, [.ref (h 29), .int (V 10), .int (V 11), .int (V 12), .ref (h 30)])),
  (h 5, .inl (cI, 15, .inl (F 5))),
  (h 6, .inl (cI, 40, .inl (F 6))),
  (h 7, .inl (cI, 40, .inl (F 7))),
  (h 8, .inl (cI, 40, .inl (F 8))),
  (h 9, .inl (cI, 40, .inl (F 9))),
  (h 10, .inl (cI, 24, .inl (F 10))),
  (h 11, .inl (cI, 24, .inl (F 11))),
  (h 12, .inl (cI, 24, .inl (F 12))),
  (h 13, .inl (cI, 24, .inl (F 13))),
  (h 14, .inl (cI, 4, .inl (F 14))),
  (h 15, .inl (cI, 40, .inl (F 15))),
  (h 16, .inl (cI, 40, .inl (F 16))),
  (h 17, .inl (cI, 40, .inl (F 17))),
  (h 18, .inl (cI, 4, .inl (F 18))),
  (h 19, .inl (cI, 40, .inl (F 19))),
  (h 20, .inl (cI, 4, .inl (F 20))),
  (h 21, .inl (cI, 128, .inl (F 21))),
  (h 22, .inl (cZ, 128, .inl (F 22))),
  (h 23, .inl (cI, 24, .inl (F 23))),
  (h 24, .inl (cI, 402, .inl (F 24))),
  (h 25, .inl (cI, 402, .inl (F 25))),
  (h 26, .inl (cI, 402, .inl (F 26))),
  (h 27, .inl (cI, 24, .inl (F 27))),
  (h 28, .inl (cI, 24, .inl (F 28))),
  (h 29, .inl (cI, 40, .inl (F 29))),
  (h 30, .inl (cI, 40, .inl (F 30)))]
abbrev wM (cI cZ cJ : ClassId) (h : Nat → Nat) (F : Nat → Nat → Int32) (G : Nat → Int64) (V : Nat → Int32) : va_W := [
  (h 0, .inr (5, [.int (V 0), .int (V 1), .int (V 2), .int (V 3), .int (V 4), .int (V 5), .int (V 6), .int (V 7), .ref (h 1), .ref (h 2), .ref (h 3), .ref (h 4), .ref (h 5), .ref (h 6), .ref (h 7), .ref (h 8), .ref (h 9), .ref (h 10), .ref (h 11), .ref (h 12), .ref (h 13), .ref (h 14), .ref (h 15), .int (V 8), .int (V 9), .ref (h 16), .ref (h 17), .int (V 10), .ref (h 18), .ref (h 19), .ref (h 20), .int (V 11), .ref (h 21)])),
  (h 1, .inl (cI, 40, .inl (F 1))),
  (h 2, .inl (cI, 40, .inl (F 2))),
  (h 3, .inl (cI, 40, .inl (F 3))),
  (h 4, .inl (cI, 4, .inl (F 4))),
  (h 5, .inl (cI, 24, .inl (F 5))),
  (h 6, .inl (cI, 24, .inl (F 6))),
  (h 7, .inl (cI, 24, .inl (F 7))),
  (h 8, .inl (cI, 24, .inl (F 8))),
  (h 9, .inl (cI, 24, .inl (F 9))),
  (h 10, .inl (cI, 40, .inl (F 10))),
  (h 11, .inl (cI, 40, .inl (F 11))),
  (h 12, .inl (cI, 4, .inl (F 12))),
  (h 13, .inl (cI, 40, .inl (F 13))),
  (h 14, .inl (cI, 40, .inl (F 14))),
  (h 15, .inl (cI, 4, .inl (F 15))),
  (h 16, .inl (cI, 10050, .inl (F 16))),
  (h 17, .inl (cZ, 24, .inl (F 17))),
  (h 18, .inl (cI, 24, .inl (F 18))),
  (h 19, .inl (cJ, 12, .inr (.inl G))),
  (h 20, .inl (cI, 12, .inl (F 20))),
  (h 21, .inl (cI, 40, .inl (F 21)))]
/-- truth as an int -/
def bI (b : Bool) : Int32 := if b then 1 else 0
theorem bI_f {r : Int32} {b : Bool} (h : r = bI b) (c : r = 0) : b = false := by
  cases b with
  | false => rfl
  | true => rw [h] at c; exact absurd c (by decide)
theorem bI_t {r : Int32} {b : Bool} (h : r = bI b) (c : ¬ r = 0) : b = true := by
  cases b with
  | true => rfl
  | false => exact absurd h c
theorem bI_narrow (b : Bool) : narrow .boolean (.int (bI b)) = .int (bI b) := by cases b <;> decide
def eqI (a b : Int32) : Bool := decide (a = b)
def ltI (a b : Int32) : Bool := decide (a < b)
def isW (v a b : Int32) : Bool := !ltI v a && !ltI b v
theorem isW_nat {v : Int32} {M : Int32} {n : Nat} (hM : M.toInt = n) (h : isW v 0 M = true) : ∃ k : Nat, k ≤ n ∧ v = nI k := by
  simp only [isW, ltI, Bool.and_eq_true, Bool.not_eq_true', decide_eq_false_iff_not] at h
  exact nI_of2 hM h.1 (Int32.not_lt.mp h.2)
theorem isW_nat1 {v : Int32} {M : Int32} {n : Nat} (hM : M.toInt = n) (h : isW v 1 M = true) : ∃ k : Nat, k ≤ n ∧ v = nI k := by
  simp only [isW, ltI, Bool.and_eq_true, Bool.not_eq_true', decide_eq_false_iff_not] at h
  exact nI_of2 hM (fun q => h.1 (Int32.lt_trans q (by decide))) (Int32.not_lt.mp h.2)
theorem ltI_24 (v : Int32) : ltI 23 v = !ltI v 24 := by
  unfold ltI
  rw [← decide_not, decide_eq_decide, Int32.not_lt, Int32.lt_iff_toInt_lt, Int32.le_iff_toInt_le]
  rw [show (23 : Int32).toInt = 23 from by decide, show (24 : Int32).toInt = 24 from by decide]
  omega
theorem isW_none (v : Int32) : isW v 0 (-1) = false := by
  cases h : isW v 0 (-1) with
  | false => rfl
  | true =>
    simp only [isW, ltI, Bool.and_eq_true, Bool.not_eq_true', decide_eq_false_iff_not] at h
    exact absurd (Int32.lt_of_lt_of_le (show (-1 : Int32) < 0 by decide) (Int32.not_lt.mp h.1)) h.2
theorem isW_emp (v : Int32) : isW v 24 23 = false := by
  cases h : isW v 24 23 with
  | false => rfl
  | true =>
    simp only [isW, ltI, Bool.and_eq_true, Bool.not_eq_true', decide_eq_false_iff_not] at h
    exact absurd (Int32.lt_of_lt_of_le (show (23 : Int32) < 24 by decide) (Int32.not_lt.mp h.1)) h.2
theorem bI_fits (b : Bool) : fits .boolean (.int (bI b)) = true := by cases b <;> decide
theorem zshr (x : Int32) : (0 : Int32) >>> x = 0 := by
  apply Int32.toBitVec_inj.mp
  simp
theorem mm_min {a b : Nat} (ha : a < 2 ^ 31) (hb : b < 2 ^ 31) : (if nI b < nI a then nI b else nI a) = nI (min a b) := by
  by_cases h : b < a
  · rw [if_pos ((nI_ltI hb ha).mpr h), Nat.min_eq_right (Nat.le_of_lt h)]
  · rw [if_neg (fun q => h ((nI_ltI hb ha).mp q)), Nat.min_eq_left (Nat.le_of_not_lt h)]
theorem mm_max {a b : Nat} (ha : a < 2 ^ 31) (hb : b < 2 ^ 31) : (if nI a < nI b then nI b else nI a) = nI (max a b) := by
  by_cases h : a < b
  · rw [if_pos ((nI_ltI ha hb).mpr h), Nat.max_eq_right (Nat.le_of_lt h)]
  · rw [if_neg (fun q => h ((nI_ltI ha hb).mp q)), Nat.max_eq_left (Nat.le_of_not_lt h)]
theorem tsw (x : Int32) (lo n : Nat) (_ : n < 2 ^ 31) : (x.toInt < (lo : Int) ∨ (n : Int) < x.toInt) ∨ ∃ j, j < n + 1 - lo ∧ x.toInt = (lo : Int) + (j : Int) := by
  by_cases h : x.toInt < (lo : Int) ∨ (n : Int) < x.toInt
  · exact Or.inl h
  · refine Or.inr ⟨(x.toInt - lo).toNat, ?_, ?_⟩ <;> omega
end
section
def rm_J7_fill : Room := { frames := 0, cells := 0, slots := 0, locals := 0 }
set_option maxHeartbeats 4000000 in
set_option maxRecDepth 100000 in
/-- Arrays.fill: every place of the row holds v -/
theorem c_J7_fill (l : Launch) (dC : Nat → ClassId) (dI : Nat → Nat → Nat) (cI cZ cJ : ClassId) (a n : Nat) (f : Nat → Int32) (v : Int32) (hn : n < 2 ^ 31) : CtV l (dC, dI) vwCl (tys3 cI cZ cJ) yJ7_fill_53178 wsJ7_fill_53178 rm_J7_fill [.ref a, .int v] [(a, .inl (cI, n, .inl f))] (S := Nat → Int32) (fun u => ∀ i, i < n → u i = v) (fun u => [(a, .inl (cI, n, .inl u))]) 0 0 := by
  refine ct_V (cc := cJ7_fill_53178) (maxL := 4) (own := RJ7) (by decide) rfl rfl (Nat.le_of_ble_eq_true rfl) (lv := [(0, .ref a), (1, .int v)]) rfl ?_
  intro p e s m args below meth c A Q ls hnm fx hK hP hD hA hl hret
  obtain ⟨hx, hb, hml, hown, hts⟩ := id fx
  have hS : va_S A s.heap s.heap [] := va_S.rf
  refine lv_iconst (v := 0) hx hb dJ7_fill_53178_0 (by decide) ?_
  refine lv_istore_n (lv' := [(2, .int 0), (0, .ref a), (1, .int v)]) hx hb dJ7_fill_53178_1 rfl hl (by decide) rfl (fun ls hl => ?_)
  refine lv_aload_n hx hb dJ7_fill_53178_2 rfl (lv_at hl 1 rfl) ?_
  refine va_alen (v := nI n) hx hb hK hP 0 0 rfl rfl rfl dJ7_fill_53178_3 ?_
  refine lv_istore_n (lv' := [(3, .int (nI n)), (2, .int 0), (0, .ref a), (1, .int v)]) hx hb dJ7_fill_53178_4 rfl hl (by decide) rfl (fun ls hl => ?_)
  have loop : ∀ (k i : Nat) (g : Nat → Int32), i ≤ n → (∀ j, j < i → g j = v) → n - i < k → ∀ (H : Heap) (locs : List Loc) (ls : Array Slot), va_P (dC, dI) vwCl [(a, .inl (cI, n, .inl g))] H → va_D A [(a, .inl (cI, n, .inl g))] → va_S A s.heap H locs → lv_has ls 4 [(0, .ref a), (1, .int v), (2, .int (nI i)), (3, .int (nI n))] → W p l e rm_J7_fill s m args below meth c H locs 0 0 Q (F0 m 5 ls []) := by
    intro k
    induction k with
    | zero => intro i g hi hg hk; exact absurd hk (Nat.not_lt_zero _)
    | succ k ih =>
      intro i g hi hg hk H locs ls hP hD hS hl
      refine lv_iload_n hx hb dJ7_fill_53178_5 rfl (lv_at hl 2 rfl) ?_
      refine lv_iload_n hx hb dJ7_fill_53178_6 rfl (lv_at hl 3 rfl) ?_
      refine lv_icmp_ge (tgt := 20) hx hb dJ7_fill_53178_7 (by decide) (fun c_1 => ?_) (fun c_1 => ?_)
      · have c_1 := (nI_leI (a := n) (b := i) hn (by omega)).mp c_1
        exact hret g H locs 20 ls dJ7_fill_53178_20 (fun j hj => hg j (by omega)) hP hD hS
      · have c_1 : ¬ n ≤ i := fun h => c_1 ((nI_leI (a := n) (b := i) hn (by omega)).mpr h)
        refine lv_aload_n hx hb dJ7_fill_53178_10 rfl (lv_at hl 0 rfl) ?_
        refine lv_iload_n hx hb dJ7_fill_53178_11 rfl (lv_at hl 2 rfl) ?_
        refine lv_iload_n hx hb dJ7_fill_53178_12 rfl (lv_at hl 1 rfl) ?_
        refine va_iast hx hb hK hP hD hS 0 0 rfl rfl (vp_in_nI (by omega) hn) dJ7_fill_53178_13 (fun H locs hP hD hS => ?_)
        refine lv_iinc (v := nI (i + 1)) (lv' := [(2, .int (nI (i + 1))), (0, .ref a), (1, .int v), (3, .int (nI n))]) hx hb dJ7_fill_53178_14 hl (k := 2) rfl (nI_1 i) (by decide) rfl (fun ls hl => ?_)
        refine lv_goto (tgt := 5) hx hb dJ7_fill_53178_17 (by decide) ?_
        refine ih (i + 1) (upd g (nI i).toNatClampNeg v) (by omega) (fun j hj => ?_) (by omega) H locs ls hP hD hS (lv_sub hl [1, 2, 0, 3] rfl)
        rw [nI_clamp (by omega)]
        by_cases h : j = i
        · rw [h]; exact pk_us
        · rw [pk_un h]; exact hg j (by omega)
  exact loop (n + 1) 0 f (Nat.zero_le n) (fun j hj => absurd hj (Nat.not_lt_zero j)) (by omega) s.heap [] ls hP hD hS (lv_sub hl [2, 3, 1, 0] rfl)
end
section
/-! plain rows for the contracts of any state (my own) -/
def nup (S : Nat → Nat) (k v : Nat) : Nat → Nat := fun i => if i = k then v else S i
theorem nf_put {f : Nat → Int32} {S : Nat → Nat} {n k v q : Nat} (h : ∀ i, i < n → f i = nI (S i)) (hq : q = k) : ∀ i, i < n → upd f q (nI v) i = nI (nup S k v i) := by
  intro i hi
  subst hq
  unfold upd nup
  by_cases e : i = q
  · rw [if_pos e, if_pos e]
  · rw [if_neg e, if_neg e]; exact h i hi
theorem nb_put {S : Nat → Nat} {n k v b : Nat} (h : ∀ i, i < n → S i ≤ b) (hv : v ≤ b) : ∀ i, i < n → nup S k v i ≤ b := by
  intro i hi
  unfold nup
  by_cases e : i = k
  · rw [if_pos e]; exact hv
  · rw [if_neg e]; exact h i hi
theorem va_ne {F1 F : Nat → Nat → Int32} {p j : Nat} {v : Nat → Int32} (e : F1 = va_up F p v) (h : j ≠ p) : F1 j = F j := by
  rw [e]; unfold va_up; exact if_neg h
theorem vp_in_of_bool {y : Int32} (h1 : ltI y 0 = false) (h2 : ltI y 15 = true) : vp_in y 15 := by
  have a := of_decide_eq_false h1
  have b := of_decide_eq_true h2
  rw [vp_in_iff]
  rw [Int32.not_lt, Int32.le_iff_toInt_le] at a
  rw [Int32.lt_iff_toInt_lt] at b
  rw [show (0 : Int32).toInt = 0 from by decide] at a
  rw [show (15 : Int32).toInt = 15 from by decide] at b
  exact ⟨a, b⟩
/-- bit i of a word, as the class reads it -/
def tkb (x : Int32) (i : Nat) : Bool := !eqI ((x >>> (nI i &&& 31)) &&& 1) 0
def sumN (S : Nat → Nat) : Nat → Nat
  | 0 => 0
  | n + 1 => sumN S n + S n
theorem sumN_le {S : Nat → Nat} {b : Nat} : ∀ {n : Nat}, (∀ i, i < n → S i ≤ b) → sumN S n ≤ n * b
  | 0, _ => Nat.zero_le _
  | n + 1, h => by
    have h1 := sumN_le (fun i hi => h i (Nat.lt_succ_of_lt hi))
    have h2 := h n (Nat.lt_succ_self n)
    rw [sumN, Nat.succ_mul]
    omega
/-- a number that isn't below 0, shifted to the right, is one again, and no greater -/
theorem shr_nat {b : Nat} (hb : b < 2 ^ 31) (x : Int32) : ∃ k, k ≤ b ∧ nI b >>> (x &&& 31) = nI k := by
  obtain ⟨j, hj, ej⟩ := pk_andE x (m := 31) 5 (by decide)
  rw [ej]
  refine ⟨b / 2 ^ j, Nat.div_le_self _ _, ?_⟩
  apply pk_shrN hb
  have : ∀ j, j < 32 → ((nI j).toBitVec.smod 32).toNat = j := by decide
  exact this j hj
theorem max0 {a b : Nat} (ha : a < 2 ^ 30) (hb : b < 2 ^ 30) : (if (0 : Int32) < nI a - nI b then nI a - nI b else 0) = nI (a - b) := by
  by_cases h : b < a
  · rw [pk_sub (Nat.le_of_lt h), if_pos]
    exact (nI_ltI (a := 0) (b := a - b) (by omega) (by omega)).mpr (by omega)
  · rw [if_neg, Nat.sub_eq_zero_of_le (Nat.le_of_not_lt h)]
    · rfl
    · intro q
      rw [Int32.lt_iff_toInt_lt, pk_sub_toInt ha hb, show (0 : Int32).toInt = 0 from by decide] at q
      omega
theorem dec_nI {k : Nat} (h : 1 ≤ k) : nI k + Int32.ofInt (-1) = nI (k - 1) := by
  obtain ⟨j, rfl⟩ : ∃ j, k = j + 1 := ⟨k - 1, by omega⟩
  rw [show nI (j + 1) + Int32.ofInt (-1) = nI (j + 1) - 1 from by rw [Int32.sub_eq_add_neg]; rfl, nI_pred]
  rfl
/-- how many stand on the sun's way: the class's own loop -/
def shl (T : Nat → Int32) (sx sy : Int32) : Nat → Int32 → Int32 → Int32 → Int32
  | 0, _, _, a => a
  | k + 1, x, y, a => if ltI (x + sx) 0 || !ltI (x + sx) 15 || ltI (y + sy) 0 || !ltI (y + sy) 15 then a else shl T sx sy k (x + sx) (y + sy) (a + ((T (y + sy).toNatClampNeg >>> ((x + sx) &&& 31)) &&& 1))
def shC (F : Nat → Nat → Int32) (H : Nat → Nat) (m h : Nat) : Int32 := if H h = 0 then 0 else shl (F 5) (F 10 h) (F 11 h) (10 - H h) (F 6 m) (F 7 m) 0
def stow (W : Nat → Nat) (k : Nat) : Bool := decide (50 < W k) || (decide (k + 1 < 24) && decide (50 < W (k + 1)))
/-- power, as the class reckons it -/
def pwC (F : Nat → Nat → Int32) (H S W : Nat → Nat) (d m h mo : Nat) : Int32 := if H h = 0 then 0 else if stow W h then 0 else nI (10 * H h + 10 - min 90 (S m + mo * d)) >>> ((shC F H m h + F 8 m) &&& 31)
def pwN (F : Nat → Nat → Int32) (H S W : Nat → Nat) (d m h mo : Nat) : Nat := (pwC F H S W d m h mo).toNatClampNeg
theorem pwN_eq {F : Nat → Nat → Int32} {H S W : Nat → Nat} {d m h mo : Nat} (hH : H h ≤ 9) : pwC F H S W d m h mo = nI (pwN F H S W d m h mo) ∧ pwN F H S W d m h mo ≤ 100 := by
  have key : ∃ k, k ≤ 100 ∧ pwC F H S W d m h mo = nI k := by
    unfold pwC
    by_cases h1 : H h = 0
    · exact ⟨0, by omega, by rw [if_pos h1]; rfl⟩
    · rw [if_neg h1]
      by_cases h2 : stow W h = true
      · exact ⟨0, by omega, by rw [if_pos h2]; rfl⟩
      · rw [if_neg h2]
        obtain ⟨k, hk, e⟩ := shr_nat (b := 10 * H h + 10 - min 90 (S m + mo * d)) (by omega) (shC F H m h + F 8 m)
        exact ⟨k, by omega, e⟩
  obtain ⟨k, hk, e⟩ := key
  have : pwN F H S W d m h mo = k := by unfold pwN; rw [e]; exact nI_clamp (by omega)
  rw [this]
  exact ⟨e, hk⟩
/-- the order by power: where m goes in, and the row with it -/
def posn (P O : Nat → Nat) (m : Nat) : Nat → Nat
  | 0 => 0
  | k + 1 => if P (O k) < P m then posn P O m k else k + 1
theorem posn_le (P O : Nat → Nat) (m : Nat) : ∀ k, posn P O m k ≤ k
  | 0 => Nat.le_refl 0
  | k + 1 => by
    unfold posn
    have := posn_le P O m k
    split <;> omega
def insn (P O : Nat → Nat) (m : Nat) : Nat → Nat := fun i => if i < posn P O m m then O i else if i = posn P O m m then m else O (i - 1)
def ordn (P : Nat → Nat) : Nat → Nat → Nat
  | 0 => fun _ => 0
  | m + 1 => insn P (ordn P m) m
theorem ordn_lt (P : Nat → Nat) : ∀ m i, i < m → ordn P m i < m
  | 0, _, h => absurd h (Nat.not_lt_zero _)
  | m + 1, i, h => by
    have ih := ordn_lt P m
    have hp := posn_le P (ordn P m) m m
    show insn P (ordn P m) m i < m + 1
    unfold insn
    split
    · exact Nat.lt_succ_of_lt (ih i (by omega))
    · split
      · exact Nat.lt_succ_self m
      · exact Nat.lt_succ_of_lt (ih (i - 1) (by omega))
/-- the cell with the most left; the aims -/
def best4 (L : Nat → Nat) : Nat → Nat
  | 0 => 0
  | c + 1 => if L (best4 L c) < L (c + 1) then c + 1 else best4 L c
theorem best4_le (L : Nat → Nat) : ∀ c, best4 L c ≤ c
  | 0 => Nat.le_refl 0
  | c + 1 => by
    unfold best4
    have := best4_le L c
    split <;> omega
def aimL (P O L0 : Nat → Nat) : Nat → Nat → Nat
  | 0 => L0
  | t + 1 => if P (O t) ≤ aimL P O L0 t (best4 (aimL P O L0 t) 3) then nup (aimL P O L0 t) (best4 (aimL P O L0 t) 3) (aimL P O L0 t (best4 (aimL P O L0 t) 3) - P (O t)) else aimL P O L0 t
def aimH (P O L0 : Nat → Nat) : Nat → Nat
  | 0 => 0
  | t + 1 => if P (O t) ≤ aimL P O L0 t (best4 (aimL P O L0 t) 3) then aimH P O L0 t + P (O t) else aimH P O L0 t
def aimC (P O L0 : Nat → Nat) (C0 : Nat → Int32) : Nat → Nat → Int32
  | 0 => C0
  | t + 1 => upd (aimC P O L0 C0 t) (O t) (if P (O t) ≤ aimL P O L0 t (best4 (aimL P O L0 t) 3) then nI (best4 (aimL P O L0 t) 3) else -2)
theorem aimH_le {P O L0 : Nat → Nat} {b : Nat} (hP : ∀ i, P i ≤ b) : ∀ t, aimH P O L0 t ≤ t * b
  | 0 => Nat.zero_le _
  | t + 1 => by
    have ih := aimH_le (O := O) (L0 := L0) hP t
    have := hP (O t)
    rw [Nat.succ_mul]
    unfold aimH
    split <;> omega

def grow (S : Nat → Nat) (d k : Nat) : Nat → Nat := fun i => if i < k then min 90 (S i + 1 * d) else S i
theorem grow_up (S : Nat → Nat) (d k : Nat) : nup (grow S d k) k (min 90 (S k + 1 * d)) = grow S d (k + 1) := by
  funext i
  unfold nup grow
  by_cases h : i = k
  · rw [if_pos h, if_pos (by omega), h]
  · rw [if_neg h]
    by_cases h2 : i < k
    · rw [if_pos h2, if_pos (by omega)]
    · rw [if_neg h2, if_neg (by omega)]
theorem grow_0 (S : Nat → Nat) (d : Nat) : grow S d 0 = S := by
  funext i
  unfold grow
  rw [if_neg (Nat.not_lt_zero i)]
theorem grow_at (S : Nat → Nat) (d k : Nat) : grow S d k k = S k := by
  unfold grow
  rw [if_neg (Nat.lt_irrefl k)]
theorem best4_s (L : Nat → Nat) {c : Nat} (h : 1 ≤ c) : best4 L c = if L (best4 L (c - 1)) < L c then c else best4 L (c - 1) := by
  obtain ⟨j, rfl⟩ : ∃ j, c = j + 1 := ⟨c - 1, by omega⟩
  rfl
def wsh (S : Nat → Nat) (n : Nat) : Nat → Nat → Nat
  | 0 => S
  | t + 1 => nup (wsh S n t) (best4 (wsh S n t) (n - 1)) 0
def wgo (S : Nat → Nat) (n : Nat) : Nat → Nat
  | 0 => 0
  | t + 1 => wgo S n t + wsh S n t (best4 (wsh S n t) (n - 1))
theorem wsh_le {S : Nat → Nat} {n b N : Nat} (h : ∀ i, i < N → S i ≤ b) : ∀ t i, i < N → wsh S n t i ≤ b
  | 0, i, hi => h i hi
  | t + 1, i, hi => nb_put (wsh_le h t) (Nat.zero_le b) i hi
def btw (nx ny fx fy : Int32) : Bool := eqI ((nx - 7) * (fy - 0)) ((ny - 0) * (fx - 7)) && (ltI 0 ((nx - 7) * (fx - 7) + (ny - 0) * (fy - 0)) && ltI ((nx - 7) * (fx - 7) + (ny - 0) * (fy - 0)) ((fx - 7) * (fx - 7) + (fy - 0) * (fy - 0)))
theorem cpy0 {f g : Nat → Int32} {a b c n i : Nat} (ha : a = 0) (hb : b = 0) (hc : c = n) (hi : i < n) : va_cpy f g a b c i = f i := by
  subst ha; subst hb; subst hc
  rw [pk_cpy_in (Nat.zero_le i) (by omega)]
  congr 1
  omega
def pwF (F : Nat → Nat → Int32) (H S W : Nat → Nat) (d h mo : Nat) : Nat → Nat := fun i => pwN F H S W d i h mo
theorem pwN_cong {F G : Nat → Nat → Int32} {H S W : Nat → Nat} {d m h mo : Nat} (e : ∀ j, j ∉ ([15, 16, 17, 18, 19, 20, 21, 22] : List Nat) → G j = F j) : pwN G H S W d m h mo = pwN F H S W d m h mo := by
  unfold pwN pwC shC
  rw [e 5 (by decide), e 6 (by decide), e 7 (by decide), e 8 (by decide), e 10 (by decide), e 11 (by decide)]
theorem posn_s {P O : Nat → Nat} {m t : Nat} (h : 1 ≤ t) (hl : P (O (t - 1)) < P m) : posn P O m t = posn P O m (t - 1) := by
  obtain ⟨j, rfl⟩ : ∃ j, t = j + 1 := ⟨t - 1, by omega⟩
  rw [posn]
  exact if_pos hl
theorem posn_e {P O : Nat → Nat} {m t : Nat} (h : 1 ≤ t) (hl : ¬ P (O (t - 1)) < P m) : posn P O m t = t := by
  obtain ⟨j, rfl⟩ : ∃ j, t = j + 1 := ⟨t - 1, by omega⟩
  rw [posn]
  exact if_neg hl
def ahF (F : Nat → Nat → Int32) (H S W Lm : Nat → Nat) (d n h mo : Nat) : Nat := aimH (pwF F H S W d h mo) (ordn (pwF F H S W d h mo) n) Lm n
def alF (F : Nat → Nat → Int32) (H S W Lm : Nat → Nat) (d n h mo : Nat) : Nat → Nat := aimL (pwF F H S W d h mo) (ordn (pwF F H S W d h mo) n) Lm n
def acF (F : Nat → Nat → Int32) (H S W Lm : Nat → Nat) (d n h mo : Nat) : Nat → Int32 := aimC (pwF F H S W d h mo) (ordn (pwF F H S W d h mo) n) Lm (F 17) n
theorem aimL_le (P O L0 : Nat → Nat) (i : Nat) : ∀ t, aimL P O L0 t i ≤ L0 i
  | 0 => Nat.le_refl _
  | t + 1 => by
    have ih := aimL_le P O L0 i t
    unfold aimL
    split
    · unfold nup
      split
      · rename_i h1 h2
        rw [← h2]
        omega
      · exact ih
    · exact ih
theorem ahF_le {F : Nat → Nat → Int32} {H S W Lm : Nat → Nat} {d n h mo : Nat} (hn : n ≤ 40) (hH : H h ≤ 9) : ahF F H S W Lm d n h mo ≤ 4000 := by
  have q := aimH_le (P := pwF F H S W d h mo) (O := ordn (pwF F H S W d h mo) n) (L0 := Lm) (b := 100) (fun i => (pwN_eq hH).2) n
  unfold ahF
  omega
theorem alF_le (F : Nat → Nat → Int32) (H S W Lm : Nat → Nat) (d n h mo i : Nat) : alF F H S W Lm d n h mo i ≤ Lm i := aimL_le _ _ _ i n
end
section
def rm_X4_isWithin : Room := { frames := 0, cells := 0, slots := 0, locals := 0 }
set_option maxHeartbeats 4000000 in
set_option maxRecDepth 100000 in
theorem c_X4_isWithin (l : Launch) (dC : Nat → ClassId) (dI : Nat → Nat → Nat) (cI cZ cJ : ClassId) (w : va_W)  (p0 p1 p2 : Int32)   : CtI l (dC, dI) vwCl (tys3 cI cZ cJ) yX4_isWithin wsX4_isWithin rm_X4_isWithin [.int p0, .int p1, .int p2] (w) (S := Unit) (fun r _ => r = bI (isW p0 p1 p2)) (fun _ => w) 0 0 := by
  refine ct_I (cc := cX4_isWithin) (maxL := 3) (ty := .boolean) (own := RX4) (by decide) rfl rfl (Nat.le_of_ble_eq_true rfl) (lv := [(0, .int p0), (1, .int p1), (2, .int p2)]) rfl ?_
  intro p e s m args below meth c A Q ls fx hK hP hD hA hl hret
  obtain ⟨hx, hb, hml, hown, hts⟩ := id fx
  have hS : va_S A s.heap s.heap [] := va_S.rf
  obtain ⟨H, hH⟩ : ∃ H, H = s.heap := ⟨_, rfl⟩
  rw [← hH] at hP ⊢
  have hS : va_S A s.heap H [] := by rw [hH]; exact hS
  generalize ([] : List Loc) = locs at hS ⊢
  refine lv_iload_n hx hb dX4_isWithin_0 rfl (lv_at hl 0 rfl) ?_
  refine lv_iload_n hx hb dX4_isWithin_1 rfl (lv_at hl 1 rfl) ?_
  refine lv_icmp_lt (tgt := 14) hx hb dX4_isWithin_2 (by decide) (fun c_1 => ?_) (fun c_1 => ?_)
  · have c_1 : ltI p0 p1 = true := decide_eq_true c_1
    refine lv_iconst (v := 0) hx hb dX4_isWithin_14 (by decide) ?_
    exact hret 0 () H locs 15 ls rfl dX4_isWithin_15 (by first | rfl | (simp [isW, bI, c_1]; done) | (exfalso; omega)) (hP) (hD) hS
  · have c_1 : ltI p0 p1 = false := decide_eq_false c_1
    refine lv_iload_n hx hb dX4_isWithin_5 rfl (lv_at hl 0 rfl) ?_
    refine lv_iload_n hx hb dX4_isWithin_6 rfl (lv_at hl 2 rfl) ?_
    refine lv_icmp_gt (tgt := 14) hx hb dX4_isWithin_7 (by decide) (fun c_2 => ?_) (fun c_2 => ?_)
    · have c_2 : ltI p2 p0 = true := decide_eq_true c_2
      refine lv_iconst (v := 0) hx hb dX4_isWithin_14 (by decide) ?_
      exact hret 0 () H locs 15 ls rfl dX4_isWithin_15 (by first | rfl | (simp [isW, bI, c_1, c_2]; done) | (exfalso; omega)) (hP) (hD) hS
    · have c_2 : ltI p2 p0 = false := decide_eq_false c_2
      refine lv_iconst (v := 1) hx hb dX4_isWithin_10 (by decide) ?_
      refine lv_goto (tgt := 15) hx hb dX4_isWithin_11 (by decide) ?_
      exact hret 1 () H locs 15 ls rfl dX4_isWithin_15 (by first | rfl | (simp [isW, bI, c_1, c_2]; done) | (exfalso; omega)) (hP) (hD) hS
def rm_X4_isHour : Room := { frames := 1, cells := 0, slots := 0, locals := 22 }
set_option maxHeartbeats 4000000 in
set_option maxRecDepth 100000 in
theorem c_X4_isHour (l : Launch) (dC : Nat → ClassId) (dI : Nat → Nat → Nat) (cI cZ cJ : ClassId) (w : va_W)  (p0 : Int32)   : CtI l (dC, dI) vwCl (tys3 cI cZ cJ) yX4_isHour wsX4_isHour rm_X4_isHour [.int p0] (w) (S := Unit) (fun r _ => r = bI (isW p0 0 23)) (fun _ => w) 0 0 := by
  refine ct_I (cc := cX4_isHour) (maxL := 1) (ty := .boolean) (own := RX4) (by decide) rfl rfl (Nat.le_of_ble_eq_true rfl) (lv := [(0, .int p0)]) rfl ?_
  intro p e s m args below meth c A Q ls fx hK hP hD hA hl hret
  obtain ⟨hx, hb, hml, hown, hts⟩ := id fx
  have hS : va_S A s.heap s.heap [] := va_S.rf
  obtain ⟨H, hH⟩ : ∃ H, H = s.heap := ⟨_, rfl⟩
  rw [← hH] at hP ⊢
  have hS : va_S A s.heap H [] := by rw [hH]; exact hS
  generalize ([] : List Loc) = locs at hS ⊢
  refine lv_iload_n hx hb dX4_isHour_0 rfl (lv_at hl 0 rfl) ?_
  refine lv_iconst (v := 0) hx hb dX4_isHour_1 (by decide) ?_
  refine lv_bipush (v := 23) hx hb dX4_isHour_2 (by decide) ?_
  refine cw_Si (As := [.int p0, .int 0, .int 23]) (rest := []) (c_X4_isWithin l dC dI cI cZ cJ w p0 0 23) fx (va_cwS 3 hts gX4_isHour_X4_isWithin rfl rfl rfl (by decide +kernel) ⟨Nat.le_of_ble_eq_true rfl, Nat.le_of_ble_eq_true rfl⟩) hK hP hD hS hA rfl hl.1 rfl (Nat.le_of_ble_eq_true rfl) dX4_isHour_4 ⟨Nat.le_of_ble_eq_true rfl, Nat.le_of_ble_eq_true rfl⟩ (fun r_1 u_2 H locs hw_3 hP hD hS => ?_)
  have hP : va_P (dC, dI) vwCl (w) H := hP
  have hD : va_D A (w) := hD
  have hw_3 : r_1 = bI (isW p0 0 23) := hw_3
  exact hret r_1 () H locs 7 ls (by rw [hw_3]; exact bI_narrow _) dX4_isHour_7 (hw_3) (hP) (hD) hS
def rm_X4_isCell : Room := { frames := 1, cells := 0, slots := 0, locals := 22 }
set_option maxHeartbeats 4000000 in
set_option maxRecDepth 100000 in
theorem c_X4_isCell (l : Launch) (dC : Nat → ClassId) (dI : Nat → Nat → Nat) (cI cZ cJ : ClassId) (w : va_W)  (p0 : Int32)   : CtI l (dC, dI) vwCl (tys3 cI cZ cJ) yX4_isCell wsX4_isCell rm_X4_isCell [.int p0] (w) (S := Unit) (fun r _ => r = bI (isW p0 0 3)) (fun _ => w) 0 0 := by
  refine ct_I (cc := cX4_isCell) (maxL := 1) (ty := .boolean) (own := RX4) (by decide) rfl rfl (Nat.le_of_ble_eq_true rfl) (lv := [(0, .int p0)]) rfl ?_
  intro p e s m args below meth c A Q ls fx hK hP hD hA hl hret
  obtain ⟨hx, hb, hml, hown, hts⟩ := id fx
  have hS : va_S A s.heap s.heap [] := va_S.rf
  obtain ⟨H, hH⟩ : ∃ H, H = s.heap := ⟨_, rfl⟩
  rw [← hH] at hP ⊢
  have hS : va_S A s.heap H [] := by rw [hH]; exact hS
  generalize ([] : List Loc) = locs at hS ⊢
  refine lv_iload_n hx hb dX4_isCell_0 rfl (lv_at hl 0 rfl) ?_
  refine lv_iconst (v := 0) hx hb dX4_isCell_1 (by decide) ?_
  refine lv_iconst (v := 3) hx hb dX4_isCell_2 (by decide) ?_
  refine cw_Si (As := [.int p0, .int 0, .int 3]) (rest := []) (c_X4_isWithin l dC dI cI cZ cJ w p0 0 3) fx (va_cwS 3 hts gX4_isCell_X4_isWithin rfl rfl rfl (by decide +kernel) ⟨Nat.le_of_ble_eq_true rfl, Nat.le_of_ble_eq_true rfl⟩) hK hP hD hS hA rfl hl.1 rfl (Nat.le_of_ble_eq_true rfl) dX4_isCell_3 ⟨Nat.le_of_ble_eq_true rfl, Nat.le_of_ble_eq_true rfl⟩ (fun r_1 u_2 H locs hw_3 hP hD hS => ?_)
  have hP : va_P (dC, dI) vwCl (w) H := hP
  have hD : va_D A (w) := hD
  have hw_3 : r_1 = bI (isW p0 0 3) := hw_3
  exact hret r_1 () H locs 6 ls (by rw [hw_3]; exact bI_narrow _) dX4_isCell_6 (hw_3) (hP) (hD) hS
def rm_X4_refused : Room := { frames := 0, cells := 0, slots := 0, locals := 0 }
set_option maxHeartbeats 4000000 in
set_option maxRecDepth 100000 in
theorem c_X4_refused (l : Launch) (dC : Nat → ClassId) (dI : Nat → Nat → Nat) (cI cZ cJ : ClassId) (h : Nat → Nat) (F : Nat → Nat → Int32) (V : Nat → Int32)  (p0 : Int32)   : CtI l (dC, dI) vwCl (tys3 cI cZ cJ) yX4_refused wsX4_refused rm_X4_refused [.ref (h 0), .int p0] (wC cI cZ h F V) (S := Unit) (fun r _ => r = (-1)) (fun _ => wC cI cZ h F (va_up V 0 p0)) 0 0 := by
  refine ct_I (cc := cX4_refused) (maxL := 2) (ty := .int) (own := RX4) (by decide) rfl rfl (Nat.le_of_ble_eq_true rfl) (lv := [(0, .ref (h 0)), (1, .int p0)]) rfl ?_
  intro p e s m args below meth c A Q ls fx hK hP hD hA hl hret
  obtain ⟨hx, hb, hml, hown, hts⟩ := id fx
  have hS : va_S A s.heap s.heap [] := va_S.rf
  have hw0 := hts (.fieldLink RX4 41 "MirrorTower" "trouble" "I") (by decide +kernel)
  have hin_X4 : ∀ w ∈ u_ws RX4 TX4 5, w ∈ wsX4_refused := by decide +kernel
  obtain ⟨H, hH⟩ : ∃ H, H = s.heap := ⟨_, rfl⟩
  rw [← hH] at hP ⊢
  have hS : va_S A s.heap H [] := by rw [hH]; exact hS
  generalize ([] : List Loc) = locs at hS ⊢
  refine lv_aload_n hx hb dX4_refused_0 rfl (lv_at hl 0 rfl) ?_
  refine lv_iload_n hx hb dX4_refused_1 rfl (lv_at hl 1 rfl) ?_
  refine va_put (D := (dC, dI)) (ci := 4) (v := .int p0) (ty := .int) (C := RX4) (T := TX4) (N := 5) hx hb hts hin_X4 tyX4 tyX4_ok nmX4 hown hK hP hD hS 0 rfl rfl 4 (by decide) hw0 (fun _ h9 => h9) rfl (by decide +kernel) rfl rfl (Nat.le_of_ble_eq_true rfl) dX4_refused_2 (fun H locs hP hD hS => ?_)
  have hP : va_P (dC, dI) vwCl (wC cI cZ h F (va_up V 0 p0)) H := hP
  have hD : va_D A (wC cI cZ h F (va_up V 0 p0)) := hD
  refine lv_iconst (v := (-1)) hx hb dX4_refused_5 (by decide) ?_
  exact hret (-1) () H locs 6 ls rfl dX4_refused_6 (by first | rfl | (simp []; done) | (exfalso; omega)) (hP) (hD) hS
def rm_X4_denied : Room := { frames := 0, cells := 0, slots := 0, locals := 0 }
set_option maxHeartbeats 4000000 in
set_option maxRecDepth 100000 in
theorem c_X4_denied (l : Launch) (dC : Nat → ClassId) (dI : Nat → Nat → Nat) (cI cZ cJ : ClassId) (h : Nat → Nat) (F : Nat → Nat → Int32) (V : Nat → Int32)  (p0 : Int32)   : CtI l (dC, dI) vwCl (tys3 cI cZ cJ) yX4_denied wsX4_denied rm_X4_denied [.ref (h 0), .int p0] (wC cI cZ h F V) (S := Unit) (fun r _ => r = 0) (fun _ => wC cI cZ h F (va_up V 0 p0)) 0 0 := by
  refine ct_I (cc := cX4_denied) (maxL := 2) (ty := .boolean) (own := RX4) (by decide) rfl rfl (Nat.le_of_ble_eq_true rfl) (lv := [(0, .ref (h 0)), (1, .int p0)]) rfl ?_
  intro p e s m args below meth c A Q ls fx hK hP hD hA hl hret
  obtain ⟨hx, hb, hml, hown, hts⟩ := id fx
  have hS : va_S A s.heap s.heap [] := va_S.rf
  have hw0 := hts (.fieldLink RX4 41 "MirrorTower" "trouble" "I") (by decide +kernel)
  have hin_X4 : ∀ w ∈ u_ws RX4 TX4 5, w ∈ wsX4_denied := by decide +kernel
  obtain ⟨H, hH⟩ : ∃ H, H = s.heap := ⟨_, rfl⟩
  rw [← hH] at hP ⊢
  have hS : va_S A s.heap H [] := by rw [hH]; exact hS
  generalize ([] : List Loc) = locs at hS ⊢
  refine lv_aload_n hx hb dX4_denied_0 rfl (lv_at hl 0 rfl) ?_
  refine lv_iload_n hx hb dX4_denied_1 rfl (lv_at hl 1 rfl) ?_
  refine va_put (D := (dC, dI)) (ci := 4) (v := .int p0) (ty := .int) (C := RX4) (T := TX4) (N := 5) hx hb hts hin_X4 tyX4 tyX4_ok nmX4 hown hK hP hD hS 0 rfl rfl 4 (by decide) hw0 (fun _ h9 => h9) rfl (by decide +kernel) rfl rfl (Nat.le_of_ble_eq_true rfl) dX4_denied_2 (fun H locs hP hD hS => ?_)
  have hP : va_P (dC, dI) vwCl (wC cI cZ h F (va_up V 0 p0)) H := hP
  have hD : va_D A (wC cI cZ h F (va_up V 0 p0)) := hD
  refine lv_iconst (v := 0) hx hb dX4_denied_5 (by decide) ?_
  exact hret 0 () H locs 6 ls rfl dX4_denied_6 (by first | rfl | (simp []; done) | (exfalso; omega)) (hP) (hD) hS
def rm_X4_granted : Room := { frames := 0, cells := 0, slots := 0, locals := 0 }
set_option maxHeartbeats 4000000 in
set_option maxRecDepth 100000 in
theorem c_X4_granted (l : Launch) (dC : Nat → ClassId) (dI : Nat → Nat → Nat) (cI cZ cJ : ClassId) (h : Nat → Nat) (F : Nat → Nat → Int32) (V : Nat → Int32)  (p0 : Int32)   : CtI l (dC, dI) vwCl (tys3 cI cZ cJ) yX4_granted wsX4_granted rm_X4_granted [.ref (h 0), .int p0] (wC cI cZ h F V) (S := Unit) (fun r _ => r = p0) (fun _ => wC cI cZ h F (va_up V 0 0)) 0 0 := by
  refine ct_I (cc := cX4_granted) (maxL := 2) (ty := .int) (own := RX4) (by decide) rfl rfl (Nat.le_of_ble_eq_true rfl) (lv := [(0, .ref (h 0)), (1, .int p0)]) rfl ?_
  intro p e s m args below meth c A Q ls fx hK hP hD hA hl hret
  obtain ⟨hx, hb, hml, hown, hts⟩ := id fx
  have hS : va_S A s.heap s.heap [] := va_S.rf
  have hw0 := hts (.fieldLink RX4 41 "MirrorTower" "trouble" "I") (by decide +kernel)
  have hin_X4 : ∀ w ∈ u_ws RX4 TX4 5, w ∈ wsX4_granted := by decide +kernel
  obtain ⟨H, hH⟩ : ∃ H, H = s.heap := ⟨_, rfl⟩
  rw [← hH] at hP ⊢
  have hS : va_S A s.heap H [] := by rw [hH]; exact hS
  generalize ([] : List Loc) = locs at hS ⊢
  refine lv_aload_n hx hb dX4_granted_0 rfl (lv_at hl 0 rfl) ?_
  refine lv_iconst (v := 0) hx hb dX4_granted_1 (by decide) ?_
  refine va_put (D := (dC, dI)) (ci := 4) (v := .int 0) (ty := .int) (C := RX4) (T := TX4) (N := 5) hx hb hts hin_X4 tyX4 tyX4_ok nmX4 hown hK hP hD hS 0 rfl rfl 4 (by decide) hw0 (fun _ h9 => h9) rfl (by decide +kernel) rfl rfl (Nat.le_of_ble_eq_true rfl) dX4_granted_2 (fun H locs hP hD hS => ?_)
  have hP : va_P (dC, dI) vwCl (wC cI cZ h F (va_up V 0 0)) H := hP
  have hD : va_D A (wC cI cZ h F (va_up V 0 0)) := hD
  refine lv_iload_n hx hb dX4_granted_5 rfl (lv_at hl 1 rfl) ?_
  exact hret p0 () H locs 6 ls rfl dX4_granted_6 (by first | rfl | (simp []; done) | (exfalso; omega)) (hP) (hD) hS
def rm_X4_allowed : Room := { frames := 0, cells := 0, slots := 0, locals := 0 }
set_option maxHeartbeats 4000000 in
set_option maxRecDepth 100000 in
theorem c_X4_allowed (l : Launch) (dC : Nat → ClassId) (dI : Nat → Nat → Nat) (cI cZ cJ : ClassId) (h : Nat → Nat) (F : Nat → Nat → Int32) (V : Nat → Int32)     : CtI l (dC, dI) vwCl (tys3 cI cZ cJ) yX4_allowed wsX4_allowed rm_X4_allowed [.ref (h 0)] (wC cI cZ h F V) (S := Unit) (fun r _ => r = 1) (fun _ => wC cI cZ h F (va_up V 0 0)) 0 0 := by
  refine ct_I (cc := cX4_allowed) (maxL := 1) (ty := .boolean) (own := RX4) (by decide) rfl rfl (Nat.le_of_ble_eq_true rfl) (lv := [(0, .ref (h 0))]) rfl ?_
  intro p e s m args below meth c A Q ls fx hK hP hD hA hl hret
  obtain ⟨hx, hb, hml, hown, hts⟩ := id fx
  have hS : va_S A s.heap s.heap [] := va_S.rf
  have hw0 := hts (.fieldLink RX4 41 "MirrorTower" "trouble" "I") (by decide +kernel)
  have hin_X4 : ∀ w ∈ u_ws RX4 TX4 5, w ∈ wsX4_allowed := by decide +kernel
  obtain ⟨H, hH⟩ : ∃ H, H = s.heap := ⟨_, rfl⟩
  rw [← hH] at hP ⊢
  have hS : va_S A s.heap H [] := by rw [hH]; exact hS
  generalize ([] : List Loc) = locs at hS ⊢
  refine lv_aload_n hx hb dX4_allowed_0 rfl (lv_at hl 0 rfl) ?_
  refine lv_iconst (v := 0) hx hb dX4_allowed_1 (by decide) ?_
  refine va_put (D := (dC, dI)) (ci := 4) (v := .int 0) (ty := .int) (C := RX4) (T := TX4) (N := 5) hx hb hts hin_X4 tyX4 tyX4_ok nmX4 hown hK hP hD hS 0 rfl rfl 4 (by decide) hw0 (fun _ h9 => h9) rfl (by decide +kernel) rfl rfl (Nat.le_of_ble_eq_true rfl) dX4_allowed_2 (fun H locs hP hD hS => ?_)
  have hP : va_P (dC, dI) vwCl (wC cI cZ h F (va_up V 0 0)) H := hP
  have hD : va_D A (wC cI cZ h F (va_up V 0 0)) := hD
  refine lv_iconst (v := 1) hx hb dX4_allowed_5 (by decide) ?_
  exact hret 1 () H locs 6 ls rfl dX4_allowed_6 (by first | rfl | (simp []; done) | (exfalso; omega)) (hP) (hD) hS
def rm_X1_size : Room := { frames := 0, cells := 0, slots := 0, locals := 0 }
set_option maxHeartbeats 4000000 in
set_option maxRecDepth 100000 in
theorem c_X1_size (l : Launch) (dC : Nat → ClassId) (dI : Nat → Nat → Nat) (cI cZ cJ : ClassId) (h : Nat → Nat) (F : Nat → Nat → Int32) (V : Nat → Int32)     : CtI l (dC, dI) vwCl (tys3 cI cZ cJ) yX1_size wsX1_size rm_X1_size [.ref (h 1)] (wC cI cZ h F V) (S := Unit) (fun r _ => r = V 1) (fun _ => wC cI cZ h F V) 0 0 := by
  refine ct_I (cc := cX1_size) (maxL := 1) (ty := .int) (own := RX1) (by decide) rfl rfl (Nat.le_of_ble_eq_true rfl) (lv := [(0, .ref (h 1))]) rfl ?_
  intro p e s m args below meth c A Q ls fx hK hP hD hA hl hret
  obtain ⟨hx, hb, hml, hown, hts⟩ := id fx
  have hS : va_S A s.heap s.heap [] := va_S.rf
  have hw0 := hts (.fieldLink RX1 43 "MirrorTower$Field" "size" "I") (by decide +kernel)
  have hin_X1 : ∀ w ∈ u_ws RX1 TX1 11, w ∈ wsX1_size := by decide +kernel
  obtain ⟨H, hH⟩ : ∃ H, H = s.heap := ⟨_, rfl⟩
  rw [← hH] at hP ⊢
  have hS : va_S A s.heap H [] := by rw [hH]; exact hS
  generalize ([] : List Loc) = locs at hS ⊢
  refine lv_aload_n hx hb dX1_size_0 rfl (lv_at hl 0 rfl) ?_
  refine va_get (D := (dC, dI)) (ci := 1) (v := .int (V 1)) (C := RX1) (T := TX1) (N := 11) hx hb hts hin_X1 hown hK hP 1 rfl rfl 5 (by decide) hw0 (fun _ h9 => h9) rfl dX1_size_1 ?_
  exact hret (V 1) () H locs 4 ls rfl dX1_size_4 (by first | rfl | (simp []; done) | (exfalso; omega)) (hP) (hD) hS
def rm_X1_isTaken : Room := { frames := 0, cells := 0, slots := 0, locals := 0 }
set_option maxHeartbeats 4000000 in
set_option maxRecDepth 100000 in
theorem c_X1_isTaken (l : Launch) (dC : Nat → ClassId) (dI : Nat → Nat → Nat) (cI cZ cJ : ClassId) (h : Nat → Nat) (F : Nat → Nat → Int32) (V : Nat → Int32)  (k0 k1 : Nat) (hk0 : k0 < 15) (hk1 : k1 < 15)   : CtI l (dC, dI) vwCl (tys3 cI cZ cJ) yX1_isTaken wsX1_isTaken rm_X1_isTaken [.ref (h 1), .int (nI k0), .int (nI k1)] (wC cI cZ h F V) (S := Unit) (fun r _ => r = bI (tkb (F 5 k1) k0)) (fun _ => wC cI cZ h F V) 0 0 := by
  refine ct_I (cc := cX1_isTaken) (maxL := 3) (ty := .boolean) (own := RX1) (by decide) rfl rfl (Nat.le_of_ble_eq_true rfl) (lv := [(0, .ref (h 1)), (1, .int (nI k0)), (2, .int (nI k1))]) rfl ?_
  intro p e s m args below meth c A Q ls fx hK hP hD hA hl hret
  obtain ⟨hx, hb, hml, hown, hts⟩ := id fx
  have hS : va_S A s.heap s.heap [] := va_S.rf
  have hw0 := hts (.fieldLink RX1 9 "MirrorTower$Field" "taken" "[I") (by decide +kernel)
  have hin_X1 : ∀ w ∈ u_ws RX1 TX1 11, w ∈ wsX1_isTaken := by decide +kernel
  obtain ⟨H, hH⟩ : ∃ H, H = s.heap := ⟨_, rfl⟩
  rw [← hH] at hP ⊢
  have hS : va_S A s.heap H [] := by rw [hH]; exact hS
  generalize ([] : List Loc) = locs at hS ⊢
  refine lv_aload_n hx hb dX1_isTaken_0 rfl (lv_at hl 0 rfl) ?_
  refine va_get (D := (dC, dI)) (ci := 1) (v := .ref (h 5)) (C := RX1) (T := TX1) (N := 11) hx hb hts hin_X1 hown hK hP 1 rfl rfl 0 (by decide) hw0 (fun _ h9 => h9) rfl dX1_isTaken_1 ?_
  refine lv_iload_n hx hb dX1_isTaken_4 rfl (lv_at hl 2 rfl) ?_
  refine va_iald hx hb hK hP 5 0 rfl rfl (vp_in_nI (n := k1) (N := 15) (by omega) (by decide)) dX1_isTaken_5 ?_
  refine lv_topi (fun x_1 ex_1 => ?_)
  rw [nI_clamp (n := k1) (by omega)] at ex_1
  refine lv_iload_n hx hb dX1_isTaken_6 rfl (lv_at hl 1 rfl) ?_
  refine lv_ishr hx hb dX1_isTaken_7 ?_
  refine lv_iconst (v := 1) hx hb dX1_isTaken_8 (by decide) ?_
  refine lv_iand hx hb dX1_isTaken_9 ?_
  refine lv_if_eq (tgt := 17) hx hb dX1_isTaken_10 (by decide) (fun c_2 => ?_) (fun c_2 => ?_)
  · have c_2 : eqI ((x_1 >>> ((nI k0) &&& 31)) &&& 1) 0 = true := decide_eq_true c_2
    refine lv_iconst (v := 0) hx hb dX1_isTaken_17 (by decide) ?_
    exact hret 0 () H locs 18 ls rfl dX1_isTaken_18 (by
                have q := ex_1
                first | (subst q; simp [tkb, bI, c_2]) | (rw [← q]; simp [tkb, bI, c_2])) (hP) (hD) hS
  · have c_2 : eqI ((x_1 >>> ((nI k0) &&& 31)) &&& 1) 0 = false := decide_eq_false c_2
    refine lv_iconst (v := 1) hx hb dX1_isTaken_13 (by decide) ?_
    refine lv_goto (tgt := 18) hx hb dX1_isTaken_14 (by decide) ?_
    exact hret 1 () H locs 18 ls rfl dX1_isTaken_18 (by
                have q := ex_1
                first | (subst q; simp [tkb, bI, c_2]) | (rw [← q]; simp [tkb, bI, c_2])) (hP) (hD) hS
def rm_X1_soilOf : Room := { frames := 1, cells := 0, slots := 0, locals := 13 }
set_option maxHeartbeats 4000000 in
set_option maxRecDepth 100000 in
theorem c_X1_soilOf (l : Launch) (dC : Nat → ClassId) (dI : Nat → Nat → Nat) (cI cZ cJ : ClassId) (h : Nat → Nat) (F : Nat → Nat → Int32) (V : Nat → Int32) (d : Nat) (hV2 : V 2 = nI d) (bV2 : d ≤ 20) (So : Nat → Nat) (hSo : ∀ i, i < 40 → F 9 i = nI (So i)) (bSo : ∀ i, i < 40 → So i ≤ 90) (k0 k1 : Nat) (hk0 : k0 < 40) (hk1 : k1 ≤ 23)   : CtI l (dC, dI) vwCl (tys3 cI cZ cJ) yX1_soilOf wsX1_soilOf rm_X1_soilOf [.ref (h 1), .int (nI k0), .int (nI k1)] (wC cI cZ h F V) (S := Unit) (fun r _ => r = nI (min 90 (So k0 + k1 * d))) (fun _ => wC cI cZ h F V) 0 0 := by
  refine ct_I (cc := cX1_soilOf) (maxL := 3) (ty := .int) (own := RX1) (by decide) rfl rfl (Nat.le_of_ble_eq_true rfl) (lv := [(0, .ref (h 1)), (1, .int (nI k0)), (2, .int (nI k1))]) rfl ?_
  intro p e s m args below meth c A Q ls fx hK hP hD hA hl hret
  obtain ⟨hx, hb, hml, hown, hts⟩ := id fx
  have hS : va_S A s.heap s.heap [] := va_S.rf
  have hw0 := hts (.fieldLink RX1 24 "MirrorTower$Field" "soils" "[I") (by decide +kernel)
  have hin_X1 : ∀ w ∈ u_ws RX1 TX1 11, w ∈ wsX1_soilOf := by decide +kernel
  have hw2 := hts (.fieldLink RX1 39 "MirrorTower$Field" "dustAnHour" "I") (by decide +kernel)
  have hw3 := hts (.methodLink RX1 66 Lib.Math.min.name) (by decide +kernel)
  have hw4 := hts (.static Lib.Math.min.name) (by decide +kernel)
  have hw5 := hts (.initialized "java/lang/Math") (by decide +kernel)
  have hw6 := hts (.code Lib.Math.min.name Lib.Math.min.code 2 (some .int)) (by decide +kernel)
  have hkd : k1 * d ≤ 23 * 20 := Nat.mul_le_mul hk1 bV2
  obtain ⟨H, hH⟩ : ∃ H, H = s.heap := ⟨_, rfl⟩
  rw [← hH] at hP ⊢
  have hS : va_S A s.heap H [] := by rw [hH]; exact hS
  generalize ([] : List Loc) = locs at hS ⊢
  refine lv_bipush (v := 90) hx hb dX1_soilOf_0 (by decide) ?_
  refine lv_aload_n hx hb dX1_soilOf_2 rfl (lv_at hl 0 rfl) ?_
  refine va_get (D := (dC, dI)) (ci := 1) (v := .ref (h 9)) (C := RX1) (T := TX1) (N := 11) hx hb hts hin_X1 hown hK hP 1 rfl rfl 4 (by decide) hw0 (fun _ h9 => h9) rfl dX1_soilOf_3 ?_
  refine lv_iload_n hx hb dX1_soilOf_6 rfl (lv_at hl 1 rfl) ?_
  refine va_iald hx hb hK hP 9 0 rfl rfl (vp_in_nI (n := k0) (N := 40) (by omega) (by decide)) dX1_soilOf_7 ?_
  have hb_1 := bSo k0 (by omega)
  refine lv_topi (fun x_2 ex_2 => ?_)
  obtain rfl : x_2 = nI (So k0) := ex_2.trans ((congrArg (F 9) (nI_clamp (n := k0) (by omega))).trans (hSo k0 (by omega)))
  refine lv_iload_n hx hb dX1_soilOf_8 rfl (lv_at hl 2 rfl) ?_
  refine lv_aload_n hx hb dX1_soilOf_9 rfl (lv_at hl 0 rfl) ?_
  refine va_get (D := (dC, dI)) (ci := 1) (v := .int (V 2)) (C := RX1) (T := TX1) (N := 11) hx hb hts hin_X1 hown hK hP 1 rfl rfl 10 (by decide) hw2 (fun _ h9 => h9) rfl dX1_soilOf_10 ?_
  refine lv_topi (fun x_3 ex_3 => ?_)
  obtain rfl : x_3 = nI d := ex_3.trans (hV2)
  refine lv_imul hx hb dX1_soilOf_13 ?_
  refine lv_topi (fun x_4 ex_4 => ?_)
  obtain rfl : x_4 = nI (k1 * d) := ex_4.trans (pk_mul k1 d)
  refine lv_iadd hx hb dX1_soilOf_14 ?_
  refine lv_topi (fun x_5 ex_5 => ?_)
  obtain rfl : x_5 = nI ((So k0) + (k1 * d)) := ex_5.trans (nI_add (So k0) (k1 * d))
  refine va_mmin hx hb (hml.trans hl.1.symm) hown hw3 hw4 hw5 hw6 (Nat.le_of_ble_eq_true rfl) (Nat.le_of_ble_eq_true rfl) (Nat.le_of_ble_eq_true rfl) (Nat.le_of_ble_eq_true rfl) dX1_soilOf_15 ?_
  refine lv_topi (fun x_6 ex_6 => ?_)
  obtain rfl : x_6 = nI (min 90 ((So k0) + (k1 * d))) := ex_6.trans (mm_min (a := 90) (b := (So k0) + (k1 * d)) (by omega) (by omega))
  exact hret (nI (min 90 ((So k0) + (k1 * d)))) () H locs 18 ls rfl dX1_soilOf_18 (by first | rfl | (simp []; done) | (exfalso; omega)) (hP) (hD) hS
def rm_X1_isStowed : Room := { frames := 0, cells := 0, slots := 0, locals := 0 }
set_option maxHeartbeats 4000000 in
set_option maxRecDepth 100000 in
theorem c_X1_isStowed (l : Launch) (dC : Nat → ClassId) (dI : Nat → Nat → Nat) (cI cZ cJ : ClassId) (h : Nat → Nat) (F : Nat → Nat → Int32) (V : Nat → Int32)  (Wd : Nat → Nat) (hWd : ∀ i, i < 24 → F 13 i = nI (Wd i)) (bWd : ∀ i, i < 24 → Wd i ≤ 99) (k0 : Nat) (hk0 : k0 < 24)   : CtI l (dC, dI) vwCl (tys3 cI cZ cJ) yX1_isStowed wsX1_isStowed rm_X1_isStowed [.ref (h 1), .int (nI k0)] (wC cI cZ h F V) (S := Unit) (fun r _ => r = bI (stow Wd k0)) (fun _ => wC cI cZ h F V) 0 0 := by
  refine ct_I (cc := cX1_isStowed) (maxL := 2) (ty := .boolean) (own := RX1) (by decide) rfl rfl (Nat.le_of_ble_eq_true rfl) (lv := [(0, .ref (h 1)), (1, .int (nI k0))]) rfl ?_
  intro p e s m args below meth c A Q ls fx hK hP hD hA hl hret
  obtain ⟨hx, hb, hml, hown, hts⟩ := id fx
  have hS : va_S A s.heap s.heap [] := va_S.rf
  have hw0 := hts (.fieldLink RX1 36 "MirrorTower$Field" "winds" "[I") (by decide +kernel)
  have hin_X1 : ∀ w ∈ u_ws RX1 TX1 11, w ∈ wsX1_isStowed := by decide +kernel
  obtain ⟨H, hH⟩ : ∃ H, H = s.heap := ⟨_, rfl⟩
  rw [← hH] at hP ⊢
  have hS : va_S A s.heap H [] := by rw [hH]; exact hS
  generalize ([] : List Loc) = locs at hS ⊢
  refine lv_aload_n hx hb dX1_isStowed_0 rfl (lv_at hl 0 rfl) ?_
  refine va_get (D := (dC, dI)) (ci := 1) (v := .ref (h 13)) (C := RX1) (T := TX1) (N := 11) hx hb hts hin_X1 hown hK hP 1 rfl rfl 9 (by decide) hw0 (fun _ h9 => h9) rfl dX1_isStowed_1 ?_
  refine lv_iload_n hx hb dX1_isStowed_4 rfl (lv_at hl 1 rfl) ?_
  refine va_iald hx hb hK hP 13 0 rfl rfl (vp_in_nI (n := k0) (N := 24) (by omega) (by decide)) dX1_isStowed_5 ?_
  have hb_1 := bWd k0 (by omega)
  refine lv_topi (fun x_2 ex_2 => ?_)
  obtain rfl : x_2 = nI (Wd k0) := ex_2.trans ((congrArg (F 13) (nI_clamp (n := k0) (by omega))).trans (hWd k0 (by omega)))
  refine lv_bipush (v := 50) hx hb dX1_isStowed_6 (by decide) ?_
  refine lv_icmp_gt (tgt := 32) hx hb dX1_isStowed_8 (by decide) (fun c_3 => ?_) (fun c_3 => ?_)
  · have c_3 : 50 < (Wd k0) := (nI_ltI (a := 50) (b := Wd k0) (by omega) (by omega)).mp c_3
    refine lv_iconst (v := 1) hx hb dX1_isStowed_32 (by decide) ?_
    refine lv_goto (tgt := 37) hx hb dX1_isStowed_33 (by decide) ?_
    exact hret 1 () H locs 37 ls rfl dX1_isStowed_37 (by rw [show stow Wd k0 = true from by simp [stow]; omega]; rfl) (hP) (hD) hS
  · have c_3 : ¬ 50 < (Wd k0) := fun h => c_3 ((nI_ltI (a := 50) (b := Wd k0) (by omega) (by omega)).mpr h)
    refine lv_iload_n hx hb dX1_isStowed_11 rfl (lv_at hl 1 rfl) ?_
    refine lv_iconst (v := 1) hx hb dX1_isStowed_12 (by decide) ?_
    refine lv_iadd hx hb dX1_isStowed_13 ?_
    refine lv_topi (fun x_4 ex_4 => ?_)
    obtain rfl : x_4 = nI (k0 + 1) := ex_4.trans (nI_add k0 1)
    refine lv_bipush (v := 24) hx hb dX1_isStowed_14 (by decide) ?_
    refine lv_icmp_ge (tgt := 36) hx hb dX1_isStowed_16 (by decide) (fun c_5 => ?_) (fun c_5 => ?_)
    · have c_5 : 24 ≤ (k0 + 1) := (nI_leI (a := 24) (b := k0 + 1) (by omega) (by omega)).mp c_5
      refine lv_iconst (v := 0) hx hb dX1_isStowed_36 (by decide) ?_
      exact hret 0 () H locs 37 ls rfl dX1_isStowed_37 (by rw [show stow Wd k0 = false from by simp [stow]; omega]; rfl) (hP) (hD) hS
    · have c_5 : ¬ 24 ≤ (k0 + 1) := fun h => c_5 ((nI_leI (a := 24) (b := k0 + 1) (by omega) (by omega)).mpr h)
      refine lv_aload_n hx hb dX1_isStowed_19 rfl (lv_at hl 0 rfl) ?_
      refine va_get (D := (dC, dI)) (ci := 1) (v := .ref (h 13)) (C := RX1) (T := TX1) (N := 11) hx hb hts hin_X1 hown hK hP 1 rfl rfl 9 (by decide) hw0 (fun _ h9 => h9) rfl dX1_isStowed_20 ?_
      refine lv_iload_n hx hb dX1_isStowed_23 rfl (lv_at hl 1 rfl) ?_
      refine lv_iconst (v := 1) hx hb dX1_isStowed_24 (by decide) ?_
      refine lv_iadd hx hb dX1_isStowed_25 ?_
      refine lv_topi (fun x_6 ex_6 => ?_)
      obtain rfl : x_6 = nI (k0 + 1) := ex_6.trans (nI_add k0 1)
      refine va_iald hx hb hK hP 13 0 rfl rfl (vp_in_nI (n := k0 + 1) (N := 24) (by omega) (by decide)) dX1_isStowed_26 ?_
      have hb_7 := bWd (k0 + 1) (by omega)
      refine lv_topi (fun x_8 ex_8 => ?_)
      obtain rfl : x_8 = nI (Wd (k0 + 1)) := ex_8.trans ((congrArg (F 13) (nI_clamp (n := k0 + 1) (by omega))).trans (hWd (k0 + 1) (by omega)))
      refine lv_bipush (v := 50) hx hb dX1_isStowed_27 (by decide) ?_
      refine lv_icmp_le (tgt := 36) hx hb dX1_isStowed_29 (by decide) (fun c_9 => ?_) (fun c_9 => ?_)
      · have c_9 : (Wd (k0 + 1)) ≤ 50 := (nI_leI (a := Wd (k0 + 1)) (b := 50) (by omega) (by omega)).mp c_9
        refine lv_iconst (v := 0) hx hb dX1_isStowed_36 (by decide) ?_
        exact hret 0 () H locs 37 ls rfl dX1_isStowed_37 (by rw [show stow Wd k0 = false from by simp [stow]; omega]; rfl) (hP) (hD) hS
      · have c_9 : ¬ (Wd (k0 + 1)) ≤ 50 := fun h => c_9 ((nI_leI (a := Wd (k0 + 1)) (b := 50) (by omega) (by omega)).mpr h)
        refine lv_iconst (v := 1) hx hb dX1_isStowed_32 (by decide) ?_
        refine lv_goto (tgt := 37) hx hb dX1_isStowed_33 (by decide) ?_
        exact hret 1 () H locs 37 ls rfl dX1_isStowed_37 (by rw [show stow Wd k0 = true from by simp [stow]; omega]; rfl) (hP) (hD) hS
def rm_X1_shadersOf : Room := { frames := 0, cells := 0, slots := 0, locals := 0 }
set_option maxHeartbeats 4000000 in
set_option maxRecDepth 100000 in
theorem c_X1_shadersOf (l : Launch) (dC : Nat → ClassId) (dI : Nat → Nat → Nat) (cI cZ cJ : ClassId) (h : Nat → Nat) (F : Nat → Nat → Int32) (V : Nat → Int32)  (Hh : Nat → Nat) (hHh : ∀ i, i < 24 → F 12 i = nI (Hh i)) (bHh : ∀ i, i < 24 → Hh i ≤ 9) (k0 k1 : Nat) (hk0 : k0 < 40) (hk1 : k1 < 24)   : CtI l (dC, dI) vwCl (tys3 cI cZ cJ) yX1_shadersOf wsX1_shadersOf rm_X1_shadersOf [.ref (h 1), .int (nI k0), .int (nI k1)] (wC cI cZ h F V) (S := Unit) (fun r _ => r = shC F Hh k0 k1) (fun _ => wC cI cZ h F V) 0 0 := by
  refine ct_I (cc := cX1_shadersOf) (maxL := 7) (ty := .int) (own := RX1) (by decide) rfl rfl (Nat.le_of_ble_eq_true rfl) (lv := [(0, .ref (h 1)), (1, .int (nI k0)), (2, .int (nI k1))]) rfl ?_
  intro p e s m args below meth c A Q ls fx hK hP hD hA hl hret
  obtain ⟨hx, hb, hml, hown, hts⟩ := id fx
  have hS : va_S A s.heap s.heap [] := va_S.rf
  have hw0 := hts (.fieldLink RX1 33 "MirrorTower$Field" "heights" "[I") (by decide +kernel)
  have hin_X1 : ∀ w ∈ u_ws RX1 TX1 11, w ∈ wsX1_shadersOf := by decide +kernel
  have hw2 := hts (.fieldLink RX1 15 "MirrorTower$Field" "xs" "[I") (by decide +kernel)
  have hw3 := hts (.fieldLink RX1 18 "MirrorTower$Field" "ys" "[I") (by decide +kernel)
  have hw4 := hts (.fieldLink RX1 27 "MirrorTower$Field" "stepsX" "[I") (by decide +kernel)
  have hw5 := hts (.fieldLink RX1 30 "MirrorTower$Field" "stepsY" "[I") (by decide +kernel)
  have hw6 := hts (.fieldLink RX1 9 "MirrorTower$Field" "taken" "[I") (by decide +kernel)
  obtain ⟨H, hH⟩ : ∃ H, H = s.heap := ⟨_, rfl⟩
  rw [← hH] at hP ⊢
  have hS : va_S A s.heap H [] := by rw [hH]; exact hS
  generalize ([] : List Loc) = locs at hS ⊢
  refine lv_aload_n hx hb dX1_shadersOf_0 rfl (lv_at hl 0 rfl) ?_
  refine va_get (D := (dC, dI)) (ci := 1) (v := .ref (h 12)) (C := RX1) (T := TX1) (N := 11) hx hb hts hin_X1 hown hK hP 1 rfl rfl 8 (by decide) hw0 (fun _ h9 => h9) rfl dX1_shadersOf_1 ?_
  refine lv_iload_n hx hb dX1_shadersOf_4 rfl (lv_at hl 2 rfl) ?_
  refine va_iald hx hb hK hP 12 0 rfl rfl (vp_in_nI (n := k1) (N := 24) (by omega) (by decide)) dX1_shadersOf_5 ?_
  have hb_1 := bHh k1 (by omega)
  refine lv_topi (fun x_2 ex_2 => ?_)
  obtain rfl : x_2 = nI (Hh k1) := ex_2.trans ((congrArg (F 12) (nI_clamp (n := k1) (by omega))).trans (hHh k1 (by omega)))
  refine lv_if_ne (tgt := 11) hx hb dX1_shadersOf_6 (by decide) (fun c_3 => ?_) (fun c_3 => ?_)
  · have c_3 : ¬ (Hh k1) = 0 := fun h => c_3 ((nI_eq (a := Hh k1) (b := 0) (by omega) (by omega)).mpr h)
    have hh0 : ¬ Hh k1 = 0 := by omega
    refine lv_aload_n hx hb dX1_shadersOf_11 rfl (lv_at hl 0 rfl) ?_
    refine va_get (D := (dC, dI)) (ci := 1) (v := .ref (h 6)) (C := RX1) (T := TX1) (N := 11) hx hb hts hin_X1 hown hK hP 1 rfl rfl 1 (by decide) hw2 (fun _ h9 => h9) rfl dX1_shadersOf_12 ?_
    refine lv_iload_n hx hb dX1_shadersOf_15 rfl (lv_at hl 1 rfl) ?_
    refine va_iald hx hb hK hP 6 0 rfl rfl (vp_in_nI (n := k0) (N := 40) (by omega) (by decide)) dX1_shadersOf_16 ?_
    refine lv_topi (fun x_4 ex_4 => ?_)
    rw [nI_clamp (n := k0) (by omega)] at ex_4
    refine lv_istore_n (lv' := [(3, .int x_4), (0, .ref (h 1)), (1, .int (nI k0)), (2, .int (nI k1))]) hx hb dX1_shadersOf_17 rfl hl (by decide) rfl (fun ls hl => ?_)
    refine lv_aload_n hx hb dX1_shadersOf_18 rfl (lv_at hl 1 rfl) ?_
    refine va_get (D := (dC, dI)) (ci := 1) (v := .ref (h 7)) (C := RX1) (T := TX1) (N := 11) hx hb hts hin_X1 hown hK hP 1 rfl rfl 2 (by decide) hw3 (fun _ h9 => h9) rfl dX1_shadersOf_19 ?_
    refine lv_iload_n hx hb dX1_shadersOf_22 rfl (lv_at hl 2 rfl) ?_
    refine va_iald hx hb hK hP 7 0 rfl rfl (vp_in_nI (n := k0) (N := 40) (by omega) (by decide)) dX1_shadersOf_23 ?_
    refine lv_topi (fun x_5 ex_5 => ?_)
    rw [nI_clamp (n := k0) (by omega)] at ex_5
    refine lv_istore (lv' := [(4, .int x_5), (3, .int x_4), (0, .ref (h 1)), (1, .int (nI k0)), (2, .int (nI k1))]) hx hb dX1_shadersOf_24 hl (by decide) rfl (fun ls hl => ?_)
    refine lv_iconst (v := 0) hx hb dX1_shadersOf_26 (by decide) ?_
    refine lv_istore (lv' := [(5, .int 0), (4, .int x_5), (3, .int x_4), (0, .ref (h 1)), (1, .int (nI k0)), (2, .int (nI k1))]) hx hb dX1_shadersOf_27 hl (by decide) rfl (fun ls hl => ?_)
    refine lv_bipush (v := 10) hx hb dX1_shadersOf_29 (by decide) ?_
    refine lv_aload_n hx hb dX1_shadersOf_31 rfl (lv_at hl 3 rfl) ?_
    refine va_get (D := (dC, dI)) (ci := 1) (v := .ref (h 12)) (C := RX1) (T := TX1) (N := 11) hx hb hts hin_X1 hown hK hP 1 rfl rfl 8 (by decide) hw0 (fun _ h9 => h9) rfl dX1_shadersOf_32 ?_
    refine lv_iload_n hx hb dX1_shadersOf_35 rfl (lv_at hl 5 rfl) ?_
    refine va_iald hx hb hK hP 12 0 rfl rfl (vp_in_nI (n := k1) (N := 24) (by omega) (by decide)) dX1_shadersOf_36 ?_
    have hb_6 := bHh k1 (by omega)
    refine lv_topi (fun x_7 ex_7 => ?_)
    obtain rfl : x_7 = nI (Hh k1) := ex_7.trans ((congrArg (F 12) (nI_clamp (n := k1) (by omega))).trans (hHh k1 (by omega)))
    refine lv_isub hx hb dX1_shadersOf_37 ?_
    refine lv_topi (fun x_8 ex_8 => ?_)
    obtain rfl : x_8 = nI (10 - (Hh k1)) := ex_8.trans (pk_sub (a := 10) (b := Hh k1) (by omega))
    refine lv_istore (lv' := [(6, .int (nI (10 - (Hh k1)))), (5, .int 0), (4, .int x_5), (3, .int x_4), (0, .ref (h 1)), (1, .int (nI k0)), (2, .int (nI k1))]) hx hb dX1_shadersOf_38 hl (by decide) rfl (fun ls hl => ?_)
    have loop40 : ∀ (fu : Nat) (k : Nat) (x : Int32) (y : Int32) (a : Int32), (k ≤ 10) → (shC F Hh k0 k1 = shl (F 5) (F 10 k1) (F 11 k1) k x y a) → (k) < fu → ∀ (H : Heap) (locs : List Loc) (ls : Array Slot), va_P (dC, dI) vwCl (wC cI cZ h F V) H → va_D A (wC cI cZ h F V) → va_S A s.heap H locs → lv_has ls 7 [(0, .ref (h 1)), (1, .int (nI k0)), (2, .int (nI k1)), (3, .int x), (4, .int y), (5, .int a), (6, .int (nI k))] → W p l e rm_X1_shadersOf s m args below meth c H locs 0 0 Q (F0 m 40 ls []) := by
      intro fu
      induction fu with
      | zero => intro k x y a hk hq hn_; exact absurd hn_ (Nat.not_lt_zero _)
      | succ fu ih40 =>
        intro k x y a hk hq hn_ H locs ls hP hD hS hl
        refine lv_iload hx hb dX1_shadersOf_40 (lv_at hl 6 rfl) ?_
        refine lv_if_le (tgt := 112) hx hb dX1_shadersOf_42 (by decide) (fun c_9 => ?_) (fun c_9 => ?_)
        · have c_9 : k ≤ 0 := (nI_leI (a := k) (b := 0) (by omega) (by omega)).mp c_9
          refine lv_iload hx hb dX1_shadersOf_112 (lv_at hl 5 rfl) ?_
          exact hret a () H locs 114 ls rfl dX1_shadersOf_114 (by rw [hq, show k = 0 by omega]; rfl) (hP) (hD) hS
        · have c_9 : ¬ k ≤ 0 := fun h => c_9 ((nI_leI (a := k) (b := 0) (by omega) (by omega)).mpr h)
          refine lv_iload_n hx hb dX1_shadersOf_45 rfl (lv_at hl 3 rfl) ?_
          refine lv_aload_n hx hb dX1_shadersOf_46 rfl (lv_at hl 0 rfl) ?_
          refine va_get (D := (dC, dI)) (ci := 1) (v := .ref (h 10)) (C := RX1) (T := TX1) (N := 11) hx hb hts hin_X1 hown hK hP 1 rfl rfl 6 (by decide) hw4 (fun _ h9 => h9) rfl dX1_shadersOf_47 ?_
          refine lv_iload_n hx hb dX1_shadersOf_50 rfl (lv_at hl 2 rfl) ?_
          refine va_iald hx hb hK hP 10 0 rfl rfl (vp_in_nI (n := k1) (N := 24) (by omega) (by decide)) dX1_shadersOf_51 ?_
          refine lv_topi (fun x_10 ex_10 => ?_)
          rw [nI_clamp (n := k1) (by omega)] at ex_10
          refine lv_iadd hx hb dX1_shadersOf_52 ?_
          refine lv_istore_n (lv' := [(3, .int (x + x_10)), (0, .ref (h 1)), (1, .int (nI k0)), (2, .int (nI k1)), (4, .int y), (5, .int a), (6, .int (nI k))]) hx hb dX1_shadersOf_53 rfl hl (by decide) rfl (fun ls hl => ?_)
          refine lv_iload hx hb dX1_shadersOf_54 (lv_at hl 4 rfl) ?_
          refine lv_aload_n hx hb dX1_shadersOf_56 rfl (lv_at hl 1 rfl) ?_
          refine va_get (D := (dC, dI)) (ci := 1) (v := .ref (h 11)) (C := RX1) (T := TX1) (N := 11) hx hb hts hin_X1 hown hK hP 1 rfl rfl 7 (by decide) hw5 (fun _ h9 => h9) rfl dX1_shadersOf_57 ?_
          refine lv_iload_n hx hb dX1_shadersOf_60 rfl (lv_at hl 3 rfl) ?_
          refine va_iald hx hb hK hP 11 0 rfl rfl (vp_in_nI (n := k1) (N := 24) (by omega) (by decide)) dX1_shadersOf_61 ?_
          refine lv_topi (fun x_11 ex_11 => ?_)
          rw [nI_clamp (n := k1) (by omega)] at ex_11
          refine lv_iadd hx hb dX1_shadersOf_62 ?_
          refine lv_istore (lv' := [(4, .int (y + x_11)), (3, .int (x + x_10)), (0, .ref (h 1)), (1, .int (nI k0)), (2, .int (nI k1)), (5, .int a), (6, .int (nI k))]) hx hb dX1_shadersOf_63 hl (by decide) rfl (fun ls hl => ?_)
          refine lv_iload_n hx hb dX1_shadersOf_65 rfl (lv_at hl 1 rfl) ?_
          refine lv_if_lt (tgt := 87) hx hb dX1_shadersOf_66 (by decide) (fun c_12 => ?_) (fun c_12 => ?_)
          · have c_12 : ltI (x + x_10) 0 = true := decide_eq_true c_12
            refine lv_iload hx hb dX1_shadersOf_87 (lv_at hl 5 rfl) ?_
            exact hret a () H locs 89 ls rfl dX1_shadersOf_89 (by
                          have q1 := ex_10
                          have q2 := ex_11
                          obtain ⟨k9, rfl⟩ : ∃ z, k = z + 1 := ⟨k - 1, by omega⟩
                          rw [hq, shl, ← q1, ← q2]
                          simp [c_12]) (hP) (hD) hS
          · have c_12 : ltI (x + x_10) 0 = false := decide_eq_false c_12
            refine lv_iload_n hx hb dX1_shadersOf_69 rfl (lv_at hl 1 rfl) ?_
            refine lv_bipush (v := 15) hx hb dX1_shadersOf_70 (by decide) ?_
            refine lv_icmp_ge (tgt := 87) hx hb dX1_shadersOf_72 (by decide) (fun c_13 => ?_) (fun c_13 => ?_)
            · have c_13 : ltI (x + x_10) 15 = false := decide_eq_false (Int32.not_lt.mpr c_13)
              refine lv_iload hx hb dX1_shadersOf_87 (lv_at hl 5 rfl) ?_
              exact hret a () H locs 89 ls rfl dX1_shadersOf_89 (by
                            have q1 := ex_10
                            have q2 := ex_11
                            obtain ⟨k9, rfl⟩ : ∃ z, k = z + 1 := ⟨k - 1, by omega⟩
                            rw [hq, shl, ← q1, ← q2]
                            simp [c_12, c_13]) (hP) (hD) hS
            · have c_13 : ltI (x + x_10) 15 = true := decide_eq_true (Int32.not_le.mp c_13)
              refine lv_iload hx hb dX1_shadersOf_75 (lv_at hl 0 rfl) ?_
              refine lv_if_lt (tgt := 87) hx hb dX1_shadersOf_77 (by decide) (fun c_14 => ?_) (fun c_14 => ?_)
              · have c_14 : ltI (y + x_11) 0 = true := decide_eq_true c_14
                refine lv_iload hx hb dX1_shadersOf_87 (lv_at hl 5 rfl) ?_
                exact hret a () H locs 89 ls rfl dX1_shadersOf_89 (by
                              have q1 := ex_10
                              have q2 := ex_11
                              obtain ⟨k9, rfl⟩ : ∃ z, k = z + 1 := ⟨k - 1, by omega⟩
                              rw [hq, shl, ← q1, ← q2]
                              simp [c_12, c_13, c_14]) (hP) (hD) hS
              · have c_14 : ltI (y + x_11) 0 = false := decide_eq_false c_14
                refine lv_iload hx hb dX1_shadersOf_80 (lv_at hl 0 rfl) ?_
                refine lv_bipush (v := 15) hx hb dX1_shadersOf_82 (by decide) ?_
                refine lv_icmp_lt (tgt := 90) hx hb dX1_shadersOf_84 (by decide) (fun c_15 => ?_) (fun c_15 => ?_)
                · have c_15 : ltI (y + x_11) 15 = true := decide_eq_true c_15
                  refine lv_iload hx hb dX1_shadersOf_90 (lv_at hl 5 rfl) ?_
                  refine lv_aload_n hx hb dX1_shadersOf_92 rfl (lv_at hl 2 rfl) ?_
                  refine va_get (D := (dC, dI)) (ci := 1) (v := .ref (h 5)) (C := RX1) (T := TX1) (N := 11) hx hb hts hin_X1 hown hK hP 1 rfl rfl 0 (by decide) hw6 (fun _ h9 => h9) rfl dX1_shadersOf_93 ?_
                  refine lv_iload hx hb dX1_shadersOf_96 (lv_at hl 0 rfl) ?_
                  refine va_iald hx hb hK hP 5 0 rfl rfl (vp_in_of_bool c_14 c_15) dX1_shadersOf_98 ?_
                  refine lv_topi (fun x_16 ex_16 => ?_)
                  refine lv_iload_n hx hb dX1_shadersOf_99 rfl (lv_at hl 1 rfl) ?_
                  refine lv_ishr hx hb dX1_shadersOf_100 ?_
                  refine lv_iconst (v := 1) hx hb dX1_shadersOf_101 (by decide) ?_
                  refine lv_iand hx hb dX1_shadersOf_102 ?_
                  refine lv_iadd hx hb dX1_shadersOf_103 ?_
                  refine lv_topi (fun x_17 ex_17 => ?_)
                  refine lv_istore (lv' := [(5, .int x_17), (4, .int (y + x_11)), (3, .int (x + x_10)), (0, .ref (h 1)), (1, .int (nI k0)), (2, .int (nI k1)), (6, .int (nI k))]) hx hb dX1_shadersOf_104 hl (by decide) rfl (fun ls hl => ?_)
                  refine lv_iinc (v := nI (k - 1)) (lv' := [(6, .int (nI (k - 1))), (5, .int x_17), (4, .int (y + x_11)), (3, .int (x + x_10)), (0, .ref (h 1)), (1, .int (nI k0)), (2, .int (nI k1))]) hx hb dX1_shadersOf_106 hl (k := 6) rfl (dec_nI (by omega)) (by decide) rfl (fun ls hl => ?_)
                  refine lv_goto (tgt := 40) hx hb dX1_shadersOf_109 (by decide) ?_
                  exact ih40 (k - 1) (x + x_10) (y + x_11) x_17 (by omega) (by
                                have q1 := ex_10
                                have q2 := ex_11
                                obtain ⟨k9, rfl⟩ : ∃ z, k = z + 1 := ⟨k - 1, by omega⟩
                                rw [hq, shl, ← q1, ← q2]
                                simp [c_12, c_13, c_14, c_15, ex_16, ex_17]) (by omega) H locs ls hP hD hS (lv_sub hl [4, 5, 6, 3, 2, 1, 0] rfl)
                · have c_15 : ltI (y + x_11) 15 = false := decide_eq_false c_15
                  refine lv_iload hx hb dX1_shadersOf_87 (lv_at hl 5 rfl) ?_
                  exact hret a () H locs 89 ls rfl dX1_shadersOf_89 (by
                                have q1 := ex_10
                                have q2 := ex_11
                                obtain ⟨k9, rfl⟩ : ∃ z, k = z + 1 := ⟨k - 1, by omega⟩
                                rw [hq, shl, ← q1, ← q2]
                                simp [c_12, c_13, c_14, c_15]) (hP) (hD) hS
    exact loop40 _ (10 - (Hh k1)) x_4 x_5 0 (by omega) (by rw [shC, if_neg hh0, ex_4, ex_5]) (Nat.lt_succ_self _) H locs ls hP hD hS (lv_sub hl [4, 5, 6, 3, 2, 1, 0] rfl)
  · have c_3 : (Hh k1) = 0 := (nI_eq (a := Hh k1) (b := 0) (by omega) (by omega)).mp c_3
    refine lv_iconst (v := 0) hx hb dX1_shadersOf_9 (by decide) ?_
    exact hret 0 () H locs 10 ls rfl dX1_shadersOf_10 (by rw [shC, if_pos (by omega)]) (hP) (hD) hS
def rm_X1_powerOf : Room := { frames := 2, cells := 0, slots := 0, locals := 35 }
set_option maxHeartbeats 4000000 in
set_option maxRecDepth 100000 in
theorem c_X1_powerOf (l : Launch) (dC : Nat → ClassId) (dI : Nat → Nat → Nat) (cI cZ cJ : ClassId) (h : Nat → Nat) (F : Nat → Nat → Int32) (V : Nat → Int32) (d : Nat) (hV2 : V 2 = nI d) (bV2 : d ≤ 20) (So : Nat → Nat) (hSo : ∀ i, i < 40 → F 9 i = nI (So i)) (bSo : ∀ i, i < 40 → So i ≤ 90) (Hh : Nat → Nat) (hHh : ∀ i, i < 24 → F 12 i = nI (Hh i)) (bHh : ∀ i, i < 24 → Hh i ≤ 9) (Wd : Nat → Nat) (hWd : ∀ i, i < 24 → F 13 i = nI (Wd i)) (bWd : ∀ i, i < 24 → Wd i ≤ 99) (k0 k1 k2 : Nat) (hk0 : k0 < 40) (hk1 : k1 < 24) (hk2 : k2 ≤ 23)   : CtI l (dC, dI) vwCl (tys3 cI cZ cJ) yX1_powerOf wsX1_powerOf rm_X1_powerOf [.ref (h 1), .int (nI k0), .int (nI k1), .int (nI k2)] (wC cI cZ h F V) (S := Unit) (fun r _ => r = nI (pwN F Hh So Wd d k0 k1 k2)) (fun _ => wC cI cZ h F V) 0 0 := by
  refine ct_I (cc := cX1_powerOf) (maxL := 6) (ty := .int) (own := RX1) (by decide) rfl rfl (Nat.le_of_ble_eq_true rfl) (lv := [(0, .ref (h 1)), (1, .int (nI k0)), (2, .int (nI k1)), (3, .int (nI k2))]) rfl ?_
  intro p e s m args below meth c A Q ls fx hK hP hD hA hl hret
  obtain ⟨hx, hb, hml, hown, hts⟩ := id fx
  have hS : va_S A s.heap s.heap [] := va_S.rf
  have hw0 := hts (.fieldLink RX1 33 "MirrorTower$Field" "heights" "[I") (by decide +kernel)
  have hin_X1 : ∀ w ∈ u_ws RX1 TX1 11, w ∈ wsX1_powerOf := by decide +kernel
  have hw2 := hts (.methodLink RX1 58 Lib.Math.max.name) (by decide +kernel)
  have hw3 := hts (.static Lib.Math.max.name) (by decide +kernel)
  have hw4 := hts (.initialized "java/lang/Math") (by decide +kernel)
  have hw5 := hts (.code Lib.Math.max.name Lib.Math.max.code 2 (some .int)) (by decide +kernel)
  have hw6 := hts (.fieldLink RX1 21 "MirrorTower$Field" "blockers" "[I") (by decide +kernel)
  obtain ⟨H, hH⟩ : ∃ H, H = s.heap := ⟨_, rfl⟩
  rw [← hH] at hP ⊢
  have hS : va_S A s.heap H [] := by rw [hH]; exact hS
  generalize ([] : List Loc) = locs at hS ⊢
  refine lv_aload_n hx hb dX1_powerOf_0 rfl (lv_at hl 0 rfl) ?_
  refine va_get (D := (dC, dI)) (ci := 1) (v := .ref (h 12)) (C := RX1) (T := TX1) (N := 11) hx hb hts hin_X1 hown hK hP 1 rfl rfl 8 (by decide) hw0 (fun _ h9 => h9) rfl dX1_powerOf_1 ?_
  refine lv_iload_n hx hb dX1_powerOf_4 rfl (lv_at hl 2 rfl) ?_
  refine va_iald hx hb hK hP 12 0 rfl rfl (vp_in_nI (n := k1) (N := 24) (by omega) (by decide)) dX1_powerOf_5 ?_
  have hb_1 := bHh k1 (by omega)
  refine lv_topi (fun x_2 ex_2 => ?_)
  obtain rfl : x_2 = nI (Hh k1) := ex_2.trans ((congrArg (F 12) (nI_clamp (n := k1) (by omega))).trans (hHh k1 (by omega)))
  refine lv_if_eq (tgt := 17) hx hb dX1_powerOf_6 (by decide) (fun c_3 => ?_) (fun c_3 => ?_)
  · have c_3 : (Hh k1) = 0 := (nI_eq (a := Hh k1) (b := 0) (by omega) (by omega)).mp c_3
    refine lv_iconst (v := 0) hx hb dX1_powerOf_17 (by decide) ?_
    exact hret 0 () H locs 18 ls rfl dX1_powerOf_18 (by rw [← (pwN_eq (F := F) (S := So) (W := Wd) (d := d) (m := k0) (mo := k2) (bHh k1 hk1)).1, pwC, if_pos (by omega)]) (hP) (hD) hS
  · have c_3 : ¬ (Hh k1) = 0 := fun h => c_3 ((nI_eq (a := Hh k1) (b := 0) (by omega) (by omega)).mpr h)
    refine lv_aload_n hx hb dX1_powerOf_9 rfl (lv_at hl 0 rfl) ?_
    refine lv_iload_n hx hb dX1_powerOf_10 rfl (lv_at hl 2 rfl) ?_
    refine cw_Vi (As := [.int (nI k1)]) (rest := []) (c_X1_isStowed l dC dI cI cZ cJ h F V Wd hWd bWd k1 (by omega)) fx (cwV 1 hts gX1_powerOf_X1_isStowed rfl rfl rfl (by decide +kernel) ⟨Nat.le_of_ble_eq_true rfl, Nat.le_of_ble_eq_true rfl⟩) hK hP hD hS hA 1 rfl rfl rfl rfl hl.1 rfl (Nat.le_of_ble_eq_true rfl) dX1_powerOf_11 ⟨Nat.le_of_ble_eq_true rfl, Nat.le_of_ble_eq_true rfl⟩ (fun r_4 u_5 H locs hw_6 hP hD hS => ?_)
    have hP : va_P (dC, dI) vwCl (wC cI cZ h F V) H := hP
    have hD : va_D A (wC cI cZ h F V) := hD
    have hw_6 : r_4 = bI (stow Wd k1) := hw_6
    refine lv_if_eq (tgt := 19) hx hb dX1_powerOf_14 (by decide) (fun c_7 => ?_) (fun c_7 => ?_)
    · have c_7 : stow Wd k1 = false := bI_f hw_6 c_7
      refine lv_bipush (v := 10) hx hb dX1_powerOf_19 (by decide) ?_
      refine lv_aload_n hx hb dX1_powerOf_21 rfl (lv_at hl 0 rfl) ?_
      refine va_get (D := (dC, dI)) (ci := 1) (v := .ref (h 12)) (C := RX1) (T := TX1) (N := 11) hx hb hts hin_X1 hown hK hP 1 rfl rfl 8 (by decide) hw0 (fun _ h9 => h9) rfl dX1_powerOf_22 ?_
      refine lv_iload_n hx hb dX1_powerOf_25 rfl (lv_at hl 2 rfl) ?_
      refine va_iald hx hb hK hP 12 0 rfl rfl (vp_in_nI (n := k1) (N := 24) (by omega) (by decide)) dX1_powerOf_26 ?_
      have hb_8 := bHh k1 (by omega)
      refine lv_topi (fun x_9 ex_9 => ?_)
      obtain rfl : x_9 = nI (Hh k1) := ex_9.trans ((congrArg (F 12) (nI_clamp (n := k1) (by omega))).trans (hHh k1 (by omega)))
      refine lv_imul hx hb dX1_powerOf_27 ?_
      refine lv_topi (fun x_10 ex_10 => ?_)
      obtain rfl : x_10 = nI (10 * (Hh k1)) := ex_10.trans (pk_mul 10 (Hh k1))
      refine lv_bipush (v := 10) hx hb dX1_powerOf_28 (by decide) ?_
      refine lv_iadd hx hb dX1_powerOf_30 ?_
      refine lv_topi (fun x_11 ex_11 => ?_)
      obtain rfl : x_11 = nI ((10 * (Hh k1)) + 10) := ex_11.trans (nI_add (10 * (Hh k1)) 10)
      refine lv_istore (lv' := [(4, .int (nI ((10 * (Hh k1)) + 10))), (0, .ref (h 1)), (1, .int (nI k0)), (2, .int (nI k1)), (3, .int (nI k2))]) hx hb dX1_powerOf_31 hl (by decide) rfl (fun ls hl => ?_)
      refine lv_iconst (v := 0) hx hb dX1_powerOf_33 (by decide) ?_
      refine lv_iload hx hb dX1_powerOf_34 (lv_at hl 0 rfl) ?_
      refine lv_aload_n hx hb dX1_powerOf_36 rfl (lv_at hl 1 rfl) ?_
      refine lv_iload_n hx hb dX1_powerOf_37 rfl (lv_at hl 2 rfl) ?_
      refine lv_iload_n hx hb dX1_powerOf_38 rfl (lv_at hl 4 rfl) ?_
      refine cw_Vi (As := [.int (nI k0), .int (nI k2)]) (rest := [.int (nI ((10 * (Hh k1)) + 10)), .int 0]) (c_X1_soilOf l dC dI cI cZ cJ h F V d hV2 (by omega) So hSo bSo k0 k2 (by omega) (by omega)) fx (cwV 2 hts gX1_powerOf_X1_soilOf rfl rfl rfl (by decide +kernel) ⟨Nat.le_of_ble_eq_true rfl, Nat.le_of_ble_eq_true rfl⟩) hK hP hD hS hA 1 rfl rfl rfl rfl hl.1 rfl (Nat.le_of_ble_eq_true rfl) dX1_powerOf_39 ⟨Nat.le_of_ble_eq_true rfl, Nat.le_of_ble_eq_true rfl⟩ (fun r_12 u_13 H locs hw_14 hP hD hS => ?_)
      have hP : va_P (dC, dI) vwCl (wC cI cZ h F V) H := hP
      have hD : va_D A (wC cI cZ h F V) := hD
      obtain rfl : r_12 = nI (min 90 (So k0 + k2 * d)) := hw_14
      refine lv_isub hx hb dX1_powerOf_42 ?_
      refine lv_topi (fun x_15 ex_15 => ?_)
      refine va_mmax hx hb (hml.trans hl.1.symm) hown hw2 hw3 hw4 hw5 (Nat.le_of_ble_eq_true rfl) (Nat.le_of_ble_eq_true rfl) (Nat.le_of_ble_eq_true rfl) (Nat.le_of_ble_eq_true rfl) dX1_powerOf_43 ?_
      refine lv_topi (fun x_16 ex_16 => ?_)
      refine lv_istore (lv' := [(5, .int x_16), (4, .int (nI ((10 * (Hh k1)) + 10))), (0, .ref (h 1)), (1, .int (nI k0)), (2, .int (nI k1)), (3, .int (nI k2))]) hx hb dX1_powerOf_46 hl (by decide) rfl (fun ls hl => ?_)
      refine lv_iload hx hb dX1_powerOf_48 (lv_at hl 0 rfl) ?_
      refine lv_aload_n hx hb dX1_powerOf_50 rfl (lv_at hl 2 rfl) ?_
      refine lv_iload_n hx hb dX1_powerOf_51 rfl (lv_at hl 3 rfl) ?_
      refine lv_iload_n hx hb dX1_powerOf_52 rfl (lv_at hl 4 rfl) ?_
      refine cw_Vi (As := [.int (nI k0), .int (nI k1)]) (rest := [.int x_16]) (c_X1_shadersOf l dC dI cI cZ cJ h F V Hh hHh bHh k0 k1 (by omega) (by omega)) fx (cwV 2 hts gX1_powerOf_X1_shadersOf rfl rfl rfl (by decide +kernel) ⟨Nat.le_of_ble_eq_true rfl, Nat.le_of_ble_eq_true rfl⟩) hK hP hD hS hA 1 rfl rfl rfl rfl hl.1 rfl (Nat.le_of_ble_eq_true rfl) dX1_powerOf_53 ⟨Nat.le_of_ble_eq_true rfl, Nat.le_of_ble_eq_true rfl⟩ (fun r_17 u_18 H locs hw_19 hP hD hS => ?_)
      have hP : va_P (dC, dI) vwCl (wC cI cZ h F V) H := hP
      have hD : va_D A (wC cI cZ h F V) := hD
      have hw_19 : r_17 = shC F Hh k0 k1 := hw_19
      refine lv_aload_n hx hb dX1_powerOf_56 rfl (lv_at hl 2 rfl) ?_
      refine va_get (D := (dC, dI)) (ci := 1) (v := .ref (h 8)) (C := RX1) (T := TX1) (N := 11) hx hb hts hin_X1 hown hK hP 1 rfl rfl 3 (by decide) hw6 (fun _ h9 => h9) rfl dX1_powerOf_57 ?_
      refine lv_iload_n hx hb dX1_powerOf_60 rfl (lv_at hl 3 rfl) ?_
      refine va_iald hx hb hK hP 8 0 rfl rfl (vp_in_nI (n := k0) (N := 40) (by omega) (by decide)) dX1_powerOf_61 ?_
      refine lv_topi (fun x_20 ex_20 => ?_)
      rw [nI_clamp (n := k0) (by omega)] at ex_20
      refine lv_iadd hx hb dX1_powerOf_62 ?_
      refine lv_ishr hx hb dX1_powerOf_63 ?_
      exact hret (x_16 >>> ((r_17 + x_20) &&& 31)) () H locs 64 ls rfl dX1_powerOf_64 (by rw [← (pwN_eq (F := F) (S := So) (W := Wd) (d := d) (m := k0) (mo := k2) (bHh k1 hk1)).1, pwC, if_neg (by omega), if_neg (by rw [c_7]; decide), ← max0 (by omega) (by omega)]; have q1 := ex_16; have q2 := ex_20; rw [q1, ex_15, ← hw_19, ← q2]) (hP) (hD) hS
    · have c_7 : stow Wd k1 = true := bI_t hw_6 c_7
      refine lv_iconst (v := 0) hx hb dX1_powerOf_17 (by decide) ?_
      exact hret 0 () H locs 18 ls rfl dX1_powerOf_18 (by rw [← (pwN_eq (F := F) (S := So) (W := Wd) (d := d) (m := k0) (mo := k2) (bHh k1 hk1)).1, pwC, if_neg (by omega), if_pos c_7]) (hP) (hD) hS
end
section
def rm_X1_soilInAll : Room := { frames := 0, cells := 0, slots := 0, locals := 0 }
set_option maxHeartbeats 4000000 in
set_option maxRecDepth 100000 in
theorem c_X1_soilInAll (l : Launch) (dC : Nat → ClassId) (dI : Nat → Nat → Nat) (cI cZ cJ : ClassId) (h : Nat → Nat) (F : Nat → Nat → Int32) (V : Nat → Int32) (n : Nat) (hV1 : V 1 = nI n) (bV1 : n ≤ 40) (So : Nat → Nat) (hSo : ∀ i, i < 40 → F 9 i = nI (So i)) (bSo : ∀ i, i < 40 → So i ≤ 90)    : CtI l (dC, dI) vwCl (tys3 cI cZ cJ) yX1_soilInAll wsX1_soilInAll rm_X1_soilInAll [.ref (h 1)] (wC cI cZ h F V) (S := Unit) (fun r _ => r = nI (sumN So n)) (fun _ => wC cI cZ h F V) 0 0 := by
  refine ct_I (cc := cX1_soilInAll) (maxL := 3) (ty := .int) (own := RX1) (by decide) rfl rfl (Nat.le_of_ble_eq_true rfl) (lv := [(0, .ref (h 1))]) rfl ?_
  intro p e s m args below meth c A Q ls fx hK hP hD hA hl hret
  obtain ⟨hx, hb, hml, hown, hts⟩ := id fx
  have hS : va_S A s.heap s.heap [] := va_S.rf
  have hw0 := hts (.fieldLink RX1 43 "MirrorTower$Field" "size" "I") (by decide +kernel)
  have hin_X1 : ∀ w ∈ u_ws RX1 TX1 11, w ∈ wsX1_soilInAll := by decide +kernel
  have hw2 := hts (.fieldLink RX1 24 "MirrorTower$Field" "soils" "[I") (by decide +kernel)
  obtain ⟨H, hH⟩ : ∃ H, H = s.heap := ⟨_, rfl⟩
  rw [← hH] at hP ⊢
  have hS : va_S A s.heap H [] := by rw [hH]; exact hS
  generalize ([] : List Loc) = locs at hS ⊢
  refine lv_iconst (v := 0) hx hb dX1_soilInAll_0 (by decide) ?_
  refine lv_istore_n (lv' := [(1, .int 0), (0, .ref (h 1))]) hx hb dX1_soilInAll_1 rfl hl (by decide) rfl (fun ls hl => ?_)
  refine lv_iconst (v := 0) hx hb dX1_soilInAll_2 (by decide) ?_
  refine lv_istore_n (lv' := [(2, .int 0), (1, .int 0), (0, .ref (h 1))]) hx hb dX1_soilInAll_3 rfl hl (by decide) rfl (fun ls hl => ?_)
  have loop4 : ∀ (fu : Nat) (k : Nat), (k ≤ n) → (n - k) < fu → ∀ (H : Heap) (locs : List Loc) (ls : Array Slot), va_P (dC, dI) vwCl (wC cI cZ h F V) H → va_D A (wC cI cZ h F V) → va_S A s.heap H locs → lv_has ls 3 [(0, .ref (h 1)), (1, .int (nI (sumN So k))), (2, .int (nI k))] → W p l e rm_X1_soilInAll s m args below meth c H locs 0 0 Q (F0 m 4 ls []) := by
    intro fu
    induction fu with
    | zero => intro k hk hn_; exact absurd hn_ (Nat.not_lt_zero _)
    | succ fu ih4 =>
      intro k hk hn_ H locs ls hP hD hS hl
      refine lv_iload_n hx hb dX1_soilInAll_4 rfl (lv_at hl 2 rfl) ?_
      refine lv_aload_n hx hb dX1_soilInAll_5 rfl (lv_at hl 0 rfl) ?_
      refine va_get (D := (dC, dI)) (ci := 1) (v := .int (V 1)) (C := RX1) (T := TX1) (N := 11) hx hb hts hin_X1 hown hK hP 1 rfl rfl 5 (by decide) hw0 (fun _ h9 => h9) rfl dX1_soilInAll_6 ?_
      refine lv_topi (fun x_1 ex_1 => ?_)
      obtain rfl : x_1 = nI n := ex_1.trans (hV1)
      refine lv_icmp_ge (tgt := 27) hx hb dX1_soilInAll_9 (by decide) (fun c_2 => ?_) (fun c_2 => ?_)
      · have c_2 : n ≤ k := (nI_leI (a := n) (b := k) (by omega) (by omega)).mp c_2
        refine lv_iload_n hx hb dX1_soilInAll_27 rfl (lv_at hl 1 rfl) ?_
        exact hret (nI (sumN So k)) () H locs 28 ls rfl dX1_soilInAll_28 (by rw [show n = k by omega]) (hP) (hD) hS
      · have c_2 : ¬ n ≤ k := fun h => c_2 ((nI_leI (a := n) (b := k) (by omega) (by omega)).mpr h)
        refine lv_iload_n hx hb dX1_soilInAll_12 rfl (lv_at hl 1 rfl) ?_
        refine lv_aload_n hx hb dX1_soilInAll_13 rfl (lv_at hl 0 rfl) ?_
        refine va_get (D := (dC, dI)) (ci := 1) (v := .ref (h 9)) (C := RX1) (T := TX1) (N := 11) hx hb hts hin_X1 hown hK hP 1 rfl rfl 4 (by decide) hw2 (fun _ h9 => h9) rfl dX1_soilInAll_14 ?_
        refine lv_iload_n hx hb dX1_soilInAll_17 rfl (lv_at hl 2 rfl) ?_
        refine va_iald hx hb hK hP 9 0 rfl rfl (vp_in_nI (n := k) (N := 40) (by omega) (by decide)) dX1_soilInAll_18 ?_
        have hb_3 := bSo k (by omega)
        refine lv_topi (fun x_4 ex_4 => ?_)
        obtain rfl : x_4 = nI (So k) := ex_4.trans ((congrArg (F 9) (nI_clamp (n := k) (by omega))).trans (hSo k (by omega)))
        refine lv_iadd hx hb dX1_soilInAll_19 ?_
        refine lv_topi (fun x_5 ex_5 => ?_)
        obtain rfl : x_5 = nI ((sumN So k) + (So k)) := ex_5.trans (nI_add (sumN So k) (So k))
        refine lv_istore_n (lv' := [(1, .int (nI ((sumN So k) + (So k)))), (0, .ref (h 1)), (2, .int (nI k))]) hx hb dX1_soilInAll_20 rfl hl (by decide) rfl (fun ls hl => ?_)
        refine lv_iinc (v := nI (k + 1)) (lv' := [(2, .int (nI (k + 1))), (1, .int (nI ((sumN So k) + (So k)))), (0, .ref (h 1))]) hx hb dX1_soilInAll_21 hl (k := 2) rfl (nI_1 _) (by decide) rfl (fun ls hl => ?_)
        refine lv_goto (tgt := 4) hx hb dX1_soilInAll_24 (by decide) ?_
        exact ih4 (k + 1) (by omega) (by omega) H locs ls hP hD hS (lv_sub hl [2, 1, 0] rfl)
  exact loop4 _ 0 (by omega) (Nat.lt_succ_self _) H locs ls hP hD hS (lv_sub hl [2, 1, 0] rfl)
def rm_X1_growSoil : Room := { frames := 2, cells := 0, slots := 0, locals := 35 }
set_option maxHeartbeats 4000000 in
set_option maxRecDepth 100000 in
theorem c_X1_growSoil (l : Launch) (dC : Nat → ClassId) (dI : Nat → Nat → Nat) (cI cZ cJ : ClassId) (h : Nat → Nat) (F : Nat → Nat → Int32) (V : Nat → Int32) (n : Nat) (hV1 : V 1 = nI n) (bV1 : n ≤ 40) (d : Nat) (hV2 : V 2 = nI d) (bV2 : d ≤ 20) (So : Nat → Nat) (hSo : ∀ i, i < 40 → F 9 i = nI (So i)) (bSo : ∀ i, i < 40 → So i ≤ 90)    : CtV l (dC, dI) vwCl (tys3 cI cZ cJ) yX1_growSoil wsX1_growSoil rm_X1_growSoil [.ref (h 1)] (wC cI cZ h F V) (S := Nat → Nat → Int32) (fun u => (∀ j, j ∉ ([9] : List Nat) → u j = F j) ∧ ((∀ i, i < 40 → u 9 i = nI (grow So d n i)) ∧ ∀ i, i < 40 → grow So d n i ≤ 90)) (fun u => wC cI cZ h u V) 0 0 := by
  refine ct_V (cc := cX1_growSoil) (maxL := 2) (own := RX1) (by decide) rfl rfl (Nat.le_of_ble_eq_true rfl) (lv := [(0, .ref (h 1))]) rfl ?_
  intro p e s m args below meth c A Q ls hnm fx hK hP hD hA hl hret
  obtain ⟨hx, hb, hml, hown, hts⟩ := id fx
  have hS : va_S A s.heap s.heap [] := va_S.rf
  have hw0 := hts (.fieldLink RX1 43 "MirrorTower$Field" "size" "I") (by decide +kernel)
  have hin_X1 : ∀ w ∈ u_ws RX1 TX1 11, w ∈ wsX1_growSoil := by decide +kernel
  have hw2 := hts (.fieldLink RX1 24 "MirrorTower$Field" "soils" "[I") (by decide +kernel)
  obtain ⟨H, hH⟩ : ∃ H, H = s.heap := ⟨_, rfl⟩
  rw [← hH] at hP ⊢
  have hS : va_S A s.heap H [] := by rw [hH]; exact hS
  generalize ([] : List Loc) = locs at hS ⊢
  refine lv_iconst (v := 0) hx hb dX1_growSoil_0 (by decide) ?_
  refine lv_istore_n (lv' := [(1, .int 0), (0, .ref (h 1))]) hx hb dX1_growSoil_1 rfl hl (by decide) rfl (fun ls hl => ?_)
  have loop2 : ∀ (fu : Nat) (k : Nat) (F1 : Nat → Nat → Int32), (k ≤ n) → (∀ i, i < 40 → F1 9 i = nI (grow So d k i)) → (∀ i, i < 40 → grow So d k i ≤ 90) → (∀ j, j ∉ ([9] : List Nat) → F1 j = F j) → (n - k) < fu → ∀ (H : Heap) (locs : List Loc) (ls : Array Slot), va_P (dC, dI) vwCl (wC cI cZ h F1 V) H → va_D A (wC cI cZ h F1 V) → va_S A s.heap H locs → lv_has ls 2 [(0, .ref (h 1)), (1, .int (nI k))] → W p l e rm_X1_growSoil s m args below meth c H locs 0 0 Q (F0 m 2 ls []) := by
    intro fu
    induction fu with
    | zero => intro k F1 hk hS1 bS1 hfr hn_; exact absurd hn_ (Nat.not_lt_zero _)
    | succ fu ih2 =>
      intro k F1 hk hS1 bS1 hfr hn_ H locs ls hP hD hS hl
      refine lv_iload_n hx hb dX1_growSoil_2 rfl (lv_at hl 1 rfl) ?_
      refine lv_aload_n hx hb dX1_growSoil_3 rfl (lv_at hl 0 rfl) ?_
      refine va_get (D := (dC, dI)) (ci := 1) (v := .int (V 1)) (C := RX1) (T := TX1) (N := 11) hx hb hts hin_X1 hown hK hP 1 rfl rfl 5 (by decide) hw0 (fun _ h9 => h9) rfl dX1_growSoil_4 ?_
      refine lv_topi (fun x_1 ex_1 => ?_)
      obtain rfl : x_1 = nI n := ex_1.trans (hV1)
      refine lv_icmp_ge (tgt := 28) hx hb dX1_growSoil_7 (by decide) (fun c_2 => ?_) (fun c_2 => ?_)
      · have c_2 : n ≤ k := (nI_leI (a := n) (b := k) (by omega) (by omega)).mp c_2
        exact hret F1 H locs 28 ls dX1_growSoil_28 (by
                    obtain rfl : k = n := by omega
                    exact ⟨hfr, hS1, bS1⟩) (hP) (hD) hS
      · have c_2 : ¬ n ≤ k := fun h => c_2 ((nI_leI (a := n) (b := k) (by omega) (by omega)).mpr h)
        refine lv_aload_n hx hb dX1_growSoil_10 rfl (lv_at hl 0 rfl) ?_
        refine va_get (D := (dC, dI)) (ci := 1) (v := .ref (h 9)) (C := RX1) (T := TX1) (N := 11) hx hb hts hin_X1 hown hK hP 1 rfl rfl 4 (by decide) hw2 (fun _ h9 => h9) rfl dX1_growSoil_11 ?_
        refine lv_iload_n hx hb dX1_growSoil_14 rfl (lv_at hl 1 rfl) ?_
        refine lv_aload_n hx hb dX1_growSoil_15 rfl (lv_at hl 0 rfl) ?_
        refine lv_iload_n hx hb dX1_growSoil_16 rfl (lv_at hl 1 rfl) ?_
        refine lv_iconst (v := 1) hx hb dX1_growSoil_17 (by decide) ?_
        refine cw_Vi (As := [.int (nI k), .int 1]) (rest := [.int (nI k), .ref (h 9)]) (c_X1_soilOf l dC dI cI cZ cJ h F1 V d hV2 (by omega) (grow So d k) hS1 bS1 k 1 (by omega) (by omega)) fx (cwV 2 hts gX1_growSoil_X1_soilOf rfl rfl rfl (by decide +kernel) ⟨Nat.le_of_ble_eq_true rfl, Nat.le_of_ble_eq_true rfl⟩) hK hP hD hS hA 1 rfl rfl rfl rfl hl.1 rfl (Nat.le_of_ble_eq_true rfl) dX1_growSoil_18 ⟨Nat.le_of_ble_eq_true rfl, Nat.le_of_ble_eq_true rfl⟩ (fun r_3 u_4 H locs hw_5 hP hD hS => ?_)
        have hP : va_P (dC, dI) vwCl (wC cI cZ h F1 V) H := hP
        have hD : va_D A (wC cI cZ h F1 V) := hD
        obtain rfl : r_3 = nI (min 90 ((grow So d k) k + 1 * d)) := hw_5
        refine va_iast hx hb hK hP hD hS 9 0 rfl rfl (vp_in_nI (n := k) (N := 40) (by omega) (by decide)) dX1_growSoil_21 (fun H locs hP hD hS => ?_)
        obtain ⟨F_6, eF_6⟩ : ∃ z : Nat → Nat → Int32, z = va_up F1 9 (upd (F1 9) (nI k).toNatClampNeg (nI (min 90 ((grow So d k) k + 1 * d)))) := ⟨_, rfl⟩
        have hP : va_P (dC, dI) vwCl (wC cI cZ h F_6 V) H := by rw [eF_6]; exact hP
        have hD : va_D A (wC cI cZ h F_6 V) := by rw [eF_6]; exact hD
        obtain ⟨S_7, eS_7⟩ : ∃ z : Nat → Nat, z = nup (grow So d k) k (min 90 ((grow So d k) k + 1 * d)) := ⟨_, rfl⟩
        have hN_8 : ∀ i, i < 40 → F_6 9 i = nI (S_7 i) := by rw [eF_6, eS_7]; show ∀ i, i < 40 → upd (F1 9) (nI k).toNatClampNeg (nI (min 90 ((grow So d k) k + 1 * d))) i = nI _; exact nf_put hS1 (nI_clamp (n := k) (by omega))
        have bN_9 : ∀ i, i < 40 → S_7 i ≤ 90 := by rw [eS_7]; exact nb_put bS1 (by omega)
        refine lv_iinc (v := nI (k + 1)) (lv' := [(1, .int (nI (k + 1))), (0, .ref (h 1))]) hx hb dX1_growSoil_22 hl (k := 1) rfl (nI_1 _) (by decide) rfl (fun ls hl => ?_)
        refine lv_goto (tgt := 2) hx hb dX1_growSoil_25 (by decide) ?_
        have hb_10 : S_7 = grow So d (k + 1) := by rw [eS_7, grow_at]; exact grow_up So d k
        rw [hb_10] at hN_8 bN_9
        exact ih2 (k + 1) F_6 (by omega) hN_8 bN_9 (fun j hj => ((va_ne eF_6 (fun h => hj (by rw [h]; decide))).trans (hfr j hj))) (by omega) H locs ls hP hD hS (lv_sub hl [1, 0] rfl)
  exact loop2 _ 0 F (by omega) (by rw [grow_0]; exact hSo) (by rw [grow_0]; exact bSo) (fun _ _ => rfl) (Nat.lt_succ_self _) H locs ls hP hD hS (lv_sub hl [1, 0] rfl)
def rm_X1_mostSoiled : Room := { frames := 0, cells := 0, slots := 0, locals := 0 }
set_option maxHeartbeats 4000000 in
set_option maxRecDepth 100000 in
theorem c_X1_mostSoiled (l : Launch) (dC : Nat → ClassId) (dI : Nat → Nat → Nat) (cI cZ cJ : ClassId) (h : Nat → Nat) (F : Nat → Nat → Int32) (V : Nat → Int32) (n : Nat) (hV1 : V 1 = nI n) (bV1 : n ≤ 40) (So : Nat → Nat) (hSo : ∀ i, i < 40 → F 9 i = nI (So i)) (bSo : ∀ i, i < 40 → So i ≤ 90)    : CtI l (dC, dI) vwCl (tys3 cI cZ cJ) yX1_mostSoiled wsX1_mostSoiled rm_X1_mostSoiled [.ref (h 1)] (wC cI cZ h F V) (S := Unit) (fun r _ => r = nI (best4 So (n - 1))) (fun _ => wC cI cZ h F V) 0 0 := by
  refine ct_I (cc := cX1_mostSoiled) (maxL := 3) (ty := .int) (own := RX1) (by decide) rfl rfl (Nat.le_of_ble_eq_true rfl) (lv := [(0, .ref (h 1))]) rfl ?_
  intro p e s m args below meth c A Q ls fx hK hP hD hA hl hret
  obtain ⟨hx, hb, hml, hown, hts⟩ := id fx
  have hS : va_S A s.heap s.heap [] := va_S.rf
  have hw0 := hts (.fieldLink RX1 43 "MirrorTower$Field" "size" "I") (by decide +kernel)
  have hin_X1 : ∀ w ∈ u_ws RX1 TX1 11, w ∈ wsX1_mostSoiled := by decide +kernel
  have hw2 := hts (.fieldLink RX1 24 "MirrorTower$Field" "soils" "[I") (by decide +kernel)
  obtain ⟨H, hH⟩ : ∃ H, H = s.heap := ⟨_, rfl⟩
  rw [← hH] at hP ⊢
  have hS : va_S A s.heap H [] := by rw [hH]; exact hS
  generalize ([] : List Loc) = locs at hS ⊢
  refine lv_iconst (v := 0) hx hb dX1_mostSoiled_0 (by decide) ?_
  refine lv_istore_n (lv' := [(1, .int 0), (0, .ref (h 1))]) hx hb dX1_mostSoiled_1 rfl hl (by decide) rfl (fun ls hl => ?_)
  refine lv_iconst (v := 1) hx hb dX1_mostSoiled_2 (by decide) ?_
  refine lv_istore_n (lv' := [(2, .int 1), (1, .int 0), (0, .ref (h 1))]) hx hb dX1_mostSoiled_3 rfl hl (by decide) rfl (fun ls hl => ?_)
  have loop4 : ∀ (fu : Nat) (k : Nat) (b : Nat), (1 ≤ k) → (k ≤ n ∨ k = 1) → (b = best4 So (k - 1)) → (b < 40) → (n + 1 - k) < fu → ∀ (H : Heap) (locs : List Loc) (ls : Array Slot), va_P (dC, dI) vwCl (wC cI cZ h F V) H → va_D A (wC cI cZ h F V) → va_S A s.heap H locs → lv_has ls 3 [(0, .ref (h 1)), (1, .int (nI b)), (2, .int (nI k))] → W p l e rm_X1_mostSoiled s m args below meth c H locs 0 0 Q (F0 m 4 ls []) := by
    intro fu
    induction fu with
    | zero => intro k b hk hk2 hbb hb2 hn_; exact absurd hn_ (Nat.not_lt_zero _)
    | succ fu ih4 =>
      intro k b hk hk2 hbb hb2 hn_ H locs ls hP hD hS hl
      refine lv_iload_n hx hb dX1_mostSoiled_4 rfl (lv_at hl 2 rfl) ?_
      refine lv_aload_n hx hb dX1_mostSoiled_5 rfl (lv_at hl 0 rfl) ?_
      refine va_get (D := (dC, dI)) (ci := 1) (v := .int (V 1)) (C := RX1) (T := TX1) (N := 11) hx hb hts hin_X1 hown hK hP 1 rfl rfl 5 (by decide) hw0 (fun _ h9 => h9) rfl dX1_mostSoiled_6 ?_
      refine lv_topi (fun x_1 ex_1 => ?_)
      obtain rfl : x_1 = nI n := ex_1.trans (hV1)
      refine lv_icmp_ge (tgt := 35) hx hb dX1_mostSoiled_9 (by decide) (fun c_2 => ?_) (fun c_2 => ?_)
      · have c_2 : n ≤ k := (nI_leI (a := n) (b := k) (by omega) (by omega)).mp c_2
        refine lv_iload_n hx hb dX1_mostSoiled_35 rfl (lv_at hl 1 rfl) ?_
        exact hret (nI b) () H locs 36 ls rfl dX1_mostSoiled_36 (by
                    by_cases h1 : n = 0
                    · have h2 : k = 1 := by omega
                      rw [hbb, h2, h1]
                    · rw [hbb, show k - 1 = n - 1 by omega]) (hP) (hD) hS
      · have c_2 : ¬ n ≤ k := fun h => c_2 ((nI_leI (a := n) (b := k) (by omega) (by omega)).mpr h)
        refine lv_aload_n hx hb dX1_mostSoiled_12 rfl (lv_at hl 0 rfl) ?_
        refine va_get (D := (dC, dI)) (ci := 1) (v := .ref (h 9)) (C := RX1) (T := TX1) (N := 11) hx hb hts hin_X1 hown hK hP 1 rfl rfl 4 (by decide) hw2 (fun _ h9 => h9) rfl dX1_mostSoiled_13 ?_
        refine lv_iload_n hx hb dX1_mostSoiled_16 rfl (lv_at hl 2 rfl) ?_
        refine va_iald hx hb hK hP 9 0 rfl rfl (vp_in_nI (n := k) (N := 40) (by omega) (by decide)) dX1_mostSoiled_17 ?_
        have hb_3 := bSo k (by omega)
        refine lv_topi (fun x_4 ex_4 => ?_)
        obtain rfl : x_4 = nI (So k) := ex_4.trans ((congrArg (F 9) (nI_clamp (n := k) (by omega))).trans (hSo k (by omega)))
        refine lv_aload_n hx hb dX1_mostSoiled_18 rfl (lv_at hl 0 rfl) ?_
        refine va_get (D := (dC, dI)) (ci := 1) (v := .ref (h 9)) (C := RX1) (T := TX1) (N := 11) hx hb hts hin_X1 hown hK hP 1 rfl rfl 4 (by decide) hw2 (fun _ h9 => h9) rfl dX1_mostSoiled_19 ?_
        refine lv_iload_n hx hb dX1_mostSoiled_22 rfl (lv_at hl 1 rfl) ?_
        refine va_iald hx hb hK hP 9 0 rfl rfl (vp_in_nI (n := b) (N := 40) (by omega) (by decide)) dX1_mostSoiled_23 ?_
        have hb_5 := bSo b (by omega)
        refine lv_topi (fun x_6 ex_6 => ?_)
        obtain rfl : x_6 = nI (So b) := ex_6.trans ((congrArg (F 9) (nI_clamp (n := b) (by omega))).trans (hSo b (by omega)))
        refine lv_icmp_le (tgt := 29) hx hb dX1_mostSoiled_24 (by decide) (fun c_7 => ?_) (fun c_7 => ?_)
        · have c_7 : (So k) ≤ (So b) := (nI_leI (a := So k) (b := So b) (by omega) (by omega)).mp c_7
          refine lv_iinc (v := nI (k + 1)) (lv' := [(2, .int (nI (k + 1))), (0, .ref (h 1)), (1, .int (nI b))]) hx hb dX1_mostSoiled_29 hl (k := 2) rfl (nI_1 _) (by decide) rfl (fun ls hl => ?_)
          refine lv_goto (tgt := 4) hx hb dX1_mostSoiled_32 (by decide) ?_
          exact ih4 (k + 1) b (by omega) (by omega) (by rw [show k + 1 - 1 = k by omega, best4_s So (by omega), ← hbb, if_neg (by omega)]) (by omega) (by omega) H locs ls hP hD hS (lv_sub hl [1, 2, 0] rfl)
        · have c_7 : ¬ (So k) ≤ (So b) := fun h => c_7 ((nI_leI (a := So k) (b := So b) (by omega) (by omega)).mpr h)
          refine lv_iload_n hx hb dX1_mostSoiled_27 rfl (lv_at hl 2 rfl) ?_
          refine lv_istore_n (lv' := [(1, .int (nI k)), (0, .ref (h 1)), (2, .int (nI k))]) hx hb dX1_mostSoiled_28 rfl hl (by decide) rfl (fun ls hl => ?_)
          refine lv_iinc (v := nI (k + 1)) (lv' := [(2, .int (nI (k + 1))), (1, .int (nI k)), (0, .ref (h 1))]) hx hb dX1_mostSoiled_29 hl (k := 2) rfl (nI_1 _) (by decide) rfl (fun ls hl => ?_)
          refine lv_goto (tgt := 4) hx hb dX1_mostSoiled_32 (by decide) ?_
          exact ih4 (k + 1) k (by omega) (by omega) (by rw [show k + 1 - 1 = k by omega, best4_s So (by omega), ← hbb, if_pos (by omega)]) (by omega) (by omega) H locs ls hP hD hS (lv_sub hl [2, 1, 0] rfl)
  exact loop4 _ 1 0 (by omega) (by omega) rfl (by omega) (Nat.lt_succ_self _) H locs ls hP hD hS (lv_sub hl [2, 1, 0] rfl)
def rm_X1_washMost : Room := { frames := 1, cells := 0, slots := 0, locals := 22 }
set_option maxHeartbeats 4000000 in
set_option maxRecDepth 100000 in
theorem c_X1_washMost (l : Launch) (dC : Nat → ClassId) (dI : Nat → Nat → Nat) (cI cZ cJ : ClassId) (h : Nat → Nat) (F : Nat → Nat → Int32) (V : Nat → Int32) (n : Nat) (hV1 : V 1 = nI n) (bV1 : n ≤ 40) (So : Nat → Nat) (hSo : ∀ i, i < 40 → F 9 i = nI (So i)) (bSo : ∀ i, i < 40 → So i ≤ 90) (k0 : Nat) (hk0 : k0 ≤ 40)   : CtI l (dC, dI) vwCl (tys3 cI cZ cJ) yX1_washMost wsX1_washMost rm_X1_washMost [.ref (h 1), .int (nI k0)] (wC cI cZ h F V) (S := Nat → Nat → Int32) (fun r u => (r = nI (wgo So n (min k0 n))) ∧ (∀ j, j ∉ ([9] : List Nat) → u j = F j) ∧ ((∀ i, i < 40 → u 9 i = nI (wsh So n (min k0 n) i)) ∧ ∀ i, i < 40 → wsh So n (min k0 n) i ≤ 90)) (fun u => wC cI cZ h u V) 0 0 := by
  refine ct_I (cc := cX1_washMost) (maxL := 5) (ty := .int) (own := RX1) (by decide) rfl rfl (Nat.le_of_ble_eq_true rfl) (lv := [(0, .ref (h 1)), (1, .int (nI k0))]) rfl ?_
  intro p e s m args below meth c A Q ls fx hK hP hD hA hl hret
  obtain ⟨hx, hb, hml, hown, hts⟩ := id fx
  have hS : va_S A s.heap s.heap [] := va_S.rf
  have hw0 := hts (.fieldLink RX1 43 "MirrorTower$Field" "size" "I") (by decide +kernel)
  have hin_X1 : ∀ w ∈ u_ws RX1 TX1 11, w ∈ wsX1_washMost := by decide +kernel
  have hw2 := hts (.methodLink RX1 66 Lib.Math.min.name) (by decide +kernel)
  have hw3 := hts (.static Lib.Math.min.name) (by decide +kernel)
  have hw4 := hts (.initialized "java/lang/Math") (by decide +kernel)
  have hw5 := hts (.code Lib.Math.min.name Lib.Math.min.code 2 (some .int)) (by decide +kernel)
  have hw6 := hts (.fieldLink RX1 24 "MirrorTower$Field" "soils" "[I") (by decide +kernel)
  obtain ⟨H, hH⟩ : ∃ H, H = s.heap := ⟨_, rfl⟩
  rw [← hH] at hP ⊢
  have hS : va_S A s.heap H [] := by rw [hH]; exact hS
  generalize ([] : List Loc) = locs at hS ⊢
  refine lv_iconst (v := 0) hx hb dX1_washMost_0 (by decide) ?_
  refine lv_istore_n (lv' := [(2, .int 0), (0, .ref (h 1)), (1, .int (nI k0))]) hx hb dX1_washMost_1 rfl hl (by decide) rfl (fun ls hl => ?_)
  refine lv_iload_n hx hb dX1_washMost_2 rfl (lv_at hl 2 rfl) ?_
  refine lv_aload_n hx hb dX1_washMost_3 rfl (lv_at hl 1 rfl) ?_
  refine va_get (D := (dC, dI)) (ci := 1) (v := .int (V 1)) (C := RX1) (T := TX1) (N := 11) hx hb hts hin_X1 hown hK hP 1 rfl rfl 5 (by decide) hw0 (fun _ h9 => h9) rfl dX1_washMost_4 ?_
  refine lv_topi (fun x_1 ex_1 => ?_)
  obtain rfl : x_1 = nI n := ex_1.trans (hV1)
  refine va_mmin hx hb (hml.trans hl.1.symm) hown hw2 hw3 hw4 hw5 (Nat.le_of_ble_eq_true rfl) (Nat.le_of_ble_eq_true rfl) (Nat.le_of_ble_eq_true rfl) (Nat.le_of_ble_eq_true rfl) dX1_washMost_7 ?_
  refine lv_topi (fun x_2 ex_2 => ?_)
  obtain rfl : x_2 = nI (min k0 n) := ex_2.trans (mm_min (a := k0) (b := n) (by omega) (by omega))
  refine lv_istore_n (lv' := [(3, .int (nI (min k0 n))), (2, .int 0), (0, .ref (h 1)), (1, .int (nI k0))]) hx hb dX1_washMost_10 rfl hl (by decide) rfl (fun ls hl => ?_)
  have loop11 : ∀ (fu : Nat) (k : Nat) (t : Nat) (F1 : Nat → Nat → Int32), (k + t = min k0 n) → (∀ i, i < 40 → F1 9 i = nI (wsh So n t i)) → (∀ i, i < 40 → wsh So n t i ≤ 90) → (∀ j, j ∉ ([9] : List Nat) → F1 j = F j) → (k) < fu → ∀ (H : Heap) (locs : List Loc) (ls : Array Slot), va_P (dC, dI) vwCl (wC cI cZ h F1 V) H → va_D A (wC cI cZ h F1 V) → va_S A s.heap H locs → lv_has ls 5 [(0, .ref (h 1)), (1, .int (nI k0)), (2, .int (nI (wgo So n t))), (3, .int (nI k))] → W p l e rm_X1_washMost s m args below meth c H locs 0 0 Q (F0 m 11 ls []) := by
    intro fu
    induction fu with
    | zero => intro k t F1 hk hS1 bS1 hfr hn_; exact absurd hn_ (Nat.not_lt_zero _)
    | succ fu ih11 =>
      intro k t F1 hk hS1 bS1 hfr hn_ H locs ls hP hD hS hl
      refine lv_iload_n hx hb dX1_washMost_11 rfl (lv_at hl 3 rfl) ?_
      refine lv_if_le (tgt := 45) hx hb dX1_washMost_12 (by decide) (fun c_3 => ?_) (fun c_3 => ?_)
      · have c_3 : k ≤ 0 := (nI_leI (a := k) (b := 0) (by omega) (by omega)).mp c_3
        refine lv_iload_n hx hb dX1_washMost_45 rfl (lv_at hl 2 rfl) ?_
        exact hret (nI (wgo So n t)) F1 H locs 46 ls rfl dX1_washMost_46 (by
                    obtain rfl : t = min k0 n := by omega
                    exact ⟨rfl, hfr, hS1, bS1⟩) (hP) (hD) hS
      · have c_3 : ¬ k ≤ 0 := fun h => c_3 ((nI_leI (a := k) (b := 0) (by omega) (by omega)).mpr h)
        refine lv_aload_n hx hb dX1_washMost_15 rfl (lv_at hl 0 rfl) ?_
        refine cw_Vi (As := []) (rest := []) (c_X1_mostSoiled l dC dI cI cZ cJ h F1 V n hV1 (by omega) (wsh So n t) hS1 bS1) fx (cwV 0 hts gX1_washMost_X1_mostSoiled rfl rfl rfl (by decide +kernel) ⟨Nat.le_of_ble_eq_true rfl, Nat.le_of_ble_eq_true rfl⟩) hK hP hD hS hA 1 rfl rfl rfl rfl hl.1 rfl (Nat.le_of_ble_eq_true rfl) dX1_washMost_16 ⟨Nat.le_of_ble_eq_true rfl, Nat.le_of_ble_eq_true rfl⟩ (fun r_4 u_5 H locs hw_6 hP hD hS => ?_)
        have hP : va_P (dC, dI) vwCl (wC cI cZ h F1 V) H := hP
        have hD : va_D A (wC cI cZ h F1 V) := hD
        obtain rfl : r_4 = nI (best4 (wsh So n t) (n - 1)) := hw_6
        have hb_7 := best4_le (wsh So n t) (n - 1)
        refine lv_istore (lv' := [(4, .int (nI (best4 (wsh So n t) (n - 1)))), (0, .ref (h 1)), (1, .int (nI k0)), (2, .int (nI (wgo So n t))), (3, .int (nI k))]) hx hb dX1_washMost_19 hl (by decide) rfl (fun ls hl => ?_)
        refine lv_iload_n hx hb dX1_washMost_21 rfl (lv_at hl 3 rfl) ?_
        refine lv_aload_n hx hb dX1_washMost_22 rfl (lv_at hl 1 rfl) ?_
        refine va_get (D := (dC, dI)) (ci := 1) (v := .ref (h 9)) (C := RX1) (T := TX1) (N := 11) hx hb hts hin_X1 hown hK hP 1 rfl rfl 4 (by decide) hw6 (fun _ h9 => h9) rfl dX1_washMost_23 ?_
        refine lv_iload hx hb dX1_washMost_26 (lv_at hl 0 rfl) ?_
        refine va_iald hx hb hK hP 9 0 rfl rfl (vp_in_nI (n := best4 (wsh So n t) (n - 1)) (N := 40) (by omega) (by decide)) dX1_washMost_28 ?_
        have hb_8 := bS1 (best4 (wsh So n t) (n - 1)) (by omega)
        try dsimp only at hb_8
        refine lv_topi (fun x_9 ex_9 => ?_)
        obtain rfl : x_9 = nI ((wsh So n t) (best4 (wsh So n t) (n - 1))) := ex_9.trans ((congrArg (F1 9) (nI_clamp (n := best4 (wsh So n t) (n - 1)) (by omega))).trans (hS1 (best4 (wsh So n t) (n - 1)) (by omega)))
        refine lv_iadd hx hb dX1_washMost_29 ?_
        refine lv_topi (fun x_10 ex_10 => ?_)
        obtain rfl : x_10 = nI ((wgo So n t) + ((wsh So n t) (best4 (wsh So n t) (n - 1)))) := ex_10.trans (nI_add (wgo So n t) ((wsh So n t) (best4 (wsh So n t) (n - 1))))
        refine lv_istore_n (lv' := [(2, .int (nI ((wgo So n t) + ((wsh So n t) (best4 (wsh So n t) (n - 1)))))), (4, .int (nI (best4 (wsh So n t) (n - 1)))), (0, .ref (h 1)), (1, .int (nI k0)), (3, .int (nI k))]) hx hb dX1_washMost_30 rfl hl (by decide) rfl (fun ls hl => ?_)
        refine lv_aload_n hx hb dX1_washMost_31 rfl (lv_at hl 2 rfl) ?_
        refine va_get (D := (dC, dI)) (ci := 1) (v := .ref (h 9)) (C := RX1) (T := TX1) (N := 11) hx hb hts hin_X1 hown hK hP 1 rfl rfl 4 (by decide) hw6 (fun _ h9 => h9) rfl dX1_washMost_32 ?_
        refine lv_iload hx hb dX1_washMost_35 (lv_at hl 1 rfl) ?_
        refine lv_iconst (v := 0) hx hb dX1_washMost_37 (by decide) ?_
        refine va_iast hx hb hK hP hD hS 9 0 rfl rfl (vp_in_nI (n := best4 (wsh So n t) (n - 1)) (N := 40) (by omega) (by decide)) dX1_washMost_38 (fun H locs hP hD hS => ?_)
        obtain ⟨F_11, eF_11⟩ : ∃ z : Nat → Nat → Int32, z = va_up F1 9 (upd (F1 9) (nI (best4 (wsh So n t) (n - 1))).toNatClampNeg 0) := ⟨_, rfl⟩
        have hP : va_P (dC, dI) vwCl (wC cI cZ h F_11 V) H := by rw [eF_11]; exact hP
        have hD : va_D A (wC cI cZ h F_11 V) := by rw [eF_11]; exact hD
        obtain ⟨S_12, eS_12⟩ : ∃ z : Nat → Nat, z = nup (wsh So n t) (best4 (wsh So n t) (n - 1)) 0 := ⟨_, rfl⟩
        have hN_13 : ∀ i, i < 40 → F_11 9 i = nI (S_12 i) := by rw [eF_11, eS_12]; show ∀ i, i < 40 → upd (F1 9) (nI (best4 (wsh So n t) (n - 1))).toNatClampNeg 0 i = nI _; exact nf_put hS1 (nI_clamp (n := best4 (wsh So n t) (n - 1)) (by omega))
        have bN_14 : ∀ i, i < 40 → S_12 i ≤ 90 := by rw [eS_12]; exact nb_put bS1 (by omega)
        have hE_15 : F_11 9 (best4 (wsh So n t) (n - 1)) = 0 := by rw [eF_11]; show upd _ (nI (best4 (wsh So n t) (n - 1))).toNatClampNeg _ _ = _; rw [nI_clamp (by omega)]; exact pk_us
        refine lv_iinc (v := nI (k - 1)) (lv' := [(3, .int (nI (k - 1))), (2, .int (nI ((wgo So n t) + ((wsh So n t) (best4 (wsh So n t) (n - 1)))))), (4, .int (nI (best4 (wsh So n t) (n - 1)))), (0, .ref (h 1)), (1, .int (nI k0))]) hx hb dX1_washMost_39 hl (k := 4) rfl (dec_nI (by omega)) (by decide) rfl (fun ls hl => ?_)
        refine lv_goto (tgt := 11) hx hb dX1_washMost_42 (by decide) ?_
        have hb_16 : S_12 = wsh So n (t + 1) := by rw [eS_12]; rfl
        rw [hb_16] at hN_13 bN_14
        exact ih11 (k - 1) (t + 1) F_11 (by omega) hN_13 bN_14 (fun j hj => ((va_ne eF_11 (fun h => hj (by rw [h]; decide))).trans (hfr j hj))) (by omega) H locs ls hP hD hS (lv_sub hl [3, 4, 1, 0] rfl)
  exact loop11 _ (min k0 n) 0 F (by omega) hSo bSo (fun _ _ => rfl) (Nat.lt_succ_self _) H locs ls hP hD hS (lv_sub hl [2, 3, 1, 0] rfl)
end
section
def rm_X1_isBetween : Room := { frames := 0, cells := 0, slots := 0, locals := 0 }
set_option maxHeartbeats 4000000 in
set_option maxRecDepth 100000 in
theorem c_X1_isBetween (l : Launch) (dC : Nat → ClassId) (dI : Nat → Nat → Nat) (cI cZ cJ : ClassId) (h : Nat → Nat) (F : Nat → Nat → Int32) (V : Nat → Int32)  (k0 k1 : Nat) (hk0 : k0 < 40) (hk1 : k1 < 40)   : CtI l (dC, dI) vwCl (tys3 cI cZ cJ) yX1_isBetween wsX1_isBetween rm_X1_isBetween [.ref (h 1), .int (nI k0), .int (nI k1)] (wC cI cZ h F V) (S := Unit) (fun r _ => r = bI (btw (F 6 k0) (F 7 k0) (F 6 k1) (F 7 k1))) (fun _ => wC cI cZ h F V) 0 0 := by
  refine ct_I (cc := cX1_isBetween) (maxL := 8) (ty := .boolean) (own := RX1) (by decide) rfl rfl (Nat.le_of_ble_eq_true rfl) (lv := [(0, .ref (h 1)), (1, .int (nI k0)), (2, .int (nI k1))]) rfl ?_
  intro p e s m args below meth c A Q ls fx hK hP hD hA hl hret
  obtain ⟨hx, hb, hml, hown, hts⟩ := id fx
  have hS : va_S A s.heap s.heap [] := va_S.rf
  have hw0 := hts (.fieldLink RX1 15 "MirrorTower$Field" "xs" "[I") (by decide +kernel)
  have hin_X1 : ∀ w ∈ u_ws RX1 TX1 11, w ∈ wsX1_isBetween := by decide +kernel
  have hw2 := hts (.fieldLink RX1 18 "MirrorTower$Field" "ys" "[I") (by decide +kernel)
  obtain ⟨H, hH⟩ : ∃ H, H = s.heap := ⟨_, rfl⟩
  rw [← hH] at hP ⊢
  have hS : va_S A s.heap H [] := by rw [hH]; exact hS
  generalize ([] : List Loc) = locs at hS ⊢
  refine lv_aload_n hx hb dX1_isBetween_0 rfl (lv_at hl 0 rfl) ?_
  refine va_get (D := (dC, dI)) (ci := 1) (v := .ref (h 6)) (C := RX1) (T := TX1) (N := 11) hx hb hts hin_X1 hown hK hP 1 rfl rfl 1 (by decide) hw0 (fun _ h9 => h9) rfl dX1_isBetween_1 ?_
  refine lv_iload_n hx hb dX1_isBetween_4 rfl (lv_at hl 1 rfl) ?_
  refine va_iald hx hb hK hP 6 0 rfl rfl (vp_in_nI (n := k0) (N := 40) (by omega) (by decide)) dX1_isBetween_5 ?_
  refine lv_topi (fun x_1 ex_1 => ?_)
  rw [nI_clamp (n := k0) (by omega)] at ex_1
  refine lv_bipush (v := 7) hx hb dX1_isBetween_6 (by decide) ?_
  refine lv_isub hx hb dX1_isBetween_8 ?_
  refine lv_istore_n (lv' := [(3, .int (x_1 - 7)), (0, .ref (h 1)), (1, .int (nI k0)), (2, .int (nI k1))]) hx hb dX1_isBetween_9 rfl hl (by decide) rfl (fun ls hl => ?_)
  refine lv_aload_n hx hb dX1_isBetween_10 rfl (lv_at hl 1 rfl) ?_
  refine va_get (D := (dC, dI)) (ci := 1) (v := .ref (h 7)) (C := RX1) (T := TX1) (N := 11) hx hb hts hin_X1 hown hK hP 1 rfl rfl 2 (by decide) hw2 (fun _ h9 => h9) rfl dX1_isBetween_11 ?_
  refine lv_iload_n hx hb dX1_isBetween_14 rfl (lv_at hl 2 rfl) ?_
  refine va_iald hx hb hK hP 7 0 rfl rfl (vp_in_nI (n := k0) (N := 40) (by omega) (by decide)) dX1_isBetween_15 ?_
  refine lv_topi (fun x_2 ex_2 => ?_)
  rw [nI_clamp (n := k0) (by omega)] at ex_2
  refine lv_iconst (v := 0) hx hb dX1_isBetween_16 (by decide) ?_
  refine lv_isub hx hb dX1_isBetween_17 ?_
  refine lv_istore (lv' := [(4, .int (x_2 - 0)), (3, .int (x_1 - 7)), (0, .ref (h 1)), (1, .int (nI k0)), (2, .int (nI k1))]) hx hb dX1_isBetween_18 hl (by decide) rfl (fun ls hl => ?_)
  refine lv_aload_n hx hb dX1_isBetween_20 rfl (lv_at hl 2 rfl) ?_
  refine va_get (D := (dC, dI)) (ci := 1) (v := .ref (h 6)) (C := RX1) (T := TX1) (N := 11) hx hb hts hin_X1 hown hK hP 1 rfl rfl 1 (by decide) hw0 (fun _ h9 => h9) rfl dX1_isBetween_21 ?_
  refine lv_iload_n hx hb dX1_isBetween_24 rfl (lv_at hl 4 rfl) ?_
  refine va_iald hx hb hK hP 6 0 rfl rfl (vp_in_nI (n := k1) (N := 40) (by omega) (by decide)) dX1_isBetween_25 ?_
  refine lv_topi (fun x_3 ex_3 => ?_)
  rw [nI_clamp (n := k1) (by omega)] at ex_3
  refine lv_bipush (v := 7) hx hb dX1_isBetween_26 (by decide) ?_
  refine lv_isub hx hb dX1_isBetween_28 ?_
  refine lv_istore (lv' := [(5, .int (x_3 - 7)), (4, .int (x_2 - 0)), (3, .int (x_1 - 7)), (0, .ref (h 1)), (1, .int (nI k0)), (2, .int (nI k1))]) hx hb dX1_isBetween_29 hl (by decide) rfl (fun ls hl => ?_)
  refine lv_aload_n hx hb dX1_isBetween_31 rfl (lv_at hl 3 rfl) ?_
  refine va_get (D := (dC, dI)) (ci := 1) (v := .ref (h 7)) (C := RX1) (T := TX1) (N := 11) hx hb hts hin_X1 hown hK hP 1 rfl rfl 2 (by decide) hw2 (fun _ h9 => h9) rfl dX1_isBetween_32 ?_
  refine lv_iload_n hx hb dX1_isBetween_35 rfl (lv_at hl 5 rfl) ?_
  refine va_iald hx hb hK hP 7 0 rfl rfl (vp_in_nI (n := k1) (N := 40) (by omega) (by decide)) dX1_isBetween_36 ?_
  refine lv_topi (fun x_4 ex_4 => ?_)
  rw [nI_clamp (n := k1) (by omega)] at ex_4
  refine lv_iconst (v := 0) hx hb dX1_isBetween_37 (by decide) ?_
  refine lv_isub hx hb dX1_isBetween_38 ?_
  refine lv_istore (lv' := [(6, .int (x_4 - 0)), (5, .int (x_3 - 7)), (4, .int (x_2 - 0)), (3, .int (x_1 - 7)), (0, .ref (h 1)), (1, .int (nI k0)), (2, .int (nI k1))]) hx hb dX1_isBetween_39 hl (by decide) rfl (fun ls hl => ?_)
  refine lv_iload_n hx hb dX1_isBetween_41 rfl (lv_at hl 3 rfl) ?_
  refine lv_iload hx hb dX1_isBetween_42 (lv_at hl 0 rfl) ?_
  refine lv_imul hx hb dX1_isBetween_44 ?_
  refine lv_iload hx hb dX1_isBetween_45 (lv_at hl 2 rfl) ?_
  refine lv_iload hx hb dX1_isBetween_47 (lv_at hl 1 rfl) ?_
  refine lv_imul hx hb dX1_isBetween_49 ?_
  refine lv_icmp_eq (tgt := 55) hx hb dX1_isBetween_50 (by decide) (fun c_5 => ?_) (fun c_5 => ?_)
  · have c_5 : eqI ((x_1 - 7) * (x_4 - 0)) ((x_2 - 0) * (x_3 - 7)) = true := decide_eq_true c_5
    refine lv_iload_n hx hb dX1_isBetween_55 rfl (lv_at hl 3 rfl) ?_
    refine lv_iload hx hb dX1_isBetween_56 (lv_at hl 1 rfl) ?_
    refine lv_imul hx hb dX1_isBetween_58 ?_
    refine lv_iload hx hb dX1_isBetween_59 (lv_at hl 2 rfl) ?_
    refine lv_iload hx hb dX1_isBetween_61 (lv_at hl 0 rfl) ?_
    refine lv_imul hx hb dX1_isBetween_63 ?_
    refine lv_iadd hx hb dX1_isBetween_64 ?_
    refine lv_topi (fun x_6 ex_6 => ?_)
    refine lv_istore (lv' := [(7, .int x_6), (6, .int (x_4 - 0)), (5, .int (x_3 - 7)), (4, .int (x_2 - 0)), (3, .int (x_1 - 7)), (0, .ref (h 1)), (1, .int (nI k0)), (2, .int (nI k1))]) hx hb dX1_isBetween_65 hl (by decide) rfl (fun ls hl => ?_)
    refine lv_iload hx hb dX1_isBetween_67 (lv_at hl 0 rfl) ?_
    refine lv_if_le (tgt := 92) hx hb dX1_isBetween_69 (by decide) (fun c_7 => ?_) (fun c_7 => ?_)
    · have c_7 : ltI 0 x_6 = false := decide_eq_false (Int32.not_lt.mpr c_7)
      refine lv_iconst (v := 0) hx hb dX1_isBetween_92 (by decide) ?_
      exact hret 0 () H locs 93 ls rfl dX1_isBetween_93 (by (try subst ex_6); (try subst ex_4); (try subst ex_3); (try subst ex_2); (try subst ex_1); rw [btw, c_5, c_7]; try rfl) (hP) (hD) hS
    · have c_7 : ltI 0 x_6 = true := decide_eq_true (Int32.not_le.mp c_7)
      refine lv_iload hx hb dX1_isBetween_72 (lv_at hl 0 rfl) ?_
      refine lv_iload hx hb dX1_isBetween_74 (lv_at hl 2 rfl) ?_
      refine lv_iload hx hb dX1_isBetween_76 (lv_at hl 2 rfl) ?_
      refine lv_imul hx hb dX1_isBetween_78 ?_
      refine lv_iload hx hb dX1_isBetween_79 (lv_at hl 1 rfl) ?_
      refine lv_iload hx hb dX1_isBetween_81 (lv_at hl 1 rfl) ?_
      refine lv_imul hx hb dX1_isBetween_83 ?_
      refine lv_iadd hx hb dX1_isBetween_84 ?_
      refine lv_topi (fun x_8 ex_8 => ?_)
      refine lv_icmp_ge (tgt := 92) hx hb dX1_isBetween_85 (by decide) (fun c_9 => ?_) (fun c_9 => ?_)
      · have c_9 : ltI x_6 x_8 = false := decide_eq_false (Int32.not_lt.mpr c_9)
        refine lv_iconst (v := 0) hx hb dX1_isBetween_92 (by decide) ?_
        exact hret 0 () H locs 93 ls rfl dX1_isBetween_93 (by (try subst ex_8); (try subst ex_6); (try subst ex_4); (try subst ex_3); (try subst ex_2); (try subst ex_1); rw [btw, c_5, c_7, c_9]; try rfl) (hP) (hD) hS
      · have c_9 : ltI x_6 x_8 = true := decide_eq_true (Int32.not_le.mp c_9)
        refine lv_iconst (v := 1) hx hb dX1_isBetween_88 (by decide) ?_
        refine lv_goto (tgt := 93) hx hb dX1_isBetween_89 (by decide) ?_
        exact hret 1 () H locs 93 ls rfl dX1_isBetween_93 (by (try subst ex_8); (try subst ex_6); (try subst ex_4); (try subst ex_3); (try subst ex_2); (try subst ex_1); rw [btw, c_5, c_7, c_9]; try rfl) (hP) (hD) hS
  · have c_5 : eqI ((x_1 - 7) * (x_4 - 0)) ((x_2 - 0) * (x_3 - 7)) = false := decide_eq_false c_5
    refine lv_iconst (v := 0) hx hb dX1_isBetween_53 (by decide) ?_
    exact hret 0 () H locs 54 ls rfl dX1_isBetween_54 (by (try subst ex_8); (try subst ex_6); (try subst ex_4); (try subst ex_3); (try subst ex_2); (try subst ex_1); rw [btw, c_5]; try rfl) (hP) (hD) hS
end
section
def rm_X1_place : Room := { frames := 1, cells := 0, slots := 0, locals := 27 }
set_option maxHeartbeats 4000000 in
set_option maxRecDepth 100000 in
theorem c_X1_place (l : Launch) (dC : Nat → ClassId) (dI : Nat → Nat → Nat) (cI cZ cJ : ClassId) (h : Nat → Nat) (F : Nat → Nat → Int32) (V : Nat → Int32) (n : Nat) (hV1 : V 1 = nI n) (bV1 : n ≤ 40) (k0 k1 : Nat) (hk0 : k0 < 15) (hk1 : k1 < 15)  (hn : n < 40) : CtI l (dC, dI) vwCl (tys3 cI cZ cJ) yX1_place wsX1_place rm_X1_place [.ref (h 1), .int (nI k0), .int (nI k1)] (wC cI cZ h F V) (S := Nat → Nat → Int32) (fun r u => (r = nI n) ∧ (∀ j, j ∉ ([5, 6, 7, 8] : List Nat) → u j = F j) ∧ (u 6 = upd (F 6) n (nI k0) ∧ u 7 = upd (F 7) n (nI k1) ∧ u 5 = upd (F 5) k1 (F 5 k1 ||| ((1 : Int32) <<< (nI k0 &&& 31))))) (fun u => wC cI cZ h u (va_up V 1 (nI (n + 1)))) 0 0 := by
  refine ct_I (cc := cX1_place) (maxL := 5) (ty := .int) (own := RX1) (by decide) rfl rfl (Nat.le_of_ble_eq_true rfl) (lv := [(0, .ref (h 1)), (1, .int (nI k0)), (2, .int (nI k1))]) rfl ?_
  intro p e s m args below meth c A Q ls fx hK hP hD hA hl hret
  obtain ⟨hx, hb, hml, hown, hts⟩ := id fx
  have hS : va_S A s.heap s.heap [] := va_S.rf
  have hw0 := hts (.fieldLink RX1 43 "MirrorTower$Field" "size" "I") (by decide +kernel)
  have hin_X1 : ∀ w ∈ u_ws RX1 TX1 11, w ∈ wsX1_place := by decide +kernel
  have hw2 := hts (.fieldLink RX1 15 "MirrorTower$Field" "xs" "[I") (by decide +kernel)
  have hw3 := hts (.fieldLink RX1 18 "MirrorTower$Field" "ys" "[I") (by decide +kernel)
  have hw4 := hts (.fieldLink RX1 9 "MirrorTower$Field" "taken" "[I") (by decide +kernel)
  have hw5 := hts (.fieldLink RX1 21 "MirrorTower$Field" "blockers" "[I") (by decide +kernel)
  obtain ⟨H, hH⟩ : ∃ H, H = s.heap := ⟨_, rfl⟩
  rw [← hH] at hP ⊢
  have hS : va_S A s.heap H [] := by rw [hH]; exact hS
  generalize ([] : List Loc) = locs at hS ⊢
  refine lv_aload_n hx hb dX1_place_0 rfl (lv_at hl 0 rfl) ?_
  refine va_get (D := (dC, dI)) (ci := 1) (v := .int (V 1)) (C := RX1) (T := TX1) (N := 11) hx hb hts hin_X1 hown hK hP 1 rfl rfl 5 (by decide) hw0 (fun _ h9 => h9) rfl dX1_place_1 ?_
  refine lv_topi (fun x_1 ex_1 => ?_)
  obtain rfl : x_1 = nI n := ex_1.trans (hV1)
  refine lv_istore_n (lv' := [(3, .int (nI n)), (0, .ref (h 1)), (1, .int (nI k0)), (2, .int (nI k1))]) hx hb dX1_place_4 rfl hl (by decide) rfl (fun ls hl => ?_)
  refine lv_aload_n hx hb dX1_place_5 rfl (lv_at hl 1 rfl) ?_
  refine va_get (D := (dC, dI)) (ci := 1) (v := .ref (h 6)) (C := RX1) (T := TX1) (N := 11) hx hb hts hin_X1 hown hK hP 1 rfl rfl 1 (by decide) hw2 (fun _ h9 => h9) rfl dX1_place_6 ?_
  refine lv_iload_n hx hb dX1_place_9 rfl (lv_at hl 0 rfl) ?_
  refine lv_iload_n hx hb dX1_place_10 rfl (lv_at hl 2 rfl) ?_
  refine va_iast hx hb hK hP hD hS 6 0 rfl rfl (vp_in_nI (n := n) (N := 40) (by omega) (by decide)) dX1_place_11 (fun H locs hP hD hS => ?_)
  obtain ⟨F_2, eF_2⟩ : ∃ z : Nat → Nat → Int32, z = va_up F 6 (upd (F 6) (nI n).toNatClampNeg (nI k0)) := ⟨_, rfl⟩
  have hP : va_P (dC, dI) vwCl (wC cI cZ h F_2 V) H := by rw [eF_2]; exact hP
  have hD : va_D A (wC cI cZ h F_2 V) := by rw [eF_2]; exact hD
  refine lv_aload_n hx hb dX1_place_12 rfl (lv_at hl 1 rfl) ?_
  refine va_get (D := (dC, dI)) (ci := 1) (v := .ref (h 7)) (C := RX1) (T := TX1) (N := 11) hx hb hts hin_X1 hown hK hP 1 rfl rfl 2 (by decide) hw3 (fun _ h9 => h9) rfl dX1_place_13 ?_
  refine lv_iload_n hx hb dX1_place_16 rfl (lv_at hl 0 rfl) ?_
  refine lv_iload_n hx hb dX1_place_17 rfl (lv_at hl 3 rfl) ?_
  refine va_iast hx hb hK hP hD hS 7 0 rfl rfl (vp_in_nI (n := n) (N := 40) (by omega) (by decide)) dX1_place_18 (fun H locs hP hD hS => ?_)
  obtain ⟨F_3, eF_3⟩ : ∃ z : Nat → Nat → Int32, z = va_up F_2 7 (upd (F_2 7) (nI n).toNatClampNeg (nI k1)) := ⟨_, rfl⟩
  have hP : va_P (dC, dI) vwCl (wC cI cZ h F_3 V) H := by rw [eF_3]; exact hP
  have hD : va_D A (wC cI cZ h F_3 V) := by rw [eF_3]; exact hD
  refine lv_aload_n hx hb dX1_place_19 rfl (lv_at hl 1 rfl) ?_
  refine va_get (D := (dC, dI)) (ci := 1) (v := .ref (h 5)) (C := RX1) (T := TX1) (N := 11) hx hb hts hin_X1 hown hK hP 1 rfl rfl 0 (by decide) hw4 (fun _ h9 => h9) rfl dX1_place_20 ?_
  refine lv_iload_n hx hb dX1_place_23 rfl (lv_at hl 3 rfl) ?_
  refine lv_dup2_11 hx hb dX1_place_24 rfl rfl ?_
  refine va_iald hx hb hK hP 5 0 rfl rfl (vp_in_nI (n := k1) (N := 15) (by omega) (by decide)) dX1_place_25 ?_
  refine lv_topi (fun x_4 ex_4 => ?_)
  rw [nI_clamp (n := k1) (by omega)] at ex_4
  refine lv_iconst (v := 1) hx hb dX1_place_26 (by decide) ?_
  refine lv_iload_n hx hb dX1_place_27 rfl (lv_at hl 2 rfl) ?_
  refine lv_ishl hx hb dX1_place_28 ?_
  refine lv_ior hx hb dX1_place_29 ?_
  refine va_iast hx hb hK hP hD hS 5 0 rfl rfl (vp_in_nI (n := k1) (N := 15) (by omega) (by decide)) dX1_place_30 (fun H locs hP hD hS => ?_)
  obtain ⟨F_5, eF_5⟩ : ∃ z : Nat → Nat → Int32, z = va_up F_3 5 (upd (F_3 5) (nI k1).toNatClampNeg (x_4 ||| (1 <<< ((nI k0) &&& 31)))) := ⟨_, rfl⟩
  have hP : va_P (dC, dI) vwCl (wC cI cZ h F_5 V) H := by rw [eF_5]; exact hP
  have hD : va_D A (wC cI cZ h F_5 V) := by rw [eF_5]; exact hD
  refine lv_aload_n hx hb dX1_place_31 rfl (lv_at hl 1 rfl) ?_
  refine lv_dup hx hb dX1_place_32 rfl ?_
  refine va_get (D := (dC, dI)) (ci := 1) (v := .int (V 1)) (C := RX1) (T := TX1) (N := 11) hx hb hts hin_X1 hown hK hP 1 rfl rfl 5 (by decide) hw0 (fun _ h9 => h9) rfl dX1_place_33 ?_
  refine lv_topi (fun x_6 ex_6 => ?_)
  obtain rfl : x_6 = nI n := ex_6.trans (hV1)
  refine lv_iconst (v := 1) hx hb dX1_place_36 (by decide) ?_
  refine lv_iadd hx hb dX1_place_37 ?_
  refine lv_topi (fun x_7 ex_7 => ?_)
  obtain rfl : x_7 = nI (n + 1) := ex_7.trans (nI_add n 1)
  refine va_put (D := (dC, dI)) (ci := 1) (v := .int (nI (n + 1))) (ty := .int) (C := RX1) (T := TX1) (N := 11) hx hb hts hin_X1 tyX1 tyX1_ok nmX1 hown hK hP hD hS 1 rfl rfl 5 (by decide) hw0 (fun _ h9 => h9) rfl (by decide +kernel) rfl rfl (Nat.le_of_ble_eq_true rfl) dX1_place_38 (fun H locs hP hD hS => ?_)
  have hP : va_P (dC, dI) vwCl (wC cI cZ h F_5 (va_up V 1 (nI (n + 1)))) H := hP
  have hD : va_D A (wC cI cZ h F_5 (va_up V 1 (nI (n + 1)))) := hD
  refine lv_iconst (v := 0) hx hb dX1_place_41 (by decide) ?_
  refine lv_istore (lv' := [(4, .int 0), (3, .int (nI n)), (0, .ref (h 1)), (1, .int (nI k0)), (2, .int (nI k1))]) hx hb dX1_place_42 hl (by decide) rfl (fun ls hl => ?_)
  have loop44 : ∀ (fu : Nat) (k : Nat) (F1 : Nat → Nat → Int32), (k ≤ n) → (∀ j, j ∉ ([8] : List Nat) → F1 j = F_5 j) → (n - k) < fu → ∀ (H : Heap) (locs : List Loc) (ls : Array Slot), va_P (dC, dI) vwCl (wC cI cZ h F1 (va_up V 1 (nI (n + 1)))) H → va_D A (wC cI cZ h F1 (va_up V 1 (nI (n + 1)))) → va_S A s.heap H locs → lv_has ls 5 [(0, .ref (h 1)), (1, .int (nI k0)), (2, .int (nI k1)), (3, .int (nI n)), (4, .int (nI k))] → W p l e rm_X1_place s m args below meth c H locs 0 0 Q (F0 m 44 ls []) := by
    intro fu
    induction fu with
    | zero => intro k F1 hk hfr hn_; exact absurd hn_ (Nat.not_lt_zero _)
    | succ fu ih44 =>
      intro k F1 hk hfr hn_ H locs ls hP hD hS hl
      refine lv_iload hx hb dX1_place_44 (lv_at hl 4 rfl) ?_
      refine lv_iload_n hx hb dX1_place_46 rfl (lv_at hl 3 rfl) ?_
      refine lv_icmp_ge (tgt := 97) hx hb dX1_place_47 (by decide) (fun c_8 => ?_) (fun c_8 => ?_)
      · have c_8 : n ≤ k := (nI_leI (a := n) (b := k) (by omega) (by omega)).mp c_8
        refine lv_iload_n hx hb dX1_place_97 rfl (lv_at hl 3 rfl) ?_
        exact hret (nI n) F1 H locs 98 ls rfl dX1_place_98 (by
                    have q6 : F1 6 = upd (F 6) n (nI k0) := by rw [hfr 6 (by decide), eF_5, eF_3, eF_2]; show upd (F 6) (nI n).toNatClampNeg (nI k0) = _; rw [nI_clamp (by omega)]
                    have q7 : F1 7 = upd (F 7) n (nI k1) := by rw [hfr 7 (by decide), eF_5, eF_3, eF_2]; show upd (F 7) (nI n).toNatClampNeg (nI k1) = _; rw [nI_clamp (by omega)]
                    have q5 : F1 5 = upd (F 5) k1 (F 5 k1 ||| ((1 : Int32) <<< (nI k0 &&& 31))) := by rw [hfr 5 (by decide), eF_5, eF_3, eF_2]; show upd (F 5) (nI k1).toNatClampNeg _ = _; rw [nI_clamp (by omega)]; rw [ex_4, eF_3, eF_2]; rfl
                    refine ⟨rfl, fun j hj => ?_, q6, q7, q5⟩
                    have h5 : j ≠ 5 := fun q => hj (q ▸ (by decide : 5 ∈ ([5, 6, 7, 8] : List Nat)))
                    have h6 : j ≠ 6 := fun q => hj (q ▸ (by decide : 6 ∈ ([5, 6, 7, 8] : List Nat)))
                    have h7 : j ≠ 7 := fun q => hj (q ▸ (by decide : 7 ∈ ([5, 6, 7, 8] : List Nat)))
                    have h8 : j ∉ ([8] : List Nat) := fun q => hj ((by decide : ∀ x ∈ ([8] : List Nat), x ∈ ([5, 6, 7, 8] : List Nat)) j q)
                    exact (hfr j h8).trans ((va_ne eF_5 h5).trans ((va_ne eF_3 h7).trans (va_ne eF_2 h6)))) (hP) (hD) hS
      · have c_8 : ¬ n ≤ k := fun h => c_8 ((nI_leI (a := n) (b := k) (by omega) (by omega)).mpr h)
        refine lv_aload_n hx hb dX1_place_50 rfl (lv_at hl 0 rfl) ?_
        refine lv_iload hx hb dX1_place_51 (lv_at hl 4 rfl) ?_
        refine lv_iload_n hx hb dX1_place_53 rfl (lv_at hl 3 rfl) ?_
        refine cw_Vi (As := [.int (nI k), .int (nI n)]) (rest := []) (c_X1_isBetween l dC dI cI cZ cJ h F1 (va_up V 1 (nI (n + 1))) k n (by omega) (by omega)) fx (cwV 2 hts gX1_place_X1_isBetween rfl rfl rfl (by decide +kernel) ⟨Nat.le_of_ble_eq_true rfl, Nat.le_of_ble_eq_true rfl⟩) hK hP hD hS hA 1 rfl rfl rfl rfl hl.1 rfl (Nat.le_of_ble_eq_true rfl) dX1_place_54 ⟨Nat.le_of_ble_eq_true rfl, Nat.le_of_ble_eq_true rfl⟩ (fun r_9 u_10 H locs hw_11 hP hD hS => ?_)
        have hP : va_P (dC, dI) vwCl (wC cI cZ h F1 (va_up V 1 (nI (n + 1)))) H := hP
        have hD : va_D A (wC cI cZ h F1 (va_up V 1 (nI (n + 1)))) := hD
        have hw_11 : r_9 = bI (btw (F1 6 k) (F1 7 k) (F1 6 n) (F1 7 n)) := hw_11
        refine lv_if_eq (tgt := 70) hx hb dX1_place_57 (by decide) (fun c_12 => ?_) (fun c_12 => ?_)
        · have c_12 : btw (F1 6 k) (F1 7 k) (F1 6 n) (F1 7 n) = false := bI_f hw_11 c_12
          refine lv_aload_n hx hb dX1_place_70 rfl (lv_at hl 0 rfl) ?_
          refine lv_iload_n hx hb dX1_place_71 rfl (lv_at hl 3 rfl) ?_
          refine lv_iload hx hb dX1_place_72 (lv_at hl 4 rfl) ?_
          refine cw_Vi (As := [.int (nI n), .int (nI k)]) (rest := []) (c_X1_isBetween l dC dI cI cZ cJ h F1 (va_up V 1 (nI (n + 1))) n k (by omega) (by omega)) fx (cwV 2 hts gX1_place_X1_isBetween rfl rfl rfl (by decide +kernel) ⟨Nat.le_of_ble_eq_true rfl, Nat.le_of_ble_eq_true rfl⟩) hK hP hD hS hA 1 rfl rfl rfl rfl hl.1 rfl (Nat.le_of_ble_eq_true rfl) dX1_place_74 ⟨Nat.le_of_ble_eq_true rfl, Nat.le_of_ble_eq_true rfl⟩ (fun r_13 u_14 H locs hw_15 hP hD hS => ?_)
          have hP : va_P (dC, dI) vwCl (wC cI cZ h F1 (va_up V 1 (nI (n + 1)))) H := hP
          have hD : va_D A (wC cI cZ h F1 (va_up V 1 (nI (n + 1)))) := hD
          have hw_15 : r_13 = bI (btw (F1 6 n) (F1 7 n) (F1 6 k) (F1 7 k)) := hw_15
          refine lv_if_eq (tgt := 91) hx hb dX1_place_77 (by decide) (fun c_16 => ?_) (fun c_16 => ?_)
          · have c_16 : btw (F1 6 n) (F1 7 n) (F1 6 k) (F1 7 k) = false := bI_f hw_15 c_16
            refine lv_iinc (v := nI (k + 1)) (lv' := [(4, .int (nI (k + 1))), (0, .ref (h 1)), (1, .int (nI k0)), (2, .int (nI k1)), (3, .int (nI n))]) hx hb dX1_place_91 hl (k := 4) rfl (nI_1 _) (by decide) rfl (fun ls hl => ?_)
            refine lv_goto (tgt := 44) hx hb dX1_place_94 (by decide) ?_
            exact ih44 (k + 1) F1 (by omega) (fun j hj => (hfr j hj)) (by omega) H locs ls hP hD hS (lv_sub hl [1, 2, 3, 4, 0] rfl)
          · have c_16 : btw (F1 6 n) (F1 7 n) (F1 6 k) (F1 7 k) = true := bI_t hw_15 c_16
            refine lv_aload_n hx hb dX1_place_80 rfl (lv_at hl 0 rfl) ?_
            refine va_get (D := (dC, dI)) (ci := 1) (v := .ref (h 8)) (C := RX1) (T := TX1) (N := 11) hx hb hts hin_X1 hown hK hP 1 rfl rfl 3 (by decide) hw5 (fun _ h9 => h9) rfl dX1_place_81 ?_
            refine lv_iload hx hb dX1_place_84 (lv_at hl 4 rfl) ?_
            refine lv_dup2_11 hx hb dX1_place_86 rfl rfl ?_
            refine va_iald hx hb hK hP 8 0 rfl rfl (vp_in_nI (n := k) (N := 40) (by omega) (by decide)) dX1_place_87 ?_
            refine lv_topi (fun x_17 ex_17 => ?_)
            rw [nI_clamp (n := k) (by omega)] at ex_17
            refine lv_iconst (v := 1) hx hb dX1_place_88 (by decide) ?_
            refine lv_iadd hx hb dX1_place_89 ?_
            refine va_iast hx hb hK hP hD hS 8 0 rfl rfl (vp_in_nI (n := k) (N := 40) (by omega) (by decide)) dX1_place_90 (fun H locs hP hD hS => ?_)
            obtain ⟨F_18, eF_18⟩ : ∃ z : Nat → Nat → Int32, z = va_up F1 8 (upd (F1 8) (nI k).toNatClampNeg (x_17 + 1)) := ⟨_, rfl⟩
            have hP : va_P (dC, dI) vwCl (wC cI cZ h F_18 (va_up V 1 (nI (n + 1)))) H := by rw [eF_18]; exact hP
            have hD : va_D A (wC cI cZ h F_18 (va_up V 1 (nI (n + 1)))) := by rw [eF_18]; exact hD
            refine lv_iinc (v := nI (k + 1)) (lv' := [(4, .int (nI (k + 1))), (0, .ref (h 1)), (1, .int (nI k0)), (2, .int (nI k1)), (3, .int (nI n))]) hx hb dX1_place_91 hl (k := 4) rfl (nI_1 _) (by decide) rfl (fun ls hl => ?_)
            refine lv_goto (tgt := 44) hx hb dX1_place_94 (by decide) ?_
            exact ih44 (k + 1) F_18 (by omega) (fun j hj => ((va_ne eF_18 (fun h => hj (by rw [h]; decide))).trans (hfr j hj))) (by omega) H locs ls hP hD hS (lv_sub hl [1, 2, 3, 4, 0] rfl)
        · have c_12 : btw (F1 6 k) (F1 7 k) (F1 6 n) (F1 7 n) = true := bI_t hw_11 c_12
          refine lv_aload_n hx hb dX1_place_60 rfl (lv_at hl 0 rfl) ?_
          refine va_get (D := (dC, dI)) (ci := 1) (v := .ref (h 8)) (C := RX1) (T := TX1) (N := 11) hx hb hts hin_X1 hown hK hP 1 rfl rfl 3 (by decide) hw5 (fun _ h9 => h9) rfl dX1_place_61 ?_
          refine lv_iload_n hx hb dX1_place_64 rfl (lv_at hl 3 rfl) ?_
          refine lv_dup2_11 hx hb dX1_place_65 rfl rfl ?_
          refine va_iald hx hb hK hP 8 0 rfl rfl (vp_in_nI (n := n) (N := 40) (by omega) (by decide)) dX1_place_66 ?_
          refine lv_topi (fun x_19 ex_19 => ?_)
          rw [nI_clamp (n := n) (by omega)] at ex_19
          refine lv_iconst (v := 1) hx hb dX1_place_67 (by decide) ?_
          refine lv_iadd hx hb dX1_place_68 ?_
          refine va_iast hx hb hK hP hD hS 8 0 rfl rfl (vp_in_nI (n := n) (N := 40) (by omega) (by decide)) dX1_place_69 (fun H locs hP hD hS => ?_)
          obtain ⟨F_20, eF_20⟩ : ∃ z : Nat → Nat → Int32, z = va_up F1 8 (upd (F1 8) (nI n).toNatClampNeg (x_19 + 1)) := ⟨_, rfl⟩
          have hP : va_P (dC, dI) vwCl (wC cI cZ h F_20 (va_up V 1 (nI (n + 1)))) H := by rw [eF_20]; exact hP
          have hD : va_D A (wC cI cZ h F_20 (va_up V 1 (nI (n + 1)))) := by rw [eF_20]; exact hD
          refine lv_aload_n hx hb dX1_place_70 rfl (lv_at hl 0 rfl) ?_
          refine lv_iload_n hx hb dX1_place_71 rfl (lv_at hl 3 rfl) ?_
          refine lv_iload hx hb dX1_place_72 (lv_at hl 4 rfl) ?_
          refine cw_Vi (As := [.int (nI n), .int (nI k)]) (rest := []) (c_X1_isBetween l dC dI cI cZ cJ h F_20 (va_up V 1 (nI (n + 1))) n k (by omega) (by omega)) fx (cwV 2 hts gX1_place_X1_isBetween rfl rfl rfl (by decide +kernel) ⟨Nat.le_of_ble_eq_true rfl, Nat.le_of_ble_eq_true rfl⟩) hK hP hD hS hA 1 rfl rfl rfl rfl hl.1 rfl (Nat.le_of_ble_eq_true rfl) dX1_place_74 ⟨Nat.le_of_ble_eq_true rfl, Nat.le_of_ble_eq_true rfl⟩ (fun r_21 u_22 H locs hw_23 hP hD hS => ?_)
          have hP : va_P (dC, dI) vwCl (wC cI cZ h F_20 (va_up V 1 (nI (n + 1)))) H := hP
          have hD : va_D A (wC cI cZ h F_20 (va_up V 1 (nI (n + 1)))) := hD
          have hw_23 : r_21 = bI (btw (F_20 6 n) (F_20 7 n) (F_20 6 k) (F_20 7 k)) := hw_23
          refine lv_if_eq (tgt := 91) hx hb dX1_place_77 (by decide) (fun c_24 => ?_) (fun c_24 => ?_)
          · have c_24 : btw (F_20 6 n) (F_20 7 n) (F_20 6 k) (F_20 7 k) = false := bI_f hw_23 c_24
            refine lv_iinc (v := nI (k + 1)) (lv' := [(4, .int (nI (k + 1))), (0, .ref (h 1)), (1, .int (nI k0)), (2, .int (nI k1)), (3, .int (nI n))]) hx hb dX1_place_91 hl (k := 4) rfl (nI_1 _) (by decide) rfl (fun ls hl => ?_)
            refine lv_goto (tgt := 44) hx hb dX1_place_94 (by decide) ?_
            exact ih44 (k + 1) F_20 (by omega) (fun j hj => ((va_ne eF_20 (fun h => hj (by rw [h]; decide))).trans (hfr j hj))) (by omega) H locs ls hP hD hS (lv_sub hl [1, 2, 3, 4, 0] rfl)
          · have c_24 : btw (F_20 6 n) (F_20 7 n) (F_20 6 k) (F_20 7 k) = true := bI_t hw_23 c_24
            refine lv_aload_n hx hb dX1_place_80 rfl (lv_at hl 0 rfl) ?_
            refine va_get (D := (dC, dI)) (ci := 1) (v := .ref (h 8)) (C := RX1) (T := TX1) (N := 11) hx hb hts hin_X1 hown hK hP 1 rfl rfl 3 (by decide) hw5 (fun _ h9 => h9) rfl dX1_place_81 ?_
            refine lv_iload hx hb dX1_place_84 (lv_at hl 4 rfl) ?_
            refine lv_dup2_11 hx hb dX1_place_86 rfl rfl ?_
            refine va_iald hx hb hK hP 8 0 rfl rfl (vp_in_nI (n := k) (N := 40) (by omega) (by decide)) dX1_place_87 ?_
            refine lv_topi (fun x_25 ex_25 => ?_)
            rw [nI_clamp (n := k) (by omega)] at ex_25
            refine lv_iconst (v := 1) hx hb dX1_place_88 (by decide) ?_
            refine lv_iadd hx hb dX1_place_89 ?_
            refine va_iast hx hb hK hP hD hS 8 0 rfl rfl (vp_in_nI (n := k) (N := 40) (by omega) (by decide)) dX1_place_90 (fun H locs hP hD hS => ?_)
            obtain ⟨F_26, eF_26⟩ : ∃ z : Nat → Nat → Int32, z = va_up F_20 8 (upd (F_20 8) (nI k).toNatClampNeg (x_25 + 1)) := ⟨_, rfl⟩
            have hP : va_P (dC, dI) vwCl (wC cI cZ h F_26 (va_up V 1 (nI (n + 1)))) H := by rw [eF_26]; exact hP
            have hD : va_D A (wC cI cZ h F_26 (va_up V 1 (nI (n + 1)))) := by rw [eF_26]; exact hD
            refine lv_iinc (v := nI (k + 1)) (lv' := [(4, .int (nI (k + 1))), (0, .ref (h 1)), (1, .int (nI k0)), (2, .int (nI k1)), (3, .int (nI n))]) hx hb dX1_place_91 hl (k := 4) rfl (nI_1 _) (by decide) rfl (fun ls hl => ?_)
            refine lv_goto (tgt := 44) hx hb dX1_place_94 (by decide) ?_
            exact ih44 (k + 1) F_26 (by omega) (fun j hj => ((va_ne eF_26 (fun h => hj (by rw [h]; decide))).trans ((va_ne eF_20 (fun h => hj (by rw [h]; decide))).trans (hfr j hj)))) (by omega) H locs ls hP hD hS (lv_sub hl [1, 2, 3, 4, 0] rfl)
  exact loop44 _ 0 F_5 (by omega) (fun _ _ => rfl) (Nat.lt_succ_self _) H locs ls hP hD hS (lv_sub hl [2, 3, 4, 1, 0] rfl)
end
section
def rm_X0_keptPowerAt : Room := { frames := 0, cells := 0, slots := 0, locals := 0 }
set_option maxHeartbeats 4000000 in
set_option maxRecDepth 100000 in
theorem c_X0_keptPowerAt (l : Launch) (dC : Nat → ClassId) (dI : Nat → Nat → Nat) (cI cZ cJ : ClassId) (h : Nat → Nat) (F : Nat → Nat → Int32) (V : Nat → Int32)  (k0 : Nat) (hk0 : k0 < 4)   : CtI l (dC, dI) vwCl (tys3 cI cZ cJ) yX0_keptPowerAt wsX0_keptPowerAt rm_X0_keptPowerAt [.ref (h 2), .int (nI k0)] (wC cI cZ h F V) (S := Unit) (fun r _ => r = F 20 k0) (fun _ => wC cI cZ h F V) 0 0 := by
  refine ct_I (cc := cX0_keptPowerAt) (maxL := 2) (ty := .int) (own := RX0) (by decide) rfl rfl (Nat.le_of_ble_eq_true rfl) (lv := [(0, .ref (h 2)), (1, .int (nI k0))]) rfl ?_
  intro p e s m args below meth c A Q ls fx hK hP hD hA hl hret
  obtain ⟨hx, hb, hml, hown, hts⟩ := id fx
  have hS : va_S A s.heap s.heap [] := va_S.rf
  have hw0 := hts (.fieldLink RX0 40 "MirrorTower$Face" "keptPowers" "[I") (by decide +kernel)
  have hin_X0 : ∀ w ∈ u_ws RX0 TX0 11, w ∈ wsX0_keptPowerAt := by decide +kernel
  obtain ⟨H, hH⟩ : ∃ H, H = s.heap := ⟨_, rfl⟩
  rw [← hH] at hP ⊢
  have hS : va_S A s.heap H [] := by rw [hH]; exact hS
  generalize ([] : List Loc) = locs at hS ⊢
  refine lv_aload_n hx hb dX0_keptPowerAt_0 rfl (lv_at hl 0 rfl) ?_
  refine va_get (D := (dC, dI)) (ci := 0) (v := .ref (h 20)) (C := RX0) (T := TX0) (N := 11) hx hb hts hin_X0 hown hK hP 2 rfl rfl 7 (by decide) hw0 (fun _ h9 => h9) rfl dX0_keptPowerAt_1 ?_
  refine lv_iload_n hx hb dX0_keptPowerAt_4 rfl (lv_at hl 1 rfl) ?_
  refine va_iald hx hb hK hP 20 0 rfl rfl (vp_in_nI (n := k0) (N := 4) (by omega) (by decide)) dX0_keptPowerAt_5 ?_
  refine lv_topi (fun x_1 ex_1 => ?_)
  rw [nI_clamp (n := k0) (by omega)] at ex_1
  exact hret x_1 () H locs 6 ls rfl dX0_keptPowerAt_6 (ex_1) (hP) (hD) hS
def rm_X0_keptCellOf : Room := { frames := 0, cells := 0, slots := 0, locals := 0 }
set_option maxHeartbeats 4000000 in
set_option maxRecDepth 100000 in
theorem c_X0_keptCellOf (l : Launch) (dC : Nat → ClassId) (dI : Nat → Nat → Nat) (cI cZ cJ : ClassId) (h : Nat → Nat) (F : Nat → Nat → Int32) (V : Nat → Int32) (ks : Nat) (hV3 : V 3 = nI ks) (bV3 : ks ≤ 40) (k0 : Nat) (hk0 : k0 < 40)   : CtI l (dC, dI) vwCl (tys3 cI cZ cJ) yX0_keptCellOf wsX0_keptCellOf rm_X0_keptCellOf [.ref (h 2), .int (nI k0)] (wC cI cZ h F V) (S := Unit) (fun r _ => r = if k0 < ks then F 19 k0 else (-1)) (fun _ => wC cI cZ h F V) 0 0 := by
  refine ct_I (cc := cX0_keptCellOf) (maxL := 2) (ty := .int) (own := RX0) (by decide) rfl rfl (Nat.le_of_ble_eq_true rfl) (lv := [(0, .ref (h 2)), (1, .int (nI k0))]) rfl ?_
  intro p e s m args below meth c A Q ls fx hK hP hD hA hl hret
  obtain ⟨hx, hb, hml, hown, hts⟩ := id fx
  have hS : va_S A s.heap s.heap [] := va_S.rf
  have hw0 := hts (.fieldLink RX0 60 "MirrorTower$Face" "keptSize" "I") (by decide +kernel)
  have hin_X0 : ∀ w ∈ u_ws RX0 TX0 11, w ∈ wsX0_keptCellOf := by decide +kernel
  have hw2 := hts (.fieldLink RX0 37 "MirrorTower$Face" "keptCells" "[I") (by decide +kernel)
  obtain ⟨H, hH⟩ : ∃ H, H = s.heap := ⟨_, rfl⟩
  rw [← hH] at hP ⊢
  have hS : va_S A s.heap H [] := by rw [hH]; exact hS
  generalize ([] : List Loc) = locs at hS ⊢
  refine lv_iload_n hx hb dX0_keptCellOf_0 rfl (lv_at hl 1 rfl) ?_
  refine lv_aload_n hx hb dX0_keptCellOf_1 rfl (lv_at hl 0 rfl) ?_
  refine va_get (D := (dC, dI)) (ci := 0) (v := .int (V 3)) (C := RX0) (T := TX0) (N := 11) hx hb hts hin_X0 hown hK hP 2 rfl rfl 8 (by decide) hw0 (fun _ h9 => h9) rfl dX0_keptCellOf_2 ?_
  refine lv_topi (fun x_1 ex_1 => ?_)
  obtain rfl : x_1 = nI ks := ex_1.trans (hV3)
  refine lv_icmp_ge (tgt := 17) hx hb dX0_keptCellOf_5 (by decide) (fun c_2 => ?_) (fun c_2 => ?_)
  · have c_2 : ks ≤ k0 := (nI_leI (a := ks) (b := k0) (by omega) (by omega)).mp c_2
    refine lv_iconst (v := (-1)) hx hb dX0_keptCellOf_17 (by decide) ?_
    exact hret (-1) () H locs 18 ls rfl dX0_keptCellOf_18 (by rw [if_neg (by omega)]) (hP) (hD) hS
  · have c_2 : ¬ ks ≤ k0 := fun h => c_2 ((nI_leI (a := ks) (b := k0) (by omega) (by omega)).mpr h)
    refine lv_aload_n hx hb dX0_keptCellOf_8 rfl (lv_at hl 0 rfl) ?_
    refine va_get (D := (dC, dI)) (ci := 0) (v := .ref (h 19)) (C := RX0) (T := TX0) (N := 11) hx hb hts hin_X0 hown hK hP 2 rfl rfl 6 (by decide) hw2 (fun _ h9 => h9) rfl dX0_keptCellOf_9 ?_
    refine lv_iload_n hx hb dX0_keptCellOf_12 rfl (lv_at hl 1 rfl) ?_
    refine va_iald hx hb hK hP 19 0 rfl rfl (vp_in_nI (n := k0) (N := 40) (by omega) (by decide)) dX0_keptCellOf_13 ?_
    refine lv_topi (fun x_3 ex_3 => ?_)
    rw [nI_clamp (n := k0) (by omega)] at ex_3
    refine lv_goto (tgt := 18) hx hb dX0_keptCellOf_14 (by decide) ?_
    exact hret x_3 () H locs 18 ls rfl dX0_keptCellOf_18 (by rw [if_pos (by omega)]; exact ex_3) (hP) (hD) hS
def rm_X0_roomiestCell : Room := { frames := 0, cells := 0, slots := 0, locals := 0 }
set_option maxHeartbeats 4000000 in
set_option maxRecDepth 100000 in
theorem c_X0_roomiestCell (l : Launch) (dC : Nat → ClassId) (dI : Nat → Nat → Nat) (cI cZ cJ : ClassId) (h : Nat → Nat) (F : Nat → Nat → Int32) (V : Nat → Int32)  (Lf : Nat → Nat) (hLf : ∀ i, i < 4 → F 18 i = nI (Lf i)) (bLf : ∀ i, i < 4 → Lf i ≤ 10000)    : CtI l (dC, dI) vwCl (tys3 cI cZ cJ) yX0_roomiestCell wsX0_roomiestCell rm_X0_roomiestCell [.ref (h 2)] (wC cI cZ h F V) (S := Unit) (fun r _ => r = nI (best4 Lf 3)) (fun _ => wC cI cZ h F V) 0 0 := by
  refine ct_I (cc := cX0_roomiestCell) (maxL := 3) (ty := .int) (own := RX0) (by decide) rfl rfl (Nat.le_of_ble_eq_true rfl) (lv := [(0, .ref (h 2))]) rfl ?_
  intro p e s m args below meth c A Q ls fx hK hP hD hA hl hret
  obtain ⟨hx, hb, hml, hown, hts⟩ := id fx
  have hS : va_S A s.heap s.heap [] := va_S.rf
  have hw0 := hts (.fieldLink RX0 34 "MirrorTower$Face" "left" "[I") (by decide +kernel)
  have hin_X0 : ∀ w ∈ u_ws RX0 TX0 11, w ∈ wsX0_roomiestCell := by decide +kernel
  obtain ⟨H, hH⟩ : ∃ H, H = s.heap := ⟨_, rfl⟩
  rw [← hH] at hP ⊢
  have hS : va_S A s.heap H [] := by rw [hH]; exact hS
  generalize ([] : List Loc) = locs at hS ⊢
  refine lv_iconst (v := 0) hx hb dX0_roomiestCell_0 (by decide) ?_
  refine lv_istore_n (lv' := [(1, .int 0), (0, .ref (h 2))]) hx hb dX0_roomiestCell_1 rfl hl (by decide) rfl (fun ls hl => ?_)
  refine lv_iconst (v := 1) hx hb dX0_roomiestCell_2 (by decide) ?_
  refine lv_istore_n (lv' := [(2, .int 1), (1, .int 0), (0, .ref (h 2))]) hx hb dX0_roomiestCell_3 rfl hl (by decide) rfl (fun ls hl => ?_)
  have loop4 : ∀ (fu : Nat) (k : Nat) (b : Nat), (1 ≤ k) → (k ≤ 4) → (b = best4 Lf (k - 1)) → (b < 4) → (4 - k) < fu → ∀ (H : Heap) (locs : List Loc) (ls : Array Slot), va_P (dC, dI) vwCl (wC cI cZ h F V) H → va_D A (wC cI cZ h F V) → va_S A s.heap H locs → lv_has ls 3 [(0, .ref (h 2)), (1, .int (nI b)), (2, .int (nI k))] → W p l e rm_X0_roomiestCell s m args below meth c H locs 0 0 Q (F0 m 4 ls []) := by
    intro fu
    induction fu with
    | zero => intro k b hk hk2 hbb hb2 hn_; exact absurd hn_ (Nat.not_lt_zero _)
    | succ fu ih4 =>
      intro k b hk hk2 hbb hb2 hn_ H locs ls hP hD hS hl
      refine lv_iload_n hx hb dX0_roomiestCell_4 rfl (lv_at hl 2 rfl) ?_
      refine lv_iconst (v := 4) hx hb dX0_roomiestCell_5 (by decide) ?_
      refine lv_icmp_ge (tgt := 32) hx hb dX0_roomiestCell_6 (by decide) (fun c_1 => ?_) (fun c_1 => ?_)
      · have c_1 : 4 ≤ k := (nI_leI (a := 4) (b := k) (by omega) (by omega)).mp c_1
        refine lv_iload_n hx hb dX0_roomiestCell_32 rfl (lv_at hl 1 rfl) ?_
        exact hret (nI b) () H locs 33 ls rfl dX0_roomiestCell_33 (by rw [hbb, show k - 1 = 3 by omega]) (hP) (hD) hS
      · have c_1 : ¬ 4 ≤ k := fun h => c_1 ((nI_leI (a := 4) (b := k) (by omega) (by omega)).mpr h)
        refine lv_aload_n hx hb dX0_roomiestCell_9 rfl (lv_at hl 0 rfl) ?_
        refine va_get (D := (dC, dI)) (ci := 0) (v := .ref (h 18)) (C := RX0) (T := TX0) (N := 11) hx hb hts hin_X0 hown hK hP 2 rfl rfl 5 (by decide) hw0 (fun _ h9 => h9) rfl dX0_roomiestCell_10 ?_
        refine lv_iload_n hx hb dX0_roomiestCell_13 rfl (lv_at hl 2 rfl) ?_
        refine va_iald hx hb hK hP 18 0 rfl rfl (vp_in_nI (n := k) (N := 4) (by omega) (by decide)) dX0_roomiestCell_14 ?_
        have hb_2 := bLf k (by omega)
        refine lv_topi (fun x_3 ex_3 => ?_)
        obtain rfl : x_3 = nI (Lf k) := ex_3.trans ((congrArg (F 18) (nI_clamp (n := k) (by omega))).trans (hLf k (by omega)))
        refine lv_aload_n hx hb dX0_roomiestCell_15 rfl (lv_at hl 0 rfl) ?_
        refine va_get (D := (dC, dI)) (ci := 0) (v := .ref (h 18)) (C := RX0) (T := TX0) (N := 11) hx hb hts hin_X0 hown hK hP 2 rfl rfl 5 (by decide) hw0 (fun _ h9 => h9) rfl dX0_roomiestCell_16 ?_
        refine lv_iload_n hx hb dX0_roomiestCell_19 rfl (lv_at hl 1 rfl) ?_
        refine va_iald hx hb hK hP 18 0 rfl rfl (vp_in_nI (n := b) (N := 4) (by omega) (by decide)) dX0_roomiestCell_20 ?_
        have hb_4 := bLf b (by omega)
        refine lv_topi (fun x_5 ex_5 => ?_)
        obtain rfl : x_5 = nI (Lf b) := ex_5.trans ((congrArg (F 18) (nI_clamp (n := b) (by omega))).trans (hLf b (by omega)))
        refine lv_icmp_le (tgt := 26) hx hb dX0_roomiestCell_21 (by decide) (fun c_6 => ?_) (fun c_6 => ?_)
        · have c_6 : (Lf k) ≤ (Lf b) := (nI_leI (a := Lf k) (b := Lf b) (by omega) (by omega)).mp c_6
          refine lv_iinc (v := nI (k + 1)) (lv' := [(2, .int (nI (k + 1))), (0, .ref (h 2)), (1, .int (nI b))]) hx hb dX0_roomiestCell_26 hl (k := 2) rfl (nI_1 _) (by decide) rfl (fun ls hl => ?_)
          refine lv_goto (tgt := 4) hx hb dX0_roomiestCell_29 (by decide) ?_
          exact ih4 (k + 1) b (by omega) (by omega) (by rw [show k + 1 - 1 = k by omega, best4_s Lf (by omega), ← hbb, if_neg (by omega)]) (by omega) (by omega) H locs ls hP hD hS (lv_sub hl [1, 2, 0] rfl)
        · have c_6 : ¬ (Lf k) ≤ (Lf b) := fun h => c_6 ((nI_leI (a := Lf k) (b := Lf b) (by omega) (by omega)).mpr h)
          refine lv_iload_n hx hb dX0_roomiestCell_24 rfl (lv_at hl 2 rfl) ?_
          refine lv_istore_n (lv' := [(1, .int (nI k)), (0, .ref (h 2)), (2, .int (nI k))]) hx hb dX0_roomiestCell_25 rfl hl (by decide) rfl (fun ls hl => ?_)
          refine lv_iinc (v := nI (k + 1)) (lv' := [(2, .int (nI (k + 1))), (1, .int (nI k)), (0, .ref (h 2))]) hx hb dX0_roomiestCell_26 hl (k := 2) rfl (nI_1 _) (by decide) rfl (fun ls hl => ?_)
          refine lv_goto (tgt := 4) hx hb dX0_roomiestCell_29 (by decide) ?_
          exact ih4 (k + 1) k (by omega) (by omega) (by rw [show k + 1 - 1 = k by omega, best4_s Lf (by omega), ← hbb, if_pos (by omega)]) (by omega) (by omega) H locs ls hP hD hS (lv_sub hl [2, 1, 0] rfl)
  exact loop4 _ 1 0 (by omega) (by omega) rfl (by omega) (Nat.lt_succ_self _) H locs ls hP hD hS (lv_sub hl [2, 1, 0] rfl)
def rm_X0_readPowers : Room := { frames := 3, cells := 0, slots := 0, locals := 60 }
set_option maxHeartbeats 4000000 in
set_option maxRecDepth 100000 in
theorem c_X0_readPowers (l : Launch) (dC : Nat → ClassId) (dI : Nat → Nat → Nat) (cI cZ cJ : ClassId) (h : Nat → Nat) (F : Nat → Nat → Int32) (V : Nat → Int32) (n : Nat) (hV1 : V 1 = nI n) (bV1 : n ≤ 40) (d : Nat) (hV2 : V 2 = nI d) (bV2 : d ≤ 20) (So : Nat → Nat) (hSo : ∀ i, i < 40 → F 9 i = nI (So i)) (bSo : ∀ i, i < 40 → So i ≤ 90) (Hh : Nat → Nat) (hHh : ∀ i, i < 24 → F 12 i = nI (Hh i)) (bHh : ∀ i, i < 24 → Hh i ≤ 9) (Wd : Nat → Nat) (hWd : ∀ i, i < 24 → F 13 i = nI (Wd i)) (bWd : ∀ i, i < 24 → Wd i ≤ 99) (k0 k1 : Nat) (hk0 : k0 < 24) (hk1 : k1 ≤ 23)   : CtV l (dC, dI) vwCl (tys3 cI cZ cJ) yX0_readPowers wsX0_readPowers rm_X0_readPowers [.ref (h 2), .int (nI k0), .int (nI k1)] (wC cI cZ h F V) (S := Nat → Nat → Int32) (fun u => (∀ j, j ∉ ([16] : List Nat) → u j = F j) ∧ (∀ i, i < n → u 16 i = nI (pwF F Hh So Wd d k0 k1 i))) (fun u => wC cI cZ h u V) 0 0 := by
  refine ct_V (cc := cX0_readPowers) (maxL := 4) (own := RX0) (by decide) rfl rfl (Nat.le_of_ble_eq_true rfl) (lv := [(0, .ref (h 2)), (1, .int (nI k0)), (2, .int (nI k1))]) rfl ?_
  intro p e s m args below meth c A Q ls hnm fx hK hP hD hA hl hret
  obtain ⟨hx, hb, hml, hown, hts⟩ := id fx
  have hS : va_S A s.heap s.heap [] := va_S.rf
  have hw0 := hts (.fieldLink RX0 11 "MirrorTower$Face" "field" "LMirrorTower$Field;") (by decide +kernel)
  have hin_X0 : ∀ w ∈ u_ws RX0 TX0 11, w ∈ wsX0_readPowers := by decide +kernel
  have hw2 := hts (.fieldLink RX0 28 "MirrorTower$Face" "powers" "[I") (by decide +kernel)
  obtain ⟨H, hH⟩ : ∃ H, H = s.heap := ⟨_, rfl⟩
  rw [← hH] at hP ⊢
  have hS : va_S A s.heap H [] := by rw [hH]; exact hS
  generalize ([] : List Loc) = locs at hS ⊢
  refine lv_iconst (v := 0) hx hb dX0_readPowers_0 (by decide) ?_
  refine lv_istore_n (lv' := [(3, .int 0), (0, .ref (h 2)), (1, .int (nI k0)), (2, .int (nI k1))]) hx hb dX0_readPowers_1 rfl hl (by decide) rfl (fun ls hl => ?_)
  have loop2 : ∀ (fu : Nat) (k : Nat) (F1 : Nat → Nat → Int32), (k ≤ n) → (∀ i, i < k → F1 16 i = nI (pwF F Hh So Wd d k0 k1 i)) → (∀ j, j ∉ ([16] : List Nat) → F1 j = F j) → (n - k) < fu → ∀ (H : Heap) (locs : List Loc) (ls : Array Slot), va_P (dC, dI) vwCl (wC cI cZ h F1 V) H → va_D A (wC cI cZ h F1 V) → va_S A s.heap H locs → lv_has ls 4 [(0, .ref (h 2)), (1, .int (nI k0)), (2, .int (nI k1)), (3, .int (nI k))] → W p l e rm_X0_readPowers s m args below meth c H locs 0 0 Q (F0 m 2 ls []) := by
    intro fu
    induction fu with
    | zero => intro k F1 hk hp hfr hn_; exact absurd hn_ (Nat.not_lt_zero _)
    | succ fu ih2 =>
      intro k F1 hk hp hfr hn_ H locs ls hP hD hS hl
      have hN_1 : ∀ i, i < 40 → F1 9 i = nI (So i) := by rw [hfr 9 (by decide)]; exact hSo
      have hN_2 : ∀ i, i < 24 → F1 12 i = nI (Hh i) := by rw [hfr 12 (by decide)]; exact hHh
      have hN_3 : ∀ i, i < 24 → F1 13 i = nI (Wd i) := by rw [hfr 13 (by decide)]; exact hWd
      refine lv_iload_n hx hb dX0_readPowers_2 rfl (lv_at hl 3 rfl) ?_
      refine lv_aload_n hx hb dX0_readPowers_3 rfl (lv_at hl 0 rfl) ?_
      refine va_get (D := (dC, dI)) (ci := 0) (v := .ref (h 1)) (C := RX0) (T := TX0) (N := 11) hx hb hts hin_X0 hown hK hP 2 rfl rfl 0 (by decide) hw0 (fun _ h9 => h9) rfl dX0_readPowers_4 ?_
      refine cw_Vi (As := []) (rest := [.int (nI k)]) (c_X1_size l dC dI cI cZ cJ h F1 V) fx (cwV 0 hts gX0_readPowers_X1_size rfl rfl rfl (by decide +kernel) ⟨Nat.le_of_ble_eq_true rfl, Nat.le_of_ble_eq_true rfl⟩) hK hP hD hS hA 1 rfl rfl rfl rfl hl.1 rfl (Nat.le_of_ble_eq_true rfl) dX0_readPowers_7 ⟨Nat.le_of_ble_eq_true rfl, Nat.le_of_ble_eq_true rfl⟩ (fun r_4 u_5 H locs hw_6 hP hD hS => ?_)
      have hP : va_P (dC, dI) vwCl (wC cI cZ h F1 V) H := hP
      have hD : va_D A (wC cI cZ h F1 V) := hD
      obtain rfl : r_4 = nI n := Eq.trans hw_6 hV1
      refine lv_icmp_ge (tgt := 35) hx hb dX0_readPowers_10 (by decide) (fun c_7 => ?_) (fun c_7 => ?_)
      · have c_7 : n ≤ k := (nI_leI (a := n) (b := k) (by omega) (by omega)).mp c_7
        exact hret F1 H locs 35 ls dX0_readPowers_35 (⟨hfr, fun i hi => hp i (by omega)⟩) (hP) (hD) hS
      · have c_7 : ¬ n ≤ k := fun h => c_7 ((nI_leI (a := n) (b := k) (by omega) (by omega)).mpr h)
        refine lv_aload_n hx hb dX0_readPowers_13 rfl (lv_at hl 0 rfl) ?_
        refine va_get (D := (dC, dI)) (ci := 0) (v := .ref (h 16)) (C := RX0) (T := TX0) (N := 11) hx hb hts hin_X0 hown hK hP 2 rfl rfl 3 (by decide) hw2 (fun _ h9 => h9) rfl dX0_readPowers_14 ?_
        refine lv_iload_n hx hb dX0_readPowers_17 rfl (lv_at hl 3 rfl) ?_
        refine lv_aload_n hx hb dX0_readPowers_18 rfl (lv_at hl 0 rfl) ?_
        refine va_get (D := (dC, dI)) (ci := 0) (v := .ref (h 1)) (C := RX0) (T := TX0) (N := 11) hx hb hts hin_X0 hown hK hP 2 rfl rfl 0 (by decide) hw0 (fun _ h9 => h9) rfl dX0_readPowers_19 ?_
        refine lv_iload_n hx hb dX0_readPowers_22 rfl (lv_at hl 3 rfl) ?_
        refine lv_iload_n hx hb dX0_readPowers_23 rfl (lv_at hl 1 rfl) ?_
        refine lv_iload_n hx hb dX0_readPowers_24 rfl (lv_at hl 2 rfl) ?_
        refine cw_Vi (As := [.int (nI k), .int (nI k0), .int (nI k1)]) (rest := [.int (nI k), .ref (h 16)]) (c_X1_powerOf l dC dI cI cZ cJ h F1 V d hV2 (by omega) So hN_1 bSo Hh hN_2 bHh Wd hN_3 bWd k k0 k1 (by omega) (by omega) (by omega)) fx (cwV 3 hts gX0_readPowers_X1_powerOf rfl rfl rfl (by decide +kernel) ⟨Nat.le_of_ble_eq_true rfl, Nat.le_of_ble_eq_true rfl⟩) hK hP hD hS hA 1 rfl rfl rfl rfl hl.1 rfl (Nat.le_of_ble_eq_true rfl) dX0_readPowers_25 ⟨Nat.le_of_ble_eq_true rfl, Nat.le_of_ble_eq_true rfl⟩ (fun r_8 u_9 H locs hw_10 hP hD hS => ?_)
        have hP : va_P (dC, dI) vwCl (wC cI cZ h F1 V) H := hP
        have hD : va_D A (wC cI cZ h F1 V) := hD
        obtain rfl : r_8 = nI (pwN F1 Hh So Wd d k k0 k1) := hw_10
        refine va_iast hx hb hK hP hD hS 16 0 rfl rfl (vp_in_nI (n := k) (N := 40) (by omega) (by decide)) dX0_readPowers_28 (fun H locs hP hD hS => ?_)
        obtain ⟨F_11, eF_11⟩ : ∃ z : Nat → Nat → Int32, z = va_up F1 16 (upd (F1 16) (nI k).toNatClampNeg (nI (pwN F1 Hh So Wd d k k0 k1))) := ⟨_, rfl⟩
        have hP : va_P (dC, dI) vwCl (wC cI cZ h F_11 V) H := by rw [eF_11]; exact hP
        have hD : va_D A (wC cI cZ h F_11 V) := by rw [eF_11]; exact hD
        have hN_12 : ∀ i, i < 40 → F_11 9 i = nI (So i) := by rw [eF_11]; exact hN_1
        have hN_13 : ∀ i, i < 24 → F_11 12 i = nI (Hh i) := by rw [eF_11]; exact hN_2
        have hN_14 : ∀ i, i < 24 → F_11 13 i = nI (Wd i) := by rw [eF_11]; exact hN_3
        refine lv_iinc (v := nI (k + 1)) (lv' := [(3, .int (nI (k + 1))), (0, .ref (h 2)), (1, .int (nI k0)), (2, .int (nI k1))]) hx hb dX0_readPowers_29 hl (k := 3) rfl (nI_1 _) (by decide) rfl (fun ls hl => ?_)
        refine lv_goto (tgt := 2) hx hb dX0_readPowers_32 (by decide) ?_
        have hb_15 : ∀ i, i < k + 1 → F_11 16 i = nI (pwF F Hh So Wd d k0 k1 i) := fun i hi => by
          rw [eF_11]
          show upd (F1 16) (nI k).toNatClampNeg _ i = _
          rw [nI_clamp (by omega)]
          by_cases q : i = k
          · rw [q, pk_us, pwN_cong (F := F) (fun j hj => hfr j (fun z => hj ((by decide : ∀ x ∈ ([16] : List Nat), x ∈ ([15, 16, 17, 18, 19, 20, 21, 22] : List Nat)) j z)))]; rfl
          · rw [pk_un q]; exact hp i (by omega)
        exact ih2 (k + 1) F_11 (by omega) hb_15 (fun j hj => ((va_ne eF_11 (fun h => hj (by rw [h]; decide))).trans (hfr j hj))) (by omega) H locs ls hP hD hS (lv_sub hl [1, 2, 3, 0] rfl)
  exact loop2 _ 0 F (by omega) (fun i hi => absurd hi (Nat.not_lt_zero i)) (fun _ _ => rfl) (Nat.lt_succ_self _) H locs ls hP hD hS (lv_sub hl [1, 2, 3, 0] rfl)
def rm_X0_rank : Room := { frames := 1, cells := 0, slots := 0, locals := 20 }
set_option maxHeartbeats 4000000 in
set_option maxRecDepth 100000 in
theorem c_X0_rank (l : Launch) (dC : Nat → ClassId) (dI : Nat → Nat → Nat) (cI cZ cJ : ClassId) (h : Nat → Nat) (F : Nat → Nat → Int32) (V : Nat → Int32) (n : Nat) (hV1 : V 1 = nI n) (bV1 : n ≤ 40) (Pw : Nat → Nat) (hPw : ∀ i, i < n → F 16 i = nI (Pw i)) (bPw : ∀ i, i < n → Pw i ≤ 100)    : CtV l (dC, dI) vwCl (tys3 cI cZ cJ) yX0_rank wsX0_rank rm_X0_rank [.ref (h 2)] (wC cI cZ h F V) (S := Nat → Nat → Int32) (fun u => (∀ j, j ∉ ([15] : List Nat) → u j = F j) ∧ (∀ i, i < n → u 15 i = nI (ordn Pw n i))) (fun u => wC cI cZ h u V) 0 0 := by
  refine ct_V (cc := cX0_rank) (maxL := 3) (own := RX0) (by decide) rfl rfl (Nat.le_of_ble_eq_true rfl) (lv := [(0, .ref (h 2))]) rfl ?_
  intro p e s m args below meth c A Q ls hnm fx hK hP hD hA hl hret
  obtain ⟨hx, hb, hml, hown, hts⟩ := id fx
  have hS : va_S A s.heap s.heap [] := va_S.rf
  have hw0 := hts (.fieldLink RX0 11 "MirrorTower$Face" "field" "LMirrorTower$Field;") (by decide +kernel)
  have hin_X0 : ∀ w ∈ u_ws RX0 TX0 11, w ∈ wsX0_rank := by decide +kernel
  have hw2 := hts (.fieldLink RX0 25 "MirrorTower$Face" "order" "[I") (by decide +kernel)
  have hw3 := hts (.fieldLink RX0 28 "MirrorTower$Face" "powers" "[I") (by decide +kernel)
  obtain ⟨H, hH⟩ : ∃ H, H = s.heap := ⟨_, rfl⟩
  rw [← hH] at hP ⊢
  have hS : va_S A s.heap H [] := by rw [hH]; exact hS
  generalize ([] : List Loc) = locs at hS ⊢
  refine lv_iconst (v := 0) hx hb dX0_rank_0 (by decide) ?_
  refine lv_istore_n (lv' := [(1, .int 0), (0, .ref (h 2))]) hx hb dX0_rank_1 rfl hl (by decide) rfl (fun ls hl => ?_)
  have loop2 : ∀ (fu : Nat) (mm : Nat) (F1 : Nat → Nat → Int32), (mm ≤ n) → (∀ i, i < mm → F1 15 i = nI (ordn Pw mm i)) → (∀ j, j ∉ ([15] : List Nat) → F1 j = F j) → (n - mm) < fu → ∀ (H : Heap) (locs : List Loc) (ls : Array Slot), va_P (dC, dI) vwCl (wC cI cZ h F1 V) H → va_D A (wC cI cZ h F1 V) → va_S A s.heap H locs → lv_has ls 3 [(0, .ref (h 2)), (1, .int (nI mm))] → W p l e rm_X0_rank s m args below meth c H locs 0 0 Q (F0 m 2 ls []) := by
    intro fu
    induction fu with
    | zero => intro mm F1 hm hO hfr hn_; exact absurd hn_ (Nat.not_lt_zero _)
    | succ fu ih2 =>
      intro mm F1 hm hO hfr hn_ H locs ls hP hD hS hl
      have hN_1 : ∀ i, i < n → F1 16 i = nI (Pw i) := by rw [hfr 16 (by decide)]; exact hPw
      refine lv_iload_n hx hb dX0_rank_2 rfl (lv_at hl 1 rfl) ?_
      refine lv_aload_n hx hb dX0_rank_3 rfl (lv_at hl 0 rfl) ?_
      refine va_get (D := (dC, dI)) (ci := 0) (v := .ref (h 1)) (C := RX0) (T := TX0) (N := 11) hx hb hts hin_X0 hown hK hP 2 rfl rfl 0 (by decide) hw0 (fun _ h9 => h9) rfl dX0_rank_4 ?_
      refine cw_Vi (As := []) (rest := [.int (nI mm)]) (c_X1_size l dC dI cI cZ cJ h F1 V) fx (cwV 0 hts gX0_rank_X1_size rfl rfl rfl (by decide +kernel) ⟨Nat.le_of_ble_eq_true rfl, Nat.le_of_ble_eq_true rfl⟩) hK hP hD hS hA 1 rfl rfl rfl rfl hl.1 rfl (Nat.le_of_ble_eq_true rfl) dX0_rank_7 ⟨Nat.le_of_ble_eq_true rfl, Nat.le_of_ble_eq_true rfl⟩ (fun r_2 u_3 H locs hw_4 hP hD hS => ?_)
      have hP : va_P (dC, dI) vwCl (wC cI cZ h F1 V) H := hP
      have hD : va_D A (wC cI cZ h F1 V) := hD
      obtain rfl : r_2 = nI n := Eq.trans hw_4 hV1
      refine lv_icmp_ge (tgt := 74) hx hb dX0_rank_10 (by decide) (fun c_5 => ?_) (fun c_5 => ?_)
      · have c_5 : n ≤ mm := (nI_leI (a := n) (b := mm) (by omega) (by omega)).mp c_5
        exact hret F1 H locs 74 ls dX0_rank_74 (by
                    obtain rfl : mm = n := by omega
                    exact ⟨hfr, hO⟩) (hP) (hD) hS
      · have c_5 : ¬ n ≤ mm := fun h => c_5 ((nI_leI (a := n) (b := mm) (by omega) (by omega)).mpr h)
        refine lv_iload_n hx hb dX0_rank_13 rfl (lv_at hl 1 rfl) ?_
        refine lv_istore_n (lv' := [(2, .int (nI mm)), (0, .ref (h 2)), (1, .int (nI mm))]) hx hb dX0_rank_14 rfl hl (by decide) rfl (fun ls hl => ?_)
        have loop15 : ∀ (fu : Nat) (t : Nat) (F2 : Nat → Nat → Int32), (t ≤ mm) → (posn Pw (ordn Pw mm) mm mm = posn Pw (ordn Pw mm) mm t) → (∀ i, i < t → F2 15 i = nI (ordn Pw mm i)) → (∀ i, t < i → i ≤ mm → F2 15 i = nI (ordn Pw mm (i - 1))) → (∀ j, j ∉ ([15] : List Nat) → F2 j = F j) → (t) < fu → ∀ (H : Heap) (locs : List Loc) (ls : Array Slot), va_P (dC, dI) vwCl (wC cI cZ h F2 V) H → va_D A (wC cI cZ h F2 V) → va_S A s.heap H locs → lv_has ls 3 [(0, .ref (h 2)), (1, .int (nI mm)), (2, .int (nI t))] → W p l e rm_X0_rank s m args below meth c H locs 0 0 Q (F0 m 15 ls []) := by
          intro fu
          induction fu with
          | zero => intro t F2 ht hps hlo hhi hfr2 hn_; exact absurd hn_ (Nat.not_lt_zero _)
          | succ fu ih15 =>
            intro t F2 ht hps hlo hhi hfr2 hn_ H locs ls hP hD hS hl
            have hN_6 : ∀ i, i < n → F2 16 i = nI (Pw i) := by rw [hfr2 16 (by decide)]; exact hPw
            refine lv_iload_n hx hb dX0_rank_15 rfl (lv_at hl 2 rfl) ?_
            refine lv_if_le (tgt := 61) hx hb dX0_rank_16 (by decide) (fun c_7 => ?_) (fun c_7 => ?_)
            · have c_7 : t ≤ 0 := (nI_leI (a := t) (b := 0) (by omega) (by omega)).mp c_7
              refine lv_aload_n hx hb dX0_rank_61 rfl (lv_at hl 0 rfl) ?_
              refine va_get (D := (dC, dI)) (ci := 0) (v := .ref (h 15)) (C := RX0) (T := TX0) (N := 11) hx hb hts hin_X0 hown hK hP 2 rfl rfl 2 (by decide) hw2 (fun _ h9 => h9) rfl dX0_rank_62 ?_
              refine lv_iload_n hx hb dX0_rank_65 rfl (lv_at hl 2 rfl) ?_
              refine lv_iload_n hx hb dX0_rank_66 rfl (lv_at hl 1 rfl) ?_
              refine va_iast hx hb hK hP hD hS 15 0 rfl rfl (vp_in_nI (n := t) (N := 40) (by omega) (by decide)) dX0_rank_67 (fun H locs hP hD hS => ?_)
              obtain ⟨F_8, eF_8⟩ : ∃ z : Nat → Nat → Int32, z = va_up F2 15 (upd (F2 15) (nI t).toNatClampNeg (nI mm)) := ⟨_, rfl⟩
              have hP : va_P (dC, dI) vwCl (wC cI cZ h F_8 V) H := by rw [eF_8]; exact hP
              have hD : va_D A (wC cI cZ h F_8 V) := by rw [eF_8]; exact hD
              have hN_9 : ∀ i, i < n → F_8 16 i = nI (Pw i) := by rw [eF_8]; exact hN_6
              refine lv_iinc (v := nI (mm + 1)) (lv' := [(1, .int (nI (mm + 1))), (0, .ref (h 2)), (2, .int (nI t))]) hx hb dX0_rank_68 hl (k := 1) rfl (nI_1 _) (by decide) rfl (fun ls hl => ?_)
              refine lv_goto (tgt := 2) hx hb dX0_rank_71 (by decide) ?_
              have hb_11 : posn Pw (ordn Pw mm) mm mm = t := by
                rw [hps]
                by_cases h0 : t = 0
                · rw [h0]; rfl
                · exact posn_e (by omega) (by omega)
              have hb_10 : ∀ i, i < mm + 1 → F_8 15 i = nI (ordn Pw (mm + 1) i) := fun i hi => by
                rw [eF_8]
                show upd (F2 15) (nI t).toNatClampNeg (nI mm) i = nI (insn Pw (ordn Pw mm) mm i)
                rw [nI_clamp (by omega), insn, hb_11]
                by_cases q1 : i < t
                · rw [if_pos q1, pk_un (by omega)]; exact hlo i q1
                · rw [if_neg q1]
                  by_cases q2 : i = t
                  · rw [if_pos q2, q2]; exact pk_us
                  · rw [if_neg q2, pk_un q2]; exact hhi i (by omega) (by omega)
              exact ih2 (mm + 1) F_8 (by omega) hb_10 (fun j hj => ((va_ne eF_8 (fun h => hj (by rw [h]; decide))).trans (hfr2 j hj))) (by omega) H locs ls hP hD hS (lv_sub hl [1, 0] rfl)
            · have c_7 : ¬ t ≤ 0 := fun h => c_7 ((nI_leI (a := t) (b := 0) (by omega) (by omega)).mpr h)
              refine lv_aload_n hx hb dX0_rank_19 rfl (lv_at hl 0 rfl) ?_
              refine va_get (D := (dC, dI)) (ci := 0) (v := .ref (h 16)) (C := RX0) (T := TX0) (N := 11) hx hb hts hin_X0 hown hK hP 2 rfl rfl 3 (by decide) hw3 (fun _ h9 => h9) rfl dX0_rank_20 ?_
              refine lv_aload_n hx hb dX0_rank_23 rfl (lv_at hl 0 rfl) ?_
              refine va_get (D := (dC, dI)) (ci := 0) (v := .ref (h 15)) (C := RX0) (T := TX0) (N := 11) hx hb hts hin_X0 hown hK hP 2 rfl rfl 2 (by decide) hw2 (fun _ h9 => h9) rfl dX0_rank_24 ?_
              refine lv_iload_n hx hb dX0_rank_27 rfl (lv_at hl 2 rfl) ?_
              refine lv_iconst (v := 1) hx hb dX0_rank_28 (by decide) ?_
              refine lv_isub hx hb dX0_rank_29 ?_
              refine lv_topi (fun x_12 ex_12 => ?_)
              obtain rfl : x_12 = nI (t - 1) := ex_12.trans (pk_sub (a := t) (b := 1) (by omega))
              refine va_iald hx hb hK hP 15 0 rfl rfl (vp_in_nI (n := t - 1) (N := 40) (by omega) (by decide)) dX0_rank_30 ?_
              have hb_13 := ordn_lt Pw mm (t - 1) (by omega)
              refine lv_topi (fun x_14 ex_14 => ?_)
              obtain rfl : x_14 = nI (ordn Pw mm (t - 1)) := ex_14.trans ((congrArg (F2 15) (nI_clamp (n := t - 1) (by omega))).trans (hlo (t - 1) (by omega)))
              refine va_iald hx hb hK hP 16 0 rfl rfl (vp_in_nI (n := ordn Pw mm (t - 1)) (N := 40) (by omega) (by decide)) dX0_rank_31 ?_
              have hb_15 := bPw (ordn Pw mm (t - 1)) (by omega)
              refine lv_topi (fun x_16 ex_16 => ?_)
              obtain rfl : x_16 = nI (Pw (ordn Pw mm (t - 1))) := ex_16.trans ((congrArg (F2 16) (nI_clamp (n := ordn Pw mm (t - 1)) (by omega))).trans (hN_6 (ordn Pw mm (t - 1)) (by omega)))
              refine lv_aload_n hx hb dX0_rank_32 rfl (lv_at hl 0 rfl) ?_
              refine va_get (D := (dC, dI)) (ci := 0) (v := .ref (h 16)) (C := RX0) (T := TX0) (N := 11) hx hb hts hin_X0 hown hK hP 2 rfl rfl 3 (by decide) hw3 (fun _ h9 => h9) rfl dX0_rank_33 ?_
              refine lv_iload_n hx hb dX0_rank_36 rfl (lv_at hl 1 rfl) ?_
              refine va_iald hx hb hK hP 16 0 rfl rfl (vp_in_nI (n := mm) (N := 40) (by omega) (by decide)) dX0_rank_37 ?_
              have hb_17 := bPw mm (by omega)
              refine lv_topi (fun x_18 ex_18 => ?_)
              obtain rfl : x_18 = nI (Pw mm) := ex_18.trans ((congrArg (F2 16) (nI_clamp (n := mm) (by omega))).trans (hN_6 mm (by omega)))
              refine lv_icmp_ge (tgt := 61) hx hb dX0_rank_38 (by decide) (fun c_19 => ?_) (fun c_19 => ?_)
              · have c_19 : (Pw mm) ≤ (Pw (ordn Pw mm (t - 1))) := (nI_leI (a := Pw mm) (b := Pw (ordn Pw mm (t - 1))) (by omega) (by omega)).mp c_19
                refine lv_aload_n hx hb dX0_rank_61 rfl (lv_at hl 0 rfl) ?_
                refine va_get (D := (dC, dI)) (ci := 0) (v := .ref (h 15)) (C := RX0) (T := TX0) (N := 11) hx hb hts hin_X0 hown hK hP 2 rfl rfl 2 (by decide) hw2 (fun _ h9 => h9) rfl dX0_rank_62 ?_
                refine lv_iload_n hx hb dX0_rank_65 rfl (lv_at hl 2 rfl) ?_
                refine lv_iload_n hx hb dX0_rank_66 rfl (lv_at hl 1 rfl) ?_
                refine va_iast hx hb hK hP hD hS 15 0 rfl rfl (vp_in_nI (n := t) (N := 40) (by omega) (by decide)) dX0_rank_67 (fun H locs hP hD hS => ?_)
                obtain ⟨F_20, eF_20⟩ : ∃ z : Nat → Nat → Int32, z = va_up F2 15 (upd (F2 15) (nI t).toNatClampNeg (nI mm)) := ⟨_, rfl⟩
                have hP : va_P (dC, dI) vwCl (wC cI cZ h F_20 V) H := by rw [eF_20]; exact hP
                have hD : va_D A (wC cI cZ h F_20 V) := by rw [eF_20]; exact hD
                have hN_21 : ∀ i, i < n → F_20 16 i = nI (Pw i) := by rw [eF_20]; exact hN_6
                refine lv_iinc (v := nI (mm + 1)) (lv' := [(1, .int (nI (mm + 1))), (0, .ref (h 2)), (2, .int (nI t))]) hx hb dX0_rank_68 hl (k := 1) rfl (nI_1 _) (by decide) rfl (fun ls hl => ?_)
                refine lv_goto (tgt := 2) hx hb dX0_rank_71 (by decide) ?_
                have hb_23 : posn Pw (ordn Pw mm) mm mm = t := by
                  rw [hps]
                  by_cases h0 : t = 0
                  · rw [h0]; rfl
                  · exact posn_e (by omega) (by omega)
                have hb_22 : ∀ i, i < mm + 1 → F_20 15 i = nI (ordn Pw (mm + 1) i) := fun i hi => by
                  rw [eF_20]
                  show upd (F2 15) (nI t).toNatClampNeg (nI mm) i = nI (insn Pw (ordn Pw mm) mm i)
                  rw [nI_clamp (by omega), insn, hb_23]
                  by_cases q1 : i < t
                  · rw [if_pos q1, pk_un (by omega)]; exact hlo i q1
                  · rw [if_neg q1]
                    by_cases q2 : i = t
                    · rw [if_pos q2, q2]; exact pk_us
                    · rw [if_neg q2, pk_un q2]; exact hhi i (by omega) (by omega)
                exact ih2 (mm + 1) F_20 (by omega) hb_22 (fun j hj => ((va_ne eF_20 (fun h => hj (by rw [h]; decide))).trans (hfr2 j hj))) (by omega) H locs ls hP hD hS (lv_sub hl [1, 0] rfl)
              · have c_19 : ¬ (Pw mm) ≤ (Pw (ordn Pw mm (t - 1))) := fun h => c_19 ((nI_leI (a := Pw mm) (b := Pw (ordn Pw mm (t - 1))) (by omega) (by omega)).mpr h)
                refine lv_aload_n hx hb dX0_rank_41 rfl (lv_at hl 0 rfl) ?_
                refine va_get (D := (dC, dI)) (ci := 0) (v := .ref (h 15)) (C := RX0) (T := TX0) (N := 11) hx hb hts hin_X0 hown hK hP 2 rfl rfl 2 (by decide) hw2 (fun _ h9 => h9) rfl dX0_rank_42 ?_
                refine lv_iload_n hx hb dX0_rank_45 rfl (lv_at hl 2 rfl) ?_
                refine lv_aload_n hx hb dX0_rank_46 rfl (lv_at hl 0 rfl) ?_
                refine va_get (D := (dC, dI)) (ci := 0) (v := .ref (h 15)) (C := RX0) (T := TX0) (N := 11) hx hb hts hin_X0 hown hK hP 2 rfl rfl 2 (by decide) hw2 (fun _ h9 => h9) rfl dX0_rank_47 ?_
                refine lv_iload_n hx hb dX0_rank_50 rfl (lv_at hl 2 rfl) ?_
                refine lv_iconst (v := 1) hx hb dX0_rank_51 (by decide) ?_
                refine lv_isub hx hb dX0_rank_52 ?_
                refine lv_topi (fun x_24 ex_24 => ?_)
                obtain rfl : x_24 = nI (t - 1) := ex_24.trans (pk_sub (a := t) (b := 1) (by omega))
                refine va_iald hx hb hK hP 15 0 rfl rfl (vp_in_nI (n := t - 1) (N := 40) (by omega) (by decide)) dX0_rank_53 ?_
                have hb_25 := ordn_lt Pw mm (t - 1) (by omega)
                refine lv_topi (fun x_26 ex_26 => ?_)
                obtain rfl : x_26 = nI (ordn Pw mm (t - 1)) := ex_26.trans ((congrArg (F2 15) (nI_clamp (n := t - 1) (by omega))).trans (hlo (t - 1) (by omega)))
                refine va_iast hx hb hK hP hD hS 15 0 rfl rfl (vp_in_nI (n := t) (N := 40) (by omega) (by decide)) dX0_rank_54 (fun H locs hP hD hS => ?_)
                obtain ⟨F_27, eF_27⟩ : ∃ z : Nat → Nat → Int32, z = va_up F2 15 (upd (F2 15) (nI t).toNatClampNeg (nI (ordn Pw mm (t - 1)))) := ⟨_, rfl⟩
                have hP : va_P (dC, dI) vwCl (wC cI cZ h F_27 V) H := by rw [eF_27]; exact hP
                have hD : va_D A (wC cI cZ h F_27 V) := by rw [eF_27]; exact hD
                have hN_28 : ∀ i, i < n → F_27 16 i = nI (Pw i) := by rw [eF_27]; exact hN_6
                refine lv_iinc (v := nI (t - 1)) (lv' := [(2, .int (nI (t - 1))), (0, .ref (h 2)), (1, .int (nI mm))]) hx hb dX0_rank_55 hl (k := 2) rfl (dec_nI (by omega)) (by decide) rfl (fun ls hl => ?_)
                refine lv_goto (tgt := 15) hx hb dX0_rank_58 (by decide) ?_
                have hb_29 : ∀ i, i < t - 1 → F_27 15 i = nI (ordn Pw mm i) := fun i hi => by
                  rw [eF_27]
                  show upd (F2 15) (nI t).toNatClampNeg _ i = _
                  rw [nI_clamp (by omega), pk_un (by omega)]; exact hlo i (by omega)
                have hb_30 : ∀ i, t - 1 < i → i ≤ mm → F_27 15 i = nI (ordn Pw mm (i - 1)) := fun i h1 h2 => by
                  rw [eF_27]
                  show upd (F2 15) (nI t).toNatClampNeg _ i = _
                  rw [nI_clamp (by omega)]
                  by_cases q : i = t
                  · rw [q]; exact pk_us
                  · rw [pk_un q]; exact hhi i (by omega) h2
                exact ih15 (t - 1) F_27 (by omega) (hps.trans (posn_s (by omega) (by omega))) hb_29 hb_30 (fun j hj => ((va_ne eF_27 (fun h => hj (by rw [h]; decide))).trans (hfr2 j hj))) (by omega) H locs ls hP hD hS (lv_sub hl [1, 2, 0] rfl)
        exact loop15 _ mm F1 (by omega) rfl hO (fun i h1 h2 => absurd h1 (by omega)) hfr (Nat.lt_succ_self _) H locs ls hP hD hS (lv_sub hl [1, 2, 0] rfl)
  exact loop2 _ 0 F (by omega) (fun i hi => absurd hi (Nat.not_lt_zero i)) (fun _ _ => rfl) (Nat.lt_succ_self _) H locs ls hP hD hS (lv_sub hl [1, 0] rfl)
def rm_X0_aimAll : Room := { frames := 4, cells := 0, slots := 0, locals := 83 }
set_option maxHeartbeats 4000000 in
set_option maxRecDepth 100000 in
theorem c_X0_aimAll (l : Launch) (dC : Nat → ClassId) (dI : Nat → Nat → Nat) (cI cZ cJ : ClassId) (h : Nat → Nat) (F : Nat → Nat → Int32) (V : Nat → Int32) (n : Nat) (hV1 : V 1 = nI n) (bV1 : n ≤ 40) (d : Nat) (hV2 : V 2 = nI d) (bV2 : d ≤ 20) (So : Nat → Nat) (hSo : ∀ i, i < 40 → F 9 i = nI (So i)) (bSo : ∀ i, i < 40 → So i ≤ 90) (Hh : Nat → Nat) (hHh : ∀ i, i < 24 → F 12 i = nI (Hh i)) (bHh : ∀ i, i < 24 → Hh i ≤ 9) (Wd : Nat → Nat) (hWd : ∀ i, i < 24 → F 13 i = nI (Wd i)) (bWd : ∀ i, i < 24 → Wd i ≤ 99) (Lm : Nat → Nat) (hLm : ∀ i, i < 4 → F 14 i = nI (Lm i)) (bLm : ∀ i, i < 4 → Lm i ≤ 10000) (k0 k1 : Nat) (hk0 : k0 < 24) (hk1 : k1 ≤ 23)   : CtI l (dC, dI) vwCl (tys3 cI cZ cJ) yX0_aimAll wsX0_aimAll rm_X0_aimAll [.ref (h 2), .int (nI k0), .int (nI k1)] (wC cI cZ h F V) (S := Nat → Nat → Int32) (fun r u => (r = nI (ahF F Hh So Wd Lm d n k0 k1)) ∧ (∀ j, j ∉ ([15, 16, 17, 18] : List Nat) → u j = F j) ∧ ((∀ i, i < 4 → u 18 i = nI (alF F Hh So Wd Lm d n k0 k1 i)) ∧ (∀ i, i < 4 → alF F Hh So Wd Lm d n k0 k1 i ≤ 10000) ∧ u 17 = acF F Hh So Wd Lm d n k0 k1)) (fun u => wC cI cZ h u V) 0 0 := by
  refine ct_I (cc := cX0_aimAll) (maxL := 7) (ty := .int) (own := RX0) (by decide) rfl rfl (Nat.le_of_ble_eq_true rfl) (lv := [(0, .ref (h 2)), (1, .int (nI k0)), (2, .int (nI k1))]) rfl ?_
  intro p e s m args below meth c A Q ls fx hK hP hD hA hl hret
  obtain ⟨hx, hb, hml, hown, hts⟩ := id fx
  have hS : va_S A s.heap s.heap [] := va_S.rf
  have hw0 := hts (.fieldLink RX0 15 "MirrorTower$Face" "limits" "[I") (by decide +kernel)
  have hin_X0 : ∀ w ∈ u_ws RX0 TX0 11, w ∈ wsX0_aimAll := by decide +kernel
  have hw2 := hts (.fieldLink RX0 34 "MirrorTower$Face" "left" "[I") (by decide +kernel)
  have hw3 := hts (.methodLink RX0 64 arraycopyName) (by decide +kernel)
  have hw4 := hts (.native arraycopyName) (by decide +kernel)
  have hw5 := hts (.static arraycopyName) (by decide +kernel)
  have hw6 := hts (.initialized "java/lang/System") (by decide +kernel)
  have hw7 := hts (.fieldLink RX0 11 "MirrorTower$Face" "field" "LMirrorTower$Field;") (by decide +kernel)
  have hw8 := hts (.fieldLink RX0 25 "MirrorTower$Face" "order" "[I") (by decide +kernel)
  have hw9 := hts (.fieldLink RX0 28 "MirrorTower$Face" "powers" "[I") (by decide +kernel)
  have hw10 := hts (.fieldLink RX0 31 "MirrorTower$Face" "cellOf" "[I") (by decide +kernel)
  obtain ⟨H, hH⟩ : ∃ H, H = s.heap := ⟨_, rfl⟩
  rw [← hH] at hP ⊢
  have hS : va_S A s.heap H [] := by rw [hH]; exact hS
  generalize ([] : List Loc) = locs at hS ⊢
  refine lv_aload_n hx hb dX0_aimAll_0 rfl (lv_at hl 0 rfl) ?_
  refine lv_iload_n hx hb dX0_aimAll_1 rfl (lv_at hl 1 rfl) ?_
  refine lv_iload_n hx hb dX0_aimAll_2 rfl (lv_at hl 2 rfl) ?_
  refine cw_Vv (As := [.int (nI k0), .int (nI k1)]) (rest := []) (c_X0_readPowers l dC dI cI cZ cJ h F V n hV1 (by omega) d hV2 (by omega) So hSo bSo Hh hHh bHh Wd hWd bWd k0 k1 (by omega) (by omega)) fx (cwV 2 hts gX0_aimAll_X0_readPowers rfl rfl rfl (by decide +kernel) ⟨Nat.le_of_ble_eq_true rfl, Nat.le_of_ble_eq_true rfl⟩) hK hP hD hS hA 2 rfl rfl rfl rfl hl.1 rfl (Nat.le_of_ble_eq_true rfl) dX0_aimAll_3 ⟨Nat.le_of_ble_eq_true rfl, Nat.le_of_ble_eq_true rfl⟩ (fun u_2 H locs hw_3 hP hD hS => ?_)
  obtain ⟨F_4, rfl⟩ : ∃ z, z = u_2 := ⟨_, rfl⟩
  have hf_5 : ∀ j, j ∉ ([16] : List Nat) → F_4 j = F j := hw_3.1
  have hP : va_P (dC, dI) vwCl (wC cI cZ h F_4 V) H := hP
  have hD : va_D A (wC cI cZ h F_4 V) := hD
  have hN_6 : ∀ i, i < 40 → F_4 9 i = nI (So i) := by rw [hf_5 9 (by decide)]; exact hSo
  have hN_7 : ∀ i, i < 24 → F_4 12 i = nI (Hh i) := by rw [hf_5 12 (by decide)]; exact hHh
  have hN_8 : ∀ i, i < 24 → F_4 13 i = nI (Wd i) := by rw [hf_5 13 (by decide)]; exact hWd
  have hN_9 : ∀ i, i < 4 → F_4 14 i = nI (Lm i) := by rw [hf_5 14 (by decide)]; exact hLm
  obtain ⟨Pq_12, ePq_12⟩ : ∃ z : Nat → Nat, z = pwF F Hh So Wd d k0 k1 := ⟨_, rfl⟩
  have hN_10 : ∀ i, i < n → F_4 16 i = nI (Pq_12 i) := by rw [ePq_12]; exact hw_3.2
  have bN_11 : ∀ i, i < n → Pq_12 i ≤ 100 := by rw [ePq_12]; exact fun i _ => (pwN_eq (bHh k0 (by omega))).2
  refine lv_aload_n hx hb dX0_aimAll_6 rfl (lv_at hl 0 rfl) ?_
  refine cw_Vv (As := []) (rest := []) (c_X0_rank l dC dI cI cZ cJ h F_4 V n hV1 (by omega) Pq_12 hN_10 bN_11) fx (cwV 0 hts gX0_aimAll_X0_rank rfl rfl rfl (by decide +kernel) ⟨Nat.le_of_ble_eq_true rfl, Nat.le_of_ble_eq_true rfl⟩) hK hP hD hS hA 2 rfl rfl rfl rfl hl.1 rfl (Nat.le_of_ble_eq_true rfl) dX0_aimAll_7 ⟨Nat.le_of_ble_eq_true rfl, Nat.le_of_ble_eq_true rfl⟩ (fun u_14 H locs hw_15 hP hD hS => ?_)
  obtain ⟨F_16, rfl⟩ : ∃ z, z = u_14 := ⟨_, rfl⟩
  have hf_17 : ∀ j, j ∉ ([15] : List Nat) → F_16 j = F_4 j := hw_15.1
  have hP : va_P (dC, dI) vwCl (wC cI cZ h F_16 V) H := hP
  have hD : va_D A (wC cI cZ h F_16 V) := hD
  have hN_18 : ∀ i, i < 40 → F_16 9 i = nI (So i) := by rw [hf_17 9 (by decide)]; exact hN_6
  have hN_19 : ∀ i, i < 24 → F_16 12 i = nI (Hh i) := by rw [hf_17 12 (by decide)]; exact hN_7
  have hN_20 : ∀ i, i < 24 → F_16 13 i = nI (Wd i) := by rw [hf_17 13 (by decide)]; exact hN_8
  have hN_21 : ∀ i, i < 4 → F_16 14 i = nI (Lm i) := by rw [hf_17 14 (by decide)]; exact hN_9
  have hN_22 : ∀ i, i < n → F_16 16 i = nI (Pq_12 i) := by rw [hf_17 16 (by decide)]; exact hN_10
  obtain ⟨Oq_25, eOq_25⟩ : ∃ z : Nat → Nat, z = ordn Pq_12 n := ⟨_, rfl⟩
  have hN_23 : ∀ i, i < n → F_16 15 i = nI (Oq_25 i) := by rw [eOq_25]; exact hw_15.2
  have bN_24 : ∀ i, i < n → Oq_25 i ≤ n - 1 := by rw [eOq_25]; exact fun i hi => by have := ordn_lt Pq_12 n i hi; omega
  refine lv_aload_n hx hb dX0_aimAll_10 rfl (lv_at hl 0 rfl) ?_
  refine va_get (D := (dC, dI)) (ci := 0) (v := .ref (h 14)) (C := RX0) (T := TX0) (N := 11) hx hb hts hin_X0 hown hK hP 2 rfl rfl 1 (by decide) hw0 (fun _ h9 => h9) rfl dX0_aimAll_11 ?_
  refine lv_iconst (v := 0) hx hb dX0_aimAll_14 (by decide) ?_
  refine lv_aload_n hx hb dX0_aimAll_15 rfl (lv_at hl 0 rfl) ?_
  refine va_get (D := (dC, dI)) (ci := 0) (v := .ref (h 18)) (C := RX0) (T := TX0) (N := 11) hx hb hts hin_X0 hown hK hP 2 rfl rfl 5 (by decide) hw2 (fun _ h9 => h9) rfl dX0_aimAll_16 ?_
  refine lv_iconst (v := 0) hx hb dX0_aimAll_19 (by decide) ?_
  refine lv_iconst (v := 4) hx hb dX0_aimAll_20 (by decide) ?_
  refine va_copyi hx hb (hml.trans hl.1.symm) hown hw3 hw4 hw5 hw6 hK hP hD hS 14 18 0 0 rfl rfl rfl rfl rfl (by decide) (by decide) (by decide) (by decide) (by decide) (fun _ _ => rfl) (Nat.le_of_ble_eq_true rfl) (Nat.le_of_ble_eq_true rfl) dX0_aimAll_21 (fun H locs hP hD hS => ?_)
  obtain ⟨F_26, eF_26⟩ : ∃ z : Nat → Nat → Int32, z = va_up F_16 18 (va_cpy (F_16 14) (F_16 18) (0 : Int32).toNatClampNeg (0 : Int32).toNatClampNeg (4 : Int32).toNatClampNeg) := ⟨_, rfl⟩
  have hP : va_P (dC, dI) vwCl (wC cI cZ h F_26 V) H := by rw [eF_26]; exact hP
  have hD : va_D A (wC cI cZ h F_26 V) := by rw [eF_26]; exact hD
  have hN_27 : ∀ i, i < 40 → F_26 9 i = nI (So i) := by rw [eF_26]; exact hN_18
  have hN_28 : ∀ i, i < 24 → F_26 12 i = nI (Hh i) := by rw [eF_26]; exact hN_19
  have hN_29 : ∀ i, i < 24 → F_26 13 i = nI (Wd i) := by rw [eF_26]; exact hN_20
  have hN_30 : ∀ i, i < 4 → F_26 14 i = nI (Lm i) := by rw [eF_26]; exact hN_21
  have hN_31 : ∀ i, i < n → F_26 16 i = nI (Pq_12 i) := by rw [eF_26]; exact hN_22
  have hN_32 : ∀ i, i < n → F_26 15 i = nI (Oq_25 i) := by rw [eF_26]; exact hN_23
  have hN_33 : ∀ i, i < 4 → F_26 18 i = nI (Lm i) := by rw [eF_26]; intro i hi; exact (cpy0 (by decide) (by decide) (by decide) hi).trans (hN_21 i hi)
  refine lv_iconst (v := 0) hx hb dX0_aimAll_24 (by decide) ?_
  refine lv_istore_n (lv' := [(3, .int 0), (0, .ref (h 2)), (1, .int (nI k0)), (2, .int (nI k1))]) hx hb dX0_aimAll_25 rfl hl (by decide) rfl (fun ls hl => ?_)
  have hfb : ∀ j, j ∉ ([15, 16, 17, 18] : List Nat) → F_26 j = F j := fun j hj => ((va_ne eF_26 (fun h => hj (by rw [h]; decide))).trans ((hf_17 j (fun h => hj ((by decide : ∀ x ∈ ([15] : List Nat), x ∈ ([15, 16, 17, 18] : List Nat)) j h))).trans (hf_5 j (fun h => hj ((by decide : ∀ x ∈ ([16] : List Nat), x ∈ ([15, 16, 17, 18] : List Nat)) j h)))))
  have hc0 : F_26 17 = F 17 := (show ∀ j, j ∉ ([15, 16, 18] : List Nat) → F_26 j = F j from fun j hj => ((va_ne eF_26 (fun h => hj (by rw [h]; decide))).trans ((hf_17 j (fun h => hj ((by decide : ∀ x ∈ ([15] : List Nat), x ∈ ([15, 16, 18] : List Nat)) j h))).trans (hf_5 j (fun h => hj ((by decide : ∀ x ∈ ([16] : List Nat), x ∈ ([15, 16, 18] : List Nat)) j h)))))) 17 (by decide)
  refine lv_iconst (v := 0) hx hb dX0_aimAll_26 (by decide) ?_
  refine lv_istore (lv' := [(4, .int 0), (3, .int 0), (0, .ref (h 2)), (1, .int (nI k0)), (2, .int (nI k1))]) hx hb dX0_aimAll_27 hl (by decide) rfl (fun ls hl => ?_)
  have loop29 : ∀ (fu : Nat) (t : Nat) (hv : Nat) (F1 : Nat → Nat → Int32), (t ≤ n) → (hv = aimH Pq_12 Oq_25 Lm t) → (∀ i, i < 4 → F1 18 i = nI (aimL Pq_12 Oq_25 Lm t i)) → (∀ i, i < 4 → aimL Pq_12 Oq_25 Lm t i ≤ 10000) → (F1 17 = aimC Pq_12 Oq_25 Lm (F_26 17) t) → (∀ j, j ∉ ([17, 18] : List Nat) → F1 j = F_26 j) → (n - t) < fu → ∀ (H : Heap) (locs : List Loc) (ls : Array Slot), va_P (dC, dI) vwCl (wC cI cZ h F1 V) H → va_D A (wC cI cZ h F1 V) → va_S A s.heap H locs → lv_has ls 7 [(0, .ref (h 2)), (1, .int (nI k0)), (2, .int (nI k1)), (3, .int (nI hv)), (4, .int (nI t))] → W p l e rm_X0_aimAll s m args below meth c H locs 0 0 Q (F0 m 29 ls []) := by
    intro fu
    induction fu with
    | zero => intro t hv F1 ht hh hL bL hC hfr hn_; exact absurd hn_ (Nat.not_lt_zero _)
    | succ fu ih29 =>
      intro t hv F1 ht hh hL bL hC hfr hn_ H locs ls hP hD hS hl
      have hN_34 : ∀ i, i < 40 → F1 9 i = nI (So i) := by rw [hfr 9 (by decide)]; exact hN_27
      have hN_35 : ∀ i, i < 24 → F1 12 i = nI (Hh i) := by rw [hfr 12 (by decide)]; exact hN_28
      have hN_36 : ∀ i, i < 24 → F1 13 i = nI (Wd i) := by rw [hfr 13 (by decide)]; exact hN_29
      have hN_37 : ∀ i, i < 4 → F1 14 i = nI (Lm i) := by rw [hfr 14 (by decide)]; exact hN_30
      have hN_38 : ∀ i, i < n → F1 16 i = nI (Pq_12 i) := by rw [hfr 16 (by decide)]; exact hN_31
      have hN_39 : ∀ i, i < n → F1 15 i = nI (Oq_25 i) := by rw [hfr 15 (by decide)]; exact hN_32
      refine lv_iload hx hb dX0_aimAll_29 (lv_at hl 4 rfl) ?_
      refine lv_aload_n hx hb dX0_aimAll_31 rfl (lv_at hl 0 rfl) ?_
      refine va_get (D := (dC, dI)) (ci := 0) (v := .ref (h 1)) (C := RX0) (T := TX0) (N := 11) hx hb hts hin_X0 hown hK hP 2 rfl rfl 0 (by decide) hw7 (fun _ h9 => h9) rfl dX0_aimAll_32 ?_
      refine cw_Vi (As := []) (rest := [.int (nI t)]) (c_X1_size l dC dI cI cZ cJ h F1 V) fx (cwV 0 hts gX0_aimAll_X1_size rfl rfl rfl (by decide +kernel) ⟨Nat.le_of_ble_eq_true rfl, Nat.le_of_ble_eq_true rfl⟩) hK hP hD hS hA 1 rfl rfl rfl rfl hl.1 rfl (Nat.le_of_ble_eq_true rfl) dX0_aimAll_35 ⟨Nat.le_of_ble_eq_true rfl, Nat.le_of_ble_eq_true rfl⟩ (fun r_40 u_41 H locs hw_42 hP hD hS => ?_)
      have hP : va_P (dC, dI) vwCl (wC cI cZ h F1 V) H := hP
      have hD : va_D A (wC cI cZ h F1 V) := hD
      obtain rfl : r_40 = nI n := Eq.trans hw_42 hV1
      refine lv_icmp_ge (tgt := 127) hx hb dX0_aimAll_38 (by decide) (fun c_43 => ?_) (fun c_43 => ?_)
      · have c_43 : n ≤ t := (nI_leI (a := n) (b := t) (by omega) (by omega)).mp c_43
        refine lv_iload_n hx hb dX0_aimAll_127 rfl (lv_at hl 3 rfl) ?_
        exact hret (nI hv) F1 H locs 128 ls rfl dX0_aimAll_128 (by
                    obtain rfl : t = n := by omega
                    have x1 : ahF F Hh So Wd Lm d t k0 k1 = aimH Pq_12 Oq_25 Lm t := by rw [ahF, ← ePq_12, ← eOq_25]
                    have x2 : alF F Hh So Wd Lm d t k0 k1 = aimL Pq_12 Oq_25 Lm t := by rw [alF, ← ePq_12, ← eOq_25]
                    have x3 : acF F Hh So Wd Lm d t k0 k1 = aimC Pq_12 Oq_25 Lm (F 17) t := by rw [acF, ← ePq_12, ← eOq_25]
                    rw [x1, x2, x3]
                    exact ⟨by rw [hh], fun j hj => (hfr j (fun z => hj ((by decide : ∀ x ∈ ([17, 18] : List Nat), x ∈ ([15, 16, 17, 18] : List Nat)) j z))).trans (hfb j hj), hL, bL, by rw [hC, hc0]⟩) (hP) (hD) hS
      · have c_43 : ¬ n ≤ t := fun h => c_43 ((nI_leI (a := n) (b := t) (by omega) (by omega)).mpr h)
        refine lv_aload_n hx hb dX0_aimAll_41 rfl (lv_at hl 0 rfl) ?_
        refine va_get (D := (dC, dI)) (ci := 0) (v := .ref (h 15)) (C := RX0) (T := TX0) (N := 11) hx hb hts hin_X0 hown hK hP 2 rfl rfl 2 (by decide) hw8 (fun _ h9 => h9) rfl dX0_aimAll_42 ?_
        refine lv_iload hx hb dX0_aimAll_45 (lv_at hl 4 rfl) ?_
        refine va_iald hx hb hK hP 15 0 rfl rfl (vp_in_nI (n := t) (N := 40) (by omega) (by decide)) dX0_aimAll_47 ?_
        have hb_44 := bN_24 t (by omega)
        refine lv_topi (fun x_45 ex_45 => ?_)
        obtain rfl : x_45 = nI (Oq_25 t) := ex_45.trans ((congrArg (F1 15) (nI_clamp (n := t) (by omega))).trans (hN_39 t (by omega)))
        refine lv_istore (lv' := [(5, .int (nI (Oq_25 t))), (0, .ref (h 2)), (1, .int (nI k0)), (2, .int (nI k1)), (3, .int (nI hv)), (4, .int (nI t))]) hx hb dX0_aimAll_48 hl (by decide) rfl (fun ls hl => ?_)
        refine lv_aload_n hx hb dX0_aimAll_50 rfl (lv_at hl 1 rfl) ?_
        refine cw_Vi (As := []) (rest := []) (c_X0_roomiestCell l dC dI cI cZ cJ h F1 V (aimL Pq_12 Oq_25 Lm t) hL bL) fx (cwV 0 hts gX0_aimAll_X0_roomiestCell rfl rfl rfl (by decide +kernel) ⟨Nat.le_of_ble_eq_true rfl, Nat.le_of_ble_eq_true rfl⟩) hK hP hD hS hA 2 rfl rfl rfl rfl hl.1 rfl (Nat.le_of_ble_eq_true rfl) dX0_aimAll_51 ⟨Nat.le_of_ble_eq_true rfl, Nat.le_of_ble_eq_true rfl⟩ (fun r_46 u_47 H locs hw_48 hP hD hS => ?_)
        have hP : va_P (dC, dI) vwCl (wC cI cZ h F1 V) H := hP
        have hD : va_D A (wC cI cZ h F1 V) := hD
        obtain rfl : r_46 = nI (best4 (aimL Pq_12 Oq_25 Lm t) 3) := hw_48
        have hb_49 := best4_le (aimL Pq_12 Oq_25 Lm t) 3
        refine lv_istore (lv' := [(6, .int (nI (best4 (aimL Pq_12 Oq_25 Lm t) 3))), (5, .int (nI (Oq_25 t))), (0, .ref (h 2)), (1, .int (nI k0)), (2, .int (nI k1)), (3, .int (nI hv)), (4, .int (nI t))]) hx hb dX0_aimAll_54 hl (by decide) rfl (fun ls hl => ?_)
        refine lv_aload_n hx hb dX0_aimAll_56 rfl (lv_at hl 2 rfl) ?_
        refine va_get (D := (dC, dI)) (ci := 0) (v := .ref (h 16)) (C := RX0) (T := TX0) (N := 11) hx hb hts hin_X0 hown hK hP 2 rfl rfl 3 (by decide) hw9 (fun _ h9 => h9) rfl dX0_aimAll_57 ?_
        refine lv_iload hx hb dX0_aimAll_60 (lv_at hl 1 rfl) ?_
        refine va_iald hx hb hK hP 16 0 rfl rfl (vp_in_nI (n := Oq_25 t) (N := 40) (by omega) (by decide)) dX0_aimAll_62 ?_
        have hb_50 := bN_11 (Oq_25 t) (by omega)
        refine lv_topi (fun x_51 ex_51 => ?_)
        obtain rfl : x_51 = nI (Pq_12 (Oq_25 t)) := ex_51.trans ((congrArg (F1 16) (nI_clamp (n := Oq_25 t) (by omega))).trans (hN_38 (Oq_25 t) (by omega)))
        refine lv_aload_n hx hb dX0_aimAll_63 rfl (lv_at hl 2 rfl) ?_
        refine va_get (D := (dC, dI)) (ci := 0) (v := .ref (h 18)) (C := RX0) (T := TX0) (N := 11) hx hb hts hin_X0 hown hK hP 2 rfl rfl 5 (by decide) hw2 (fun _ h9 => h9) rfl dX0_aimAll_64 ?_
        refine lv_iload hx hb dX0_aimAll_67 (lv_at hl 0 rfl) ?_
        refine va_iald hx hb hK hP 18 0 rfl rfl (vp_in_nI (n := best4 (aimL Pq_12 Oq_25 Lm t) 3) (N := 4) (by omega) (by decide)) dX0_aimAll_69 ?_
        have hb_52 := bL (best4 (aimL Pq_12 Oq_25 Lm t) 3) (by omega)
        try dsimp only at hb_52
        refine lv_topi (fun x_53 ex_53 => ?_)
        obtain rfl : x_53 = nI ((aimL Pq_12 Oq_25 Lm t) (best4 (aimL Pq_12 Oq_25 Lm t) 3)) := ex_53.trans ((congrArg (F1 18) (nI_clamp (n := best4 (aimL Pq_12 Oq_25 Lm t) 3) (by omega))).trans (hL (best4 (aimL Pq_12 Oq_25 Lm t) 3) (by omega)))
        refine lv_icmp_gt (tgt := 112) hx hb dX0_aimAll_70 (by decide) (fun c_54 => ?_) (fun c_54 => ?_)
        · have c_54 : ((aimL Pq_12 Oq_25 Lm t) (best4 (aimL Pq_12 Oq_25 Lm t) 3)) < (Pq_12 (Oq_25 t)) := (nI_ltI (a := (aimL Pq_12 Oq_25 Lm t) (best4 (aimL Pq_12 Oq_25 Lm t) 3)) (b := Pq_12 (Oq_25 t)) (by omega) (by omega)).mp c_54
          refine lv_aload_n hx hb dX0_aimAll_112 rfl (lv_at hl 2 rfl) ?_
          refine va_get (D := (dC, dI)) (ci := 0) (v := .ref (h 17)) (C := RX0) (T := TX0) (N := 11) hx hb hts hin_X0 hown hK hP 2 rfl rfl 4 (by decide) hw10 (fun _ h9 => h9) rfl dX0_aimAll_113 ?_
          refine lv_iload hx hb dX0_aimAll_116 (lv_at hl 1 rfl) ?_
          refine lv_bipush (v := (-2)) hx hb dX0_aimAll_118 (by decide) ?_
          refine va_iast hx hb hK hP hD hS 17 0 rfl rfl (vp_in_nI (n := Oq_25 t) (N := 40) (by omega) (by decide)) dX0_aimAll_120 (fun H locs hP hD hS => ?_)
          obtain ⟨F_55, eF_55⟩ : ∃ z : Nat → Nat → Int32, z = va_up F1 17 (upd (F1 17) (nI (Oq_25 t)).toNatClampNeg (-2)) := ⟨_, rfl⟩
          have hP : va_P (dC, dI) vwCl (wC cI cZ h F_55 V) H := by rw [eF_55]; exact hP
          have hD : va_D A (wC cI cZ h F_55 V) := by rw [eF_55]; exact hD
          have hN_56 : ∀ i, i < 40 → F_55 9 i = nI (So i) := by rw [eF_55]; exact hN_34
          have hN_57 : ∀ i, i < 24 → F_55 12 i = nI (Hh i) := by rw [eF_55]; exact hN_35
          have hN_58 : ∀ i, i < 24 → F_55 13 i = nI (Wd i) := by rw [eF_55]; exact hN_36
          have hN_59 : ∀ i, i < 4 → F_55 14 i = nI (Lm i) := by rw [eF_55]; exact hN_37
          have hN_60 : ∀ i, i < n → F_55 16 i = nI (Pq_12 i) := by rw [eF_55]; exact hN_38
          have hN_61 : ∀ i, i < n → F_55 15 i = nI (Oq_25 i) := by rw [eF_55]; exact hN_39
          have hN_62 : ∀ i, i < 4 → F_55 18 i = nI ((aimL Pq_12 Oq_25 Lm t) i) := by rw [eF_55]; exact hL
          have hE_63 : F_55 17 (Oq_25 t) = (-2) := by rw [eF_55]; show upd _ (nI (Oq_25 t)).toNatClampNeg _ _ = _; rw [nI_clamp (by omega)]; exact pk_us
          refine lv_iinc (v := nI (t + 1)) (lv' := [(4, .int (nI (t + 1))), (6, .int (nI (best4 (aimL Pq_12 Oq_25 Lm t) 3))), (5, .int (nI (Oq_25 t))), (0, .ref (h 2)), (1, .int (nI k0)), (2, .int (nI k1)), (3, .int (nI hv))]) hx hb dX0_aimAll_121 hl (k := 6) rfl (nI_1 _) (by decide) rfl (fun ls hl => ?_)
          refine lv_goto (tgt := 29) hx hb dX0_aimAll_124 (by decide) ?_
          have hb_64 : aimL Pq_12 Oq_25 Lm (t + 1) = aimL Pq_12 Oq_25 Lm t := by rw [aimL, if_neg (by omega)]
          have hb_65 : F_55 17 = aimC Pq_12 Oq_25 Lm (F_26 17) (t + 1) := by
            rw [eF_55]
            show upd (F1 17) _ _ = _
            rw [nI_clamp (by omega), hC, aimC, if_neg (by omega)]
          exact ih29 (t + 1) hv F_55 (by omega) (by rw [aimH, if_neg (by omega), hh]) (by rw [hb_64]; exact hN_62) (by rw [hb_64]; exact bL) hb_65 (fun j hj => ((va_ne eF_55 (fun h => hj (by rw [h]; decide))).trans (hfr j hj))) (by omega) H locs ls hP hD hS (lv_sub hl [3, 4, 5, 6, 0] rfl)
        · have c_54 : ¬ ((aimL Pq_12 Oq_25 Lm t) (best4 (aimL Pq_12 Oq_25 Lm t) 3)) < (Pq_12 (Oq_25 t)) := fun h => c_54 ((nI_ltI (a := (aimL Pq_12 Oq_25 Lm t) (best4 (aimL Pq_12 Oq_25 Lm t) 3)) (b := Pq_12 (Oq_25 t)) (by omega) (by omega)).mpr h)
          refine lv_aload_n hx hb dX0_aimAll_73 rfl (lv_at hl 2 rfl) ?_
          refine va_get (D := (dC, dI)) (ci := 0) (v := .ref (h 17)) (C := RX0) (T := TX0) (N := 11) hx hb hts hin_X0 hown hK hP 2 rfl rfl 4 (by decide) hw10 (fun _ h9 => h9) rfl dX0_aimAll_74 ?_
          refine lv_iload hx hb dX0_aimAll_77 (lv_at hl 1 rfl) ?_
          refine lv_iload hx hb dX0_aimAll_79 (lv_at hl 0 rfl) ?_
          refine va_iast hx hb hK hP hD hS 17 0 rfl rfl (vp_in_nI (n := Oq_25 t) (N := 40) (by omega) (by decide)) dX0_aimAll_81 (fun H locs hP hD hS => ?_)
          obtain ⟨F_67, eF_67⟩ : ∃ z : Nat → Nat → Int32, z = va_up F1 17 (upd (F1 17) (nI (Oq_25 t)).toNatClampNeg (nI (best4 (aimL Pq_12 Oq_25 Lm t) 3))) := ⟨_, rfl⟩
          have hP : va_P (dC, dI) vwCl (wC cI cZ h F_67 V) H := by rw [eF_67]; exact hP
          have hD : va_D A (wC cI cZ h F_67 V) := by rw [eF_67]; exact hD
          have hN_68 : ∀ i, i < 40 → F_67 9 i = nI (So i) := by rw [eF_67]; exact hN_34
          have hN_69 : ∀ i, i < 24 → F_67 12 i = nI (Hh i) := by rw [eF_67]; exact hN_35
          have hN_70 : ∀ i, i < 24 → F_67 13 i = nI (Wd i) := by rw [eF_67]; exact hN_36
          have hN_71 : ∀ i, i < 4 → F_67 14 i = nI (Lm i) := by rw [eF_67]; exact hN_37
          have hN_72 : ∀ i, i < n → F_67 16 i = nI (Pq_12 i) := by rw [eF_67]; exact hN_38
          have hN_73 : ∀ i, i < n → F_67 15 i = nI (Oq_25 i) := by rw [eF_67]; exact hN_39
          have hN_74 : ∀ i, i < 4 → F_67 18 i = nI ((aimL Pq_12 Oq_25 Lm t) i) := by rw [eF_67]; exact hL
          refine lv_aload_n hx hb dX0_aimAll_82 rfl (lv_at hl 2 rfl) ?_
          refine va_get (D := (dC, dI)) (ci := 0) (v := .ref (h 18)) (C := RX0) (T := TX0) (N := 11) hx hb hts hin_X0 hown hK hP 2 rfl rfl 5 (by decide) hw2 (fun _ h9 => h9) rfl dX0_aimAll_83 ?_
          refine lv_iload hx hb dX0_aimAll_86 (lv_at hl 0 rfl) ?_
          refine lv_dup2_11 hx hb dX0_aimAll_88 rfl rfl ?_
          refine va_iald hx hb hK hP 18 0 rfl rfl (vp_in_nI (n := best4 (aimL Pq_12 Oq_25 Lm t) 3) (N := 4) (by omega) (by decide)) dX0_aimAll_89 ?_
          have hb_75 := bL (best4 (aimL Pq_12 Oq_25 Lm t) 3) (by omega)
          try dsimp only at hb_75
          refine lv_topi (fun x_76 ex_76 => ?_)
          obtain rfl : x_76 = nI ((aimL Pq_12 Oq_25 Lm t) (best4 (aimL Pq_12 Oq_25 Lm t) 3)) := ex_76.trans ((congrArg (F_67 18) (nI_clamp (n := best4 (aimL Pq_12 Oq_25 Lm t) 3) (by omega))).trans (hN_74 (best4 (aimL Pq_12 Oq_25 Lm t) 3) (by omega)))
          refine lv_aload_n hx hb dX0_aimAll_90 rfl (lv_at hl 2 rfl) ?_
          refine va_get (D := (dC, dI)) (ci := 0) (v := .ref (h 16)) (C := RX0) (T := TX0) (N := 11) hx hb hts hin_X0 hown hK hP 2 rfl rfl 3 (by decide) hw9 (fun _ h9 => h9) rfl dX0_aimAll_91 ?_
          refine lv_iload hx hb dX0_aimAll_94 (lv_at hl 1 rfl) ?_
          refine va_iald hx hb hK hP 16 0 rfl rfl (vp_in_nI (n := Oq_25 t) (N := 40) (by omega) (by decide)) dX0_aimAll_96 ?_
          have hb_77 := bN_11 (Oq_25 t) (by omega)
          refine lv_topi (fun x_78 ex_78 => ?_)
          obtain rfl : x_78 = nI (Pq_12 (Oq_25 t)) := ex_78.trans ((congrArg (F_67 16) (nI_clamp (n := Oq_25 t) (by omega))).trans (hN_72 (Oq_25 t) (by omega)))
          refine lv_isub hx hb dX0_aimAll_97 ?_
          refine lv_topi (fun x_79 ex_79 => ?_)
          obtain rfl : x_79 = nI (((aimL Pq_12 Oq_25 Lm t) (best4 (aimL Pq_12 Oq_25 Lm t) 3)) - (Pq_12 (Oq_25 t))) := ex_79.trans (pk_sub (a := (aimL Pq_12 Oq_25 Lm t) (best4 (aimL Pq_12 Oq_25 Lm t) 3)) (b := Pq_12 (Oq_25 t)) (by omega))
          refine va_iast hx hb hK hP hD hS 18 0 rfl rfl (vp_in_nI (n := best4 (aimL Pq_12 Oq_25 Lm t) 3) (N := 4) (by omega) (by decide)) dX0_aimAll_98 (fun H locs hP hD hS => ?_)
          obtain ⟨F_80, eF_80⟩ : ∃ z : Nat → Nat → Int32, z = va_up F_67 18 (upd (F_67 18) (nI (best4 (aimL Pq_12 Oq_25 Lm t) 3)).toNatClampNeg (nI (((aimL Pq_12 Oq_25 Lm t) (best4 (aimL Pq_12 Oq_25 Lm t) 3)) - (Pq_12 (Oq_25 t))))) := ⟨_, rfl⟩
          have hP : va_P (dC, dI) vwCl (wC cI cZ h F_80 V) H := by rw [eF_80]; exact hP
          have hD : va_D A (wC cI cZ h F_80 V) := by rw [eF_80]; exact hD
          have hN_81 : ∀ i, i < 40 → F_80 9 i = nI (So i) := by rw [eF_80]; exact hN_68
          have hN_82 : ∀ i, i < 24 → F_80 12 i = nI (Hh i) := by rw [eF_80]; exact hN_69
          have hN_83 : ∀ i, i < 24 → F_80 13 i = nI (Wd i) := by rw [eF_80]; exact hN_70
          have hN_84 : ∀ i, i < 4 → F_80 14 i = nI (Lm i) := by rw [eF_80]; exact hN_71
          have hN_85 : ∀ i, i < n → F_80 16 i = nI (Pq_12 i) := by rw [eF_80]; exact hN_72
          have hN_86 : ∀ i, i < n → F_80 15 i = nI (Oq_25 i) := by rw [eF_80]; exact hN_73
          obtain ⟨S_87, eS_87⟩ : ∃ z : Nat → Nat, z = nup (aimL Pq_12 Oq_25 Lm t) (best4 (aimL Pq_12 Oq_25 Lm t) 3) (((aimL Pq_12 Oq_25 Lm t) (best4 (aimL Pq_12 Oq_25 Lm t) 3)) - (Pq_12 (Oq_25 t))) := ⟨_, rfl⟩
          have hN_88 : ∀ i, i < 4 → F_80 18 i = nI (S_87 i) := by rw [eF_80, eS_87]; show ∀ i, i < 4 → upd (F_67 18) (nI (best4 (aimL Pq_12 Oq_25 Lm t) 3)).toNatClampNeg (nI (((aimL Pq_12 Oq_25 Lm t) (best4 (aimL Pq_12 Oq_25 Lm t) 3)) - (Pq_12 (Oq_25 t)))) i = nI _; exact nf_put hN_74 (nI_clamp (n := best4 (aimL Pq_12 Oq_25 Lm t) 3) (by omega))
          have bN_89 : ∀ i, i < 4 → S_87 i ≤ 10000 := by rw [eS_87]; exact nb_put bL (by omega)
          refine lv_iload_n hx hb dX0_aimAll_99 rfl (lv_at hl 5 rfl) ?_
          refine lv_aload_n hx hb dX0_aimAll_100 rfl (lv_at hl 2 rfl) ?_
          refine va_get (D := (dC, dI)) (ci := 0) (v := .ref (h 16)) (C := RX0) (T := TX0) (N := 11) hx hb hts hin_X0 hown hK hP 2 rfl rfl 3 (by decide) hw9 (fun _ h9 => h9) rfl dX0_aimAll_101 ?_
          refine lv_iload hx hb dX0_aimAll_104 (lv_at hl 1 rfl) ?_
          refine va_iald hx hb hK hP 16 0 rfl rfl (vp_in_nI (n := Oq_25 t) (N := 40) (by omega) (by decide)) dX0_aimAll_106 ?_
          have hb_90 := bN_11 (Oq_25 t) (by omega)
          refine lv_topi (fun x_91 ex_91 => ?_)
          obtain rfl : x_91 = nI (Pq_12 (Oq_25 t)) := ex_91.trans ((congrArg (F_80 16) (nI_clamp (n := Oq_25 t) (by omega))).trans (hN_85 (Oq_25 t) (by omega)))
          refine lv_iadd hx hb dX0_aimAll_107 ?_
          refine lv_topi (fun x_92 ex_92 => ?_)
          obtain rfl : x_92 = nI (hv + (Pq_12 (Oq_25 t))) := ex_92.trans (nI_add hv (Pq_12 (Oq_25 t)))
          refine lv_istore_n (lv' := [(3, .int (nI (hv + (Pq_12 (Oq_25 t))))), (6, .int (nI (best4 (aimL Pq_12 Oq_25 Lm t) 3))), (5, .int (nI (Oq_25 t))), (0, .ref (h 2)), (1, .int (nI k0)), (2, .int (nI k1)), (4, .int (nI t))]) hx hb dX0_aimAll_108 rfl hl (by decide) rfl (fun ls hl => ?_)
          refine lv_goto (tgt := 121) hx hb dX0_aimAll_109 (by decide) ?_
          refine lv_iinc (v := nI (t + 1)) (lv' := [(4, .int (nI (t + 1))), (3, .int (nI (hv + (Pq_12 (Oq_25 t))))), (6, .int (nI (best4 (aimL Pq_12 Oq_25 Lm t) 3))), (5, .int (nI (Oq_25 t))), (0, .ref (h 2)), (1, .int (nI k0)), (2, .int (nI k1))]) hx hb dX0_aimAll_121 hl (k := 6) rfl (nI_1 _) (by decide) rfl (fun ls hl => ?_)
          refine lv_goto (tgt := 29) hx hb dX0_aimAll_124 (by decide) ?_
          have hb_93 : S_87 = aimL Pq_12 Oq_25 Lm (t + 1) := by rw [eS_87, aimL, if_pos (by omega)]
          rw [hb_93] at hN_88 bN_89
          have hb_94 : F_80 17 = aimC Pq_12 Oq_25 Lm (F_26 17) (t + 1) := by
            rw [eF_80]
            show F_67 17 = _
            rw [eF_67]
            show upd (F1 17) _ _ = _
            rw [nI_clamp (by omega), hC, aimC, if_pos (by omega)]
          exact ih29 (t + 1) (hv + (Pq_12 (Oq_25 t))) F_80 (by omega) (by rw [aimH, if_pos (by omega), hh]) hN_88 bN_89 hb_94 (fun j hj => ((va_ne eF_80 (fun h => hj (by rw [h]; decide))).trans ((va_ne eF_67 (fun h => hj (by rw [h]; decide))).trans (hfr j hj)))) (by omega) H locs ls hP hD hS (lv_sub hl [4, 5, 6, 1, 0] rfl)
  exact loop29 _ 0 0 F_26 (by omega) rfl hN_33 bLm rfl (fun _ _ => rfl) (Nat.lt_succ_self _) H locs ls hP hD hS (lv_sub hl [2, 3, 4, 1, 0] rfl)
end
section
def rm_X1_setSun : Room := { frames := 0, cells := 0, slots := 0, locals := 0 }
set_option maxHeartbeats 4000000 in
set_option maxRecDepth 100000 in
theorem c_X1_setSun (l : Launch) (dC : Nat → ClassId) (dI : Nat → Nat → Nat) (cI cZ cJ : ClassId) (h : Nat → Nat) (F : Nat → Nat → Int32) (V : Nat → Int32)  (k0 : Nat) (p1 p2 p3 : Int32) (hk0 : k0 < 24)   : CtV l (dC, dI) vwCl (tys3 cI cZ cJ) yX1_setSun wsX1_setSun rm_X1_setSun [.ref (h 1), .int (nI k0), .int p1, .int p2, .int p3] (wC cI cZ h F V) (S := Unit) (fun _ => True) (fun _ => wC cI cZ h (va_up (va_up (va_up F 10 (upd (F 10) k0 p1)) 11 (upd (F 11) k0 p2)) 12 (upd (F 12) k0 p3)) V) 0 0 := by
  refine ct_V (cc := cX1_setSun) (maxL := 5) (own := RX1) (by decide) rfl rfl (Nat.le_of_ble_eq_true rfl) (lv := [(0, .ref (h 1)), (1, .int (nI k0)), (2, .int p1), (3, .int p2), (4, .int p3)]) rfl ?_
  intro p e s m args below meth c A Q ls hnm fx hK hP hD hA hl hret
  obtain ⟨hx, hb, hml, hown, hts⟩ := id fx
  have hS : va_S A s.heap s.heap [] := va_S.rf
  have hw0 := hts (.fieldLink RX1 27 "MirrorTower$Field" "stepsX" "[I") (by decide +kernel)
  have hin_X1 : ∀ w ∈ u_ws RX1 TX1 11, w ∈ wsX1_setSun := by decide +kernel
  have hw2 := hts (.fieldLink RX1 30 "MirrorTower$Field" "stepsY" "[I") (by decide +kernel)
  have hw3 := hts (.fieldLink RX1 33 "MirrorTower$Field" "heights" "[I") (by decide +kernel)
  obtain ⟨H, hH⟩ : ∃ H, H = s.heap := ⟨_, rfl⟩
  rw [← hH] at hP ⊢
  have hS : va_S A s.heap H [] := by rw [hH]; exact hS
  generalize ([] : List Loc) = locs at hS ⊢
  refine lv_aload_n hx hb dX1_setSun_0 rfl (lv_at hl 0 rfl) ?_
  refine va_get (D := (dC, dI)) (ci := 1) (v := .ref (h 10)) (C := RX1) (T := TX1) (N := 11) hx hb hts hin_X1 hown hK hP 1 rfl rfl 6 (by decide) hw0 (fun _ h9 => h9) rfl dX1_setSun_1 ?_
  refine lv_iload_n hx hb dX1_setSun_4 rfl (lv_at hl 1 rfl) ?_
  refine lv_iload_n hx hb dX1_setSun_5 rfl (lv_at hl 2 rfl) ?_
  refine va_iast hx hb hK hP hD hS 10 0 rfl rfl (vp_in_nI (n := k0) (N := 24) (by omega) (by decide)) dX1_setSun_6 (fun H locs hP hD hS => ?_)
  obtain ⟨F_1, eF_1⟩ : ∃ z : Nat → Nat → Int32, z = va_up F 10 (upd (F 10) (nI k0).toNatClampNeg p1) := ⟨_, rfl⟩
  have hP : va_P (dC, dI) vwCl (wC cI cZ h F_1 V) H := by rw [eF_1]; exact hP
  have hD : va_D A (wC cI cZ h F_1 V) := by rw [eF_1]; exact hD
  refine lv_aload_n hx hb dX1_setSun_7 rfl (lv_at hl 0 rfl) ?_
  refine va_get (D := (dC, dI)) (ci := 1) (v := .ref (h 11)) (C := RX1) (T := TX1) (N := 11) hx hb hts hin_X1 hown hK hP 1 rfl rfl 7 (by decide) hw2 (fun _ h9 => h9) rfl dX1_setSun_8 ?_
  refine lv_iload_n hx hb dX1_setSun_11 rfl (lv_at hl 1 rfl) ?_
  refine lv_iload_n hx hb dX1_setSun_12 rfl (lv_at hl 3 rfl) ?_
  refine va_iast hx hb hK hP hD hS 11 0 rfl rfl (vp_in_nI (n := k0) (N := 24) (by omega) (by decide)) dX1_setSun_13 (fun H locs hP hD hS => ?_)
  obtain ⟨F_2, eF_2⟩ : ∃ z : Nat → Nat → Int32, z = va_up F_1 11 (upd (F_1 11) (nI k0).toNatClampNeg p2) := ⟨_, rfl⟩
  have hP : va_P (dC, dI) vwCl (wC cI cZ h F_2 V) H := by rw [eF_2]; exact hP
  have hD : va_D A (wC cI cZ h F_2 V) := by rw [eF_2]; exact hD
  refine lv_aload_n hx hb dX1_setSun_14 rfl (lv_at hl 0 rfl) ?_
  refine va_get (D := (dC, dI)) (ci := 1) (v := .ref (h 12)) (C := RX1) (T := TX1) (N := 11) hx hb hts hin_X1 hown hK hP 1 rfl rfl 8 (by decide) hw3 (fun _ h9 => h9) rfl dX1_setSun_15 ?_
  refine lv_iload_n hx hb dX1_setSun_18 rfl (lv_at hl 1 rfl) ?_
  refine lv_iload hx hb dX1_setSun_19 (lv_at hl 4 rfl) ?_
  refine va_iast hx hb hK hP hD hS 12 0 rfl rfl (vp_in_nI (n := k0) (N := 24) (by omega) (by decide)) dX1_setSun_21 (fun H locs hP hD hS => ?_)
  obtain ⟨F_3, eF_3⟩ : ∃ z : Nat → Nat → Int32, z = va_up F_2 12 (upd (F_2 12) (nI k0).toNatClampNeg p3) := ⟨_, rfl⟩
  have hP : va_P (dC, dI) vwCl (wC cI cZ h F_3 V) H := by rw [eF_3]; exact hP
  have hD : va_D A (wC cI cZ h F_3 V) := by rw [eF_3]; exact hD
  rw [eF_3, eF_2, eF_1, nI_clamp (by omega)] at hP hD
  exact hret () H locs 22 ls dX1_setSun_22 (trivial) (hP) (hD) hS
def rm_X1_setWind : Room := { frames := 0, cells := 0, slots := 0, locals := 0 }
set_option maxHeartbeats 4000000 in
set_option maxRecDepth 100000 in
theorem c_X1_setWind (l : Launch) (dC : Nat → ClassId) (dI : Nat → Nat → Nat) (cI cZ cJ : ClassId) (h : Nat → Nat) (F : Nat → Nat → Int32) (V : Nat → Int32)  (k0 : Nat) (p1 : Int32) (hk0 : k0 < 24)   : CtV l (dC, dI) vwCl (tys3 cI cZ cJ) yX1_setWind wsX1_setWind rm_X1_setWind [.ref (h 1), .int (nI k0), .int p1] (wC cI cZ h F V) (S := Unit) (fun _ => True) (fun _ => wC cI cZ h (va_up F 13 (upd (F 13) k0 p1)) V) 0 0 := by
  refine ct_V (cc := cX1_setWind) (maxL := 3) (own := RX1) (by decide) rfl rfl (Nat.le_of_ble_eq_true rfl) (lv := [(0, .ref (h 1)), (1, .int (nI k0)), (2, .int p1)]) rfl ?_
  intro p e s m args below meth c A Q ls hnm fx hK hP hD hA hl hret
  obtain ⟨hx, hb, hml, hown, hts⟩ := id fx
  have hS : va_S A s.heap s.heap [] := va_S.rf
  have hw0 := hts (.fieldLink RX1 36 "MirrorTower$Field" "winds" "[I") (by decide +kernel)
  have hin_X1 : ∀ w ∈ u_ws RX1 TX1 11, w ∈ wsX1_setWind := by decide +kernel
  obtain ⟨H, hH⟩ : ∃ H, H = s.heap := ⟨_, rfl⟩
  rw [← hH] at hP ⊢
  have hS : va_S A s.heap H [] := by rw [hH]; exact hS
  generalize ([] : List Loc) = locs at hS ⊢
  refine lv_aload_n hx hb dX1_setWind_0 rfl (lv_at hl 0 rfl) ?_
  refine va_get (D := (dC, dI)) (ci := 1) (v := .ref (h 13)) (C := RX1) (T := TX1) (N := 11) hx hb hts hin_X1 hown hK hP 1 rfl rfl 9 (by decide) hw0 (fun _ h9 => h9) rfl dX1_setWind_1 ?_
  refine lv_iload_n hx hb dX1_setWind_4 rfl (lv_at hl 1 rfl) ?_
  refine lv_iload_n hx hb dX1_setWind_5 rfl (lv_at hl 2 rfl) ?_
  refine va_iast hx hb hK hP hD hS 13 0 rfl rfl (vp_in_nI (n := k0) (N := 24) (by omega) (by decide)) dX1_setWind_6 (fun H locs hP hD hS => ?_)
  obtain ⟨F_1, eF_1⟩ : ∃ z : Nat → Nat → Int32, z = va_up F 13 (upd (F 13) (nI k0).toNatClampNeg p1) := ⟨_, rfl⟩
  have hP : va_P (dC, dI) vwCl (wC cI cZ h F_1 V) H := by rw [eF_1]; exact hP
  have hD : va_D A (wC cI cZ h F_1 V) := by rw [eF_1]; exact hD
  rw [eF_1, nI_clamp (by omega)] at hP hD
  exact hret () H locs 7 ls dX1_setWind_7 (trivial) (hP) (hD) hS
def rm_X1_setDust : Room := { frames := 0, cells := 0, slots := 0, locals := 0 }
set_option maxHeartbeats 4000000 in
set_option maxRecDepth 100000 in
theorem c_X1_setDust (l : Launch) (dC : Nat → ClassId) (dI : Nat → Nat → Nat) (cI cZ cJ : ClassId) (h : Nat → Nat) (F : Nat → Nat → Int32) (V : Nat → Int32)  (p0 : Int32)   : CtV l (dC, dI) vwCl (tys3 cI cZ cJ) yX1_setDust wsX1_setDust rm_X1_setDust [.ref (h 1), .int p0] (wC cI cZ h F V) (S := Unit) (fun _ => True) (fun _ => wC cI cZ h F (va_up V 2 p0)) 0 0 := by
  refine ct_V (cc := cX1_setDust) (maxL := 2) (own := RX1) (by decide) rfl rfl (Nat.le_of_ble_eq_true rfl) (lv := [(0, .ref (h 1)), (1, .int p0)]) rfl ?_
  intro p e s m args below meth c A Q ls hnm fx hK hP hD hA hl hret
  obtain ⟨hx, hb, hml, hown, hts⟩ := id fx
  have hS : va_S A s.heap s.heap [] := va_S.rf
  have hw0 := hts (.fieldLink RX1 39 "MirrorTower$Field" "dustAnHour" "I") (by decide +kernel)
  have hin_X1 : ∀ w ∈ u_ws RX1 TX1 11, w ∈ wsX1_setDust := by decide +kernel
  obtain ⟨H, hH⟩ : ∃ H, H = s.heap := ⟨_, rfl⟩
  rw [← hH] at hP ⊢
  have hS : va_S A s.heap H [] := by rw [hH]; exact hS
  generalize ([] : List Loc) = locs at hS ⊢
  refine lv_aload_n hx hb dX1_setDust_0 rfl (lv_at hl 0 rfl) ?_
  refine lv_iload_n hx hb dX1_setDust_1 rfl (lv_at hl 1 rfl) ?_
  refine va_put (D := (dC, dI)) (ci := 1) (v := .int p0) (ty := .int) (C := RX1) (T := TX1) (N := 11) hx hb hts hin_X1 tyX1 tyX1_ok nmX1 hown hK hP hD hS 1 rfl rfl 10 (by decide) hw0 (fun _ h9 => h9) rfl (by decide +kernel) rfl rfl (Nat.le_of_ble_eq_true rfl) dX1_setDust_2 (fun H locs hP hD hS => ?_)
  have hP : va_P (dC, dI) vwCl (wC cI cZ h F (va_up V 2 p0)) H := hP
  have hD : va_D A (wC cI cZ h F (va_up V 2 p0)) := hD
  exact hret () H locs 5 ls dX1_setDust_5 (trivial) (hP) (hD) hS
def rm_X0_setLimit : Room := { frames := 0, cells := 0, slots := 0, locals := 0 }
set_option maxHeartbeats 4000000 in
set_option maxRecDepth 100000 in
theorem c_X0_setLimit (l : Launch) (dC : Nat → ClassId) (dI : Nat → Nat → Nat) (cI cZ cJ : ClassId) (h : Nat → Nat) (F : Nat → Nat → Int32) (V : Nat → Int32)  (k0 : Nat) (p1 : Int32) (hk0 : k0 < 4)   : CtV l (dC, dI) vwCl (tys3 cI cZ cJ) yX0_setLimit wsX0_setLimit rm_X0_setLimit [.ref (h 2), .int (nI k0), .int p1] (wC cI cZ h F V) (S := Unit) (fun _ => True) (fun _ => wC cI cZ h (va_up F 14 (upd (F 14) k0 p1)) V) 0 0 := by
  refine ct_V (cc := cX0_setLimit) (maxL := 3) (own := RX0) (by decide) rfl rfl (Nat.le_of_ble_eq_true rfl) (lv := [(0, .ref (h 2)), (1, .int (nI k0)), (2, .int p1)]) rfl ?_
  intro p e s m args below meth c A Q ls hnm fx hK hP hD hA hl hret
  obtain ⟨hx, hb, hml, hown, hts⟩ := id fx
  have hS : va_S A s.heap s.heap [] := va_S.rf
  have hw0 := hts (.fieldLink RX0 15 "MirrorTower$Face" "limits" "[I") (by decide +kernel)
  have hin_X0 : ∀ w ∈ u_ws RX0 TX0 11, w ∈ wsX0_setLimit := by decide +kernel
  obtain ⟨H, hH⟩ : ∃ H, H = s.heap := ⟨_, rfl⟩
  rw [← hH] at hP ⊢
  have hS : va_S A s.heap H [] := by rw [hH]; exact hS
  generalize ([] : List Loc) = locs at hS ⊢
  refine lv_aload_n hx hb dX0_setLimit_0 rfl (lv_at hl 0 rfl) ?_
  refine va_get (D := (dC, dI)) (ci := 0) (v := .ref (h 14)) (C := RX0) (T := TX0) (N := 11) hx hb hts hin_X0 hown hK hP 2 rfl rfl 1 (by decide) hw0 (fun _ h9 => h9) rfl dX0_setLimit_1 ?_
  refine lv_iload_n hx hb dX0_setLimit_4 rfl (lv_at hl 1 rfl) ?_
  refine lv_iload_n hx hb dX0_setLimit_5 rfl (lv_at hl 2 rfl) ?_
  refine va_iast hx hb hK hP hD hS 14 0 rfl rfl (vp_in_nI (n := k0) (N := 4) (by omega) (by decide)) dX0_setLimit_6 (fun H locs hP hD hS => ?_)
  obtain ⟨F_1, eF_1⟩ : ∃ z : Nat → Nat → Int32, z = va_up F 14 (upd (F 14) (nI k0).toNatClampNeg p1) := ⟨_, rfl⟩
  have hP : va_P (dC, dI) vwCl (wC cI cZ h F_1 V) H := by rw [eF_1]; exact hP
  have hD : va_D A (wC cI cZ h F_1 V) := by rw [eF_1]; exact hD
  rw [eF_1, nI_clamp (by omega)] at hP hD
  exact hret () H locs 7 ls dX0_setLimit_7 (trivial) (hP) (hD) hS
def rm_X3_setPrice : Room := { frames := 0, cells := 0, slots := 0, locals := 0 }
set_option maxHeartbeats 4000000 in
set_option maxRecDepth 100000 in
theorem c_X3_setPrice (l : Launch) (dC : Nat → ClassId) (dI : Nat → Nat → Nat) (cI cZ cJ : ClassId) (h : Nat → Nat) (F : Nat → Nat → Int32) (V : Nat → Int32)  (k0 : Nat) (p1 : Int32) (hk0 : k0 < 24)   : CtV l (dC, dI) vwCl (tys3 cI cZ cJ) yX3_setPrice wsX3_setPrice rm_X3_setPrice [.ref (h 3), .int (nI k0), .int p1] (wC cI cZ h F V) (S := Unit) (fun _ => True) (fun _ => wC cI cZ h (va_up F 23 (upd (F 23) k0 p1)) V) 0 0 := by
  refine ct_V (cc := cX3_setPrice) (maxL := 3) (own := RX3) (by decide) rfl rfl (Nat.le_of_ble_eq_true rfl) (lv := [(0, .ref (h 3)), (1, .int (nI k0)), (2, .int p1)]) rfl ?_
  intro p e s m args below meth c A Q ls hnm fx hK hP hD hA hl hret
  obtain ⟨hx, hb, hml, hown, hts⟩ := id fx
  have hS : va_S A s.heap s.heap [] := va_S.rf
  have hw0 := hts (.fieldLink RX3 19 "MirrorTower$Store" "prices" "[I") (by decide +kernel)
  have hin_X3 : ∀ w ∈ u_ws RX3 TX3 14, w ∈ wsX3_setPrice := by decide +kernel
  obtain ⟨H, hH⟩ : ∃ H, H = s.heap := ⟨_, rfl⟩
  rw [← hH] at hP ⊢
  have hS : va_S A s.heap H [] := by rw [hH]; exact hS
  generalize ([] : List Loc) = locs at hS ⊢
  refine lv_aload_n hx hb dX3_setPrice_0 rfl (lv_at hl 0 rfl) ?_
  refine va_get (D := (dC, dI)) (ci := 3) (v := .ref (h 23)) (C := RX3) (T := TX3) (N := 14) hx hb hts hin_X3 hown hK hP 3 rfl rfl 2 (by decide) hw0 (fun _ h9 => h9) rfl dX3_setPrice_1 ?_
  refine lv_iload_n hx hb dX3_setPrice_4 rfl (lv_at hl 1 rfl) ?_
  refine lv_iload_n hx hb dX3_setPrice_5 rfl (lv_at hl 2 rfl) ?_
  refine va_iast hx hb hK hP hD hS 23 0 rfl rfl (vp_in_nI (n := k0) (N := 24) (by omega) (by decide)) dX3_setPrice_6 (fun H locs hP hD hS => ?_)
  obtain ⟨F_1, eF_1⟩ : ∃ z : Nat → Nat → Int32, z = va_up F 23 (upd (F 23) (nI k0).toNatClampNeg p1) := ⟨_, rfl⟩
  have hP : va_P (dC, dI) vwCl (wC cI cZ h F_1 V) H := by rw [eF_1]; exact hP
  have hD : va_D A (wC cI cZ h F_1 V) := by rw [eF_1]; exact hD
  rw [eF_1, nI_clamp (by omega)] at hP hD
  exact hret () H locs 7 ls dX3_setPrice_7 (trivial) (hP) (hD) hS
def rm_X1_blockersOf : Room := { frames := 0, cells := 0, slots := 0, locals := 0 }
set_option maxHeartbeats 4000000 in
set_option maxRecDepth 100000 in
theorem c_X1_blockersOf (l : Launch) (dC : Nat → ClassId) (dI : Nat → Nat → Nat) (cI cZ cJ : ClassId) (h : Nat → Nat) (F : Nat → Nat → Int32) (V : Nat → Int32)  (k0 : Nat) (hk0 : k0 < 40)   : CtI l (dC, dI) vwCl (tys3 cI cZ cJ) yX1_blockersOf wsX1_blockersOf rm_X1_blockersOf [.ref (h 1), .int (nI k0)] (wC cI cZ h F V) (S := Unit) (fun r _ => r = F 8 k0) (fun _ => wC cI cZ h F V) 0 0 := by
  refine ct_I (cc := cX1_blockersOf) (maxL := 2) (ty := .int) (own := RX1) (by decide) rfl rfl (Nat.le_of_ble_eq_true rfl) (lv := [(0, .ref (h 1)), (1, .int (nI k0))]) rfl ?_
  intro p e s m args below meth c A Q ls fx hK hP hD hA hl hret
  obtain ⟨hx, hb, hml, hown, hts⟩ := id fx
  have hS : va_S A s.heap s.heap [] := va_S.rf
  have hw0 := hts (.fieldLink RX1 21 "MirrorTower$Field" "blockers" "[I") (by decide +kernel)
  have hin_X1 : ∀ w ∈ u_ws RX1 TX1 11, w ∈ wsX1_blockersOf := by decide +kernel
  obtain ⟨H, hH⟩ : ∃ H, H = s.heap := ⟨_, rfl⟩
  rw [← hH] at hP ⊢
  have hS : va_S A s.heap H [] := by rw [hH]; exact hS
  generalize ([] : List Loc) = locs at hS ⊢
  refine lv_aload_n hx hb dX1_blockersOf_0 rfl (lv_at hl 0 rfl) ?_
  refine va_get (D := (dC, dI)) (ci := 1) (v := .ref (h 8)) (C := RX1) (T := TX1) (N := 11) hx hb hts hin_X1 hown hK hP 1 rfl rfl 3 (by decide) hw0 (fun _ h9 => h9) rfl dX1_blockersOf_1 ?_
  refine lv_iload_n hx hb dX1_blockersOf_4 rfl (lv_at hl 1 rfl) ?_
  refine va_iald hx hb hK hP 8 0 rfl rfl (vp_in_nI (n := k0) (N := 40) (by omega) (by decide)) dX1_blockersOf_5 ?_
  refine lv_topi (fun x_1 ex_1 => ?_)
  rw [nI_clamp (n := k0) (by omega)] at ex_1
  exact hret x_1 () H locs 6 ls rfl dX1_blockersOf_6 (ex_1) (hP) (hD) hS
def rm_X0_keepAims : Room := { frames := 5, cells := 0, slots := 0, locals := 109 }
set_option maxHeartbeats 4000000 in
set_option maxRecDepth 100000 in
theorem c_X0_keepAims (l : Launch) (dC : Nat → ClassId) (dI : Nat → Nat → Nat) (cI cZ cJ : ClassId) (h : Nat → Nat) (F : Nat → Nat → Int32) (V : Nat → Int32) (n : Nat) (hV1 : V 1 = nI n) (bV1 : n ≤ 40) (d : Nat) (hV2 : V 2 = nI d) (bV2 : d ≤ 20) (So : Nat → Nat) (hSo : ∀ i, i < 40 → F 9 i = nI (So i)) (bSo : ∀ i, i < 40 → So i ≤ 90) (Hh : Nat → Nat) (hHh : ∀ i, i < 24 → F 12 i = nI (Hh i)) (bHh : ∀ i, i < 24 → Hh i ≤ 9) (Wd : Nat → Nat) (hWd : ∀ i, i < 24 → F 13 i = nI (Wd i)) (bWd : ∀ i, i < 24 → Wd i ≤ 99) (Lm : Nat → Nat) (hLm : ∀ i, i < 4 → F 14 i = nI (Lm i)) (bLm : ∀ i, i < 4 → Lm i ≤ 10000) (k0 : Nat) (hk0 : k0 < 24)   : CtI l (dC, dI) vwCl (tys3 cI cZ cJ) yX0_keepAims wsX0_keepAims rm_X0_keepAims [.ref (h 2), .int (nI k0)] (wC cI cZ h F V) (S := Nat → Nat → Int32) (fun r u => (r = nI (ahF F Hh So Wd Lm d n k0 0)) ∧ (∀ j, j ∉ ([15, 16, 17, 18, 19, 20] : List Nat) → u j = F j) ∧ ((∀ i, i < 4 → u 20 i = nI (Lm i - alF F Hh So Wd Lm d n k0 0 i)) ∧ ∀ i, i < n → u 19 i = acF F Hh So Wd Lm d n k0 0 i)) (fun u => wC cI cZ h u (va_up V 3 (nI n))) 0 0 := by
  refine ct_I (cc := cX0_keepAims) (maxL := 4) (ty := .int) (own := RX0) (by decide) rfl rfl (Nat.le_of_ble_eq_true rfl) (lv := [(0, .ref (h 2)), (1, .int (nI k0))]) rfl ?_
  intro p e s m args below meth c A Q ls fx hK hP hD hA hl hret
  obtain ⟨hx, hb, hml, hown, hts⟩ := id fx
  have hS : va_S A s.heap s.heap [] := va_S.rf
  have hw0 := hts (.fieldLink RX0 11 "MirrorTower$Face" "field" "LMirrorTower$Field;") (by decide +kernel)
  have hin_X0 : ∀ w ∈ u_ws RX0 TX0 11, w ∈ wsX0_keepAims := by decide +kernel
  have hw2 := hts (.fieldLink RX0 60 "MirrorTower$Face" "keptSize" "I") (by decide +kernel)
  have hw3 := hts (.fieldLink RX0 31 "MirrorTower$Face" "cellOf" "[I") (by decide +kernel)
  have hw4 := hts (.fieldLink RX0 37 "MirrorTower$Face" "keptCells" "[I") (by decide +kernel)
  have hw5 := hts (.methodLink RX0 64 arraycopyName) (by decide +kernel)
  have hw6 := hts (.native arraycopyName) (by decide +kernel)
  have hw7 := hts (.static arraycopyName) (by decide +kernel)
  have hw8 := hts (.initialized "java/lang/System") (by decide +kernel)
  have hw9 := hts (.fieldLink RX0 40 "MirrorTower$Face" "keptPowers" "[I") (by decide +kernel)
  have hw10 := hts (.fieldLink RX0 15 "MirrorTower$Face" "limits" "[I") (by decide +kernel)
  have hw11 := hts (.fieldLink RX0 34 "MirrorTower$Face" "left" "[I") (by decide +kernel)
  obtain ⟨H, hH⟩ : ∃ H, H = s.heap := ⟨_, rfl⟩
  rw [← hH] at hP ⊢
  have hS : va_S A s.heap H [] := by rw [hH]; exact hS
  generalize ([] : List Loc) = locs at hS ⊢
  refine lv_aload_n hx hb dX0_keepAims_0 rfl (lv_at hl 0 rfl) ?_
  refine lv_iload_n hx hb dX0_keepAims_1 rfl (lv_at hl 1 rfl) ?_
  refine lv_iconst (v := 0) hx hb dX0_keepAims_2 (by decide) ?_
  refine cw_Vi (As := [.int (nI k0), .int 0]) (rest := []) (c_X0_aimAll l dC dI cI cZ cJ h F V n hV1 (by omega) d hV2 (by omega) So hSo bSo Hh hHh bHh Wd hWd bWd Lm hLm bLm k0 0 (by omega) (by omega)) fx (cwV 2 hts gX0_keepAims_X0_aimAll rfl rfl rfl (by decide +kernel) ⟨Nat.le_of_ble_eq_true rfl, Nat.le_of_ble_eq_true rfl⟩) hK hP hD hS hA 2 rfl rfl rfl rfl hl.1 rfl (Nat.le_of_ble_eq_true rfl) dX0_keepAims_3 ⟨Nat.le_of_ble_eq_true rfl, Nat.le_of_ble_eq_true rfl⟩ (fun r_1 u_2 H locs hw_3 hP hD hS => ?_)
  obtain ⟨F_4, rfl⟩ : ∃ z, z = u_2 := ⟨_, rfl⟩
  have hf_5 : ∀ j, j ∉ ([15, 16, 17, 18] : List Nat) → F_4 j = F j := hw_3.2.1
  have hP : va_P (dC, dI) vwCl (wC cI cZ h F_4 V) H := hP
  have hD : va_D A (wC cI cZ h F_4 V) := hD
  have hN_6 : ∀ i, i < 40 → F_4 9 i = nI (So i) := by rw [hf_5 9 (by decide)]; exact hSo
  have hN_7 : ∀ i, i < 24 → F_4 12 i = nI (Hh i) := by rw [hf_5 12 (by decide)]; exact hHh
  have hN_8 : ∀ i, i < 24 → F_4 13 i = nI (Wd i) := by rw [hf_5 13 (by decide)]; exact hWd
  have hN_9 : ∀ i, i < 4 → F_4 14 i = nI (Lm i) := by rw [hf_5 14 (by decide)]; exact hLm
  have hN_10 : ∀ i, i < 4 → F_4 18 i = nI ((alF F Hh So Wd Lm d n k0 0) i) := hw_3.2.2.1
  have bN_11 : ∀ i, i < 4 → (alF F Hh So Wd Lm d n k0 0) i ≤ 10000 := hw_3.2.2.2.1
  have hb_12 : ahF F Hh So Wd Lm d n k0 0 ≤ 4000 := ahF_le (by omega) (bHh k0 (by omega))
  obtain rfl : r_1 = nI (ahF F Hh So Wd Lm d n k0 0) := hw_3.1
  refine lv_istore_n (lv' := [(2, .int (nI (ahF F Hh So Wd Lm d n k0 0))), (0, .ref (h 2)), (1, .int (nI k0))]) hx hb dX0_keepAims_6 rfl hl (by decide) rfl (fun ls hl => ?_)
  refine lv_aload_n hx hb dX0_keepAims_7 rfl (lv_at hl 1 rfl) ?_
  refine lv_aload_n hx hb dX0_keepAims_8 rfl (lv_at hl 1 rfl) ?_
  refine va_get (D := (dC, dI)) (ci := 0) (v := .ref (h 1)) (C := RX0) (T := TX0) (N := 11) hx hb hts hin_X0 hown hK hP 2 rfl rfl 0 (by decide) hw0 (fun _ h9 => h9) rfl dX0_keepAims_9 ?_
  refine cw_Vi (As := []) (rest := [.ref (h 2)]) (c_X1_size l dC dI cI cZ cJ h F_4 V) fx (cwV 0 hts gX0_keepAims_X1_size rfl rfl rfl (by decide +kernel) ⟨Nat.le_of_ble_eq_true rfl, Nat.le_of_ble_eq_true rfl⟩) hK hP hD hS hA 1 rfl rfl rfl rfl hl.1 rfl (Nat.le_of_ble_eq_true rfl) dX0_keepAims_12 ⟨Nat.le_of_ble_eq_true rfl, Nat.le_of_ble_eq_true rfl⟩ (fun r_13 u_14 H locs hw_15 hP hD hS => ?_)
  have hP : va_P (dC, dI) vwCl (wC cI cZ h F_4 V) H := hP
  have hD : va_D A (wC cI cZ h F_4 V) := hD
  obtain rfl : r_13 = nI n := Eq.trans hw_15 hV1
  have al0 := alF_le F Hh So Wd Lm d n k0 0 0
  have al1 := alF_le F Hh So Wd Lm d n k0 0 1
  have al2 := alF_le F Hh So Wd Lm d n k0 0 2
  have al3 := alF_le F Hh So Wd Lm d n k0 0 3
  refine va_put (D := (dC, dI)) (ci := 0) (v := .int (nI n)) (ty := .int) (C := RX0) (T := TX0) (N := 11) hx hb hts hin_X0 tyX0 tyX0_ok nmX0 hown hK hP hD hS 2 rfl rfl 8 (by decide) hw2 (fun _ h9 => h9) rfl (by decide +kernel) rfl rfl (Nat.le_of_ble_eq_true rfl) dX0_keepAims_15 (fun H locs hP hD hS => ?_)
  have hP : va_P (dC, dI) vwCl (wC cI cZ h F_4 (va_up V 3 (nI n))) H := hP
  have hD : va_D A (wC cI cZ h F_4 (va_up V 3 (nI n))) := hD
  refine lv_aload_n hx hb dX0_keepAims_18 rfl (lv_at hl 1 rfl) ?_
  refine va_get (D := (dC, dI)) (ci := 0) (v := .ref (h 17)) (C := RX0) (T := TX0) (N := 11) hx hb hts hin_X0 hown hK hP 2 rfl rfl 4 (by decide) hw3 (fun _ h9 => h9) rfl dX0_keepAims_19 ?_
  refine lv_iconst (v := 0) hx hb dX0_keepAims_22 (by decide) ?_
  refine lv_aload_n hx hb dX0_keepAims_23 rfl (lv_at hl 1 rfl) ?_
  refine va_get (D := (dC, dI)) (ci := 0) (v := .ref (h 19)) (C := RX0) (T := TX0) (N := 11) hx hb hts hin_X0 hown hK hP 2 rfl rfl 6 (by decide) hw4 (fun _ h9 => h9) rfl dX0_keepAims_24 ?_
  refine lv_iconst (v := 0) hx hb dX0_keepAims_27 (by decide) ?_
  refine lv_aload_n hx hb dX0_keepAims_28 rfl (lv_at hl 1 rfl) ?_
  refine va_get (D := (dC, dI)) (ci := 0) (v := .int (nI n)) (C := RX0) (T := TX0) (N := 11) hx hb hts hin_X0 hown hK hP 2 rfl rfl 8 (by decide) hw2 (fun _ h9 => h9) rfl dX0_keepAims_29 ?_
  refine va_copyi hx hb (hml.trans hl.1.symm) hown hw5 hw6 hw7 hw8 hK hP hD hS 17 19 0 0 rfl rfl rfl rfl rfl (by decide) (by decide) (nI_pos (by omega)) (by rw [nI_clamp (by omega)]; show 0 + _ ≤ _; omega) (by rw [nI_clamp (by omega)]; show 0 + _ ≤ _; omega) (fun _ _ => rfl) (Nat.le_of_ble_eq_true rfl) (Nat.le_of_ble_eq_true rfl) dX0_keepAims_32 (fun H locs hP hD hS => ?_)
  obtain ⟨F_16, eF_16⟩ : ∃ z : Nat → Nat → Int32, z = va_up F_4 19 (va_cpy (F_4 17) (F_4 19) (0 : Int32).toNatClampNeg (0 : Int32).toNatClampNeg (nI n).toNatClampNeg) := ⟨_, rfl⟩
  have hP : va_P (dC, dI) vwCl (wC cI cZ h F_16 (va_up V 3 (nI n))) H := by rw [eF_16]; exact hP
  have hD : va_D A (wC cI cZ h F_16 (va_up V 3 (nI n))) := by rw [eF_16]; exact hD
  have hN_17 : ∀ i, i < 40 → F_16 9 i = nI (So i) := by rw [eF_16]; exact hN_6
  have hN_18 : ∀ i, i < 24 → F_16 12 i = nI (Hh i) := by rw [eF_16]; exact hN_7
  have hN_19 : ∀ i, i < 24 → F_16 13 i = nI (Wd i) := by rw [eF_16]; exact hN_8
  have hN_20 : ∀ i, i < 4 → F_16 14 i = nI (Lm i) := by rw [eF_16]; exact hN_9
  have hN_21 : ∀ i, i < 4 → F_16 18 i = nI ((alF F Hh So Wd Lm d n k0 0) i) := by rw [eF_16]; exact hN_10
  refine lv_iconst (v := 0) hx hb dX0_keepAims_35 (by decide) ?_
  refine lv_istore_n (lv' := [(3, .int 0), (2, .int (nI (ahF F Hh So Wd Lm d n k0 0))), (0, .ref (h 2)), (1, .int (nI k0))]) hx hb dX0_keepAims_36 rfl hl (by decide) rfl (fun ls hl => ?_)
  refine lv_iload_n hx hb dX0_keepAims_37 rfl (lv_at hl 0 rfl) ?_
  refine lv_iconst (v := 4) hx hb dX0_keepAims_38 (by decide) ?_
  refine lv_icmp_ge (tgt := 67) hx hb dX0_keepAims_39 (by decide) (fun c_22 => ?_) (fun c_22 => ?_)
  · exact absurd c_22 (by decide)
  · refine lv_aload_n hx hb dX0_keepAims_42 rfl (lv_at hl 2 rfl) ?_
    refine va_get (D := (dC, dI)) (ci := 0) (v := .ref (h 20)) (C := RX0) (T := TX0) (N := 11) hx hb hts hin_X0 hown hK hP 2 rfl rfl 7 (by decide) hw9 (fun _ h9 => h9) rfl dX0_keepAims_43 ?_
    refine lv_iload_n hx hb dX0_keepAims_46 rfl (lv_at hl 0 rfl) ?_
    refine lv_aload_n hx hb dX0_keepAims_47 rfl (lv_at hl 2 rfl) ?_
    refine va_get (D := (dC, dI)) (ci := 0) (v := .ref (h 14)) (C := RX0) (T := TX0) (N := 11) hx hb hts hin_X0 hown hK hP 2 rfl rfl 1 (by decide) hw10 (fun _ h9 => h9) rfl dX0_keepAims_48 ?_
    refine lv_iload_n hx hb dX0_keepAims_51 rfl (lv_at hl 0 rfl) ?_
    refine va_iald hx hb hK hP 14 0 rfl rfl (vp_in_nI (n := 0) (N := 4) (by decide) (by decide)) dX0_keepAims_52 ?_
    have hb_23 := bLm 0 (by omega)
    refine lv_topi (fun x_24 ex_24 => ?_)
    obtain rfl : x_24 = nI (Lm 0) := ex_24.trans ((congrArg (F_16 14) (by decide : (0 : Int32).toNatClampNeg = 0)).trans (hN_20 0 (by omega)))
    refine lv_aload_n hx hb dX0_keepAims_53 rfl (lv_at hl 2 rfl) ?_
    refine va_get (D := (dC, dI)) (ci := 0) (v := .ref (h 18)) (C := RX0) (T := TX0) (N := 11) hx hb hts hin_X0 hown hK hP 2 rfl rfl 5 (by decide) hw11 (fun _ h9 => h9) rfl dX0_keepAims_54 ?_
    refine lv_iload_n hx hb dX0_keepAims_57 rfl (lv_at hl 0 rfl) ?_
    refine va_iald hx hb hK hP 18 0 rfl rfl (vp_in_nI (n := 0) (N := 4) (by decide) (by decide)) dX0_keepAims_58 ?_
    have hb_25 := bN_11 0 (by omega)
    try dsimp only at hb_25
    refine lv_topi (fun x_26 ex_26 => ?_)
    obtain rfl : x_26 = nI ((alF F Hh So Wd Lm d n k0 0) 0) := ex_26.trans ((congrArg (F_16 18) (by decide : (0 : Int32).toNatClampNeg = 0)).trans (hN_21 0 (by omega)))
    refine lv_isub hx hb dX0_keepAims_59 ?_
    refine lv_topi (fun x_27 ex_27 => ?_)
    obtain rfl : x_27 = nI ((Lm 0) - ((alF F Hh So Wd Lm d n k0 0) 0)) := ex_27.trans (pk_sub (a := Lm 0) (b := (alF F Hh So Wd Lm d n k0 0) 0) (by omega))
    refine va_iast hx hb hK hP hD hS 20 0 rfl rfl (vp_in_nI (n := 0) (N := 4) (by decide) (by decide)) dX0_keepAims_60 (fun H locs hP hD hS => ?_)
    obtain ⟨F_28, eF_28⟩ : ∃ z : Nat → Nat → Int32, z = va_up F_16 20 (upd (F_16 20) (0 : Int32).toNatClampNeg (nI ((Lm 0) - ((alF F Hh So Wd Lm d n k0 0) 0)))) := ⟨_, rfl⟩
    have hP : va_P (dC, dI) vwCl (wC cI cZ h F_28 (va_up V 3 (nI n))) H := by rw [eF_28]; exact hP
    have hD : va_D A (wC cI cZ h F_28 (va_up V 3 (nI n))) := by rw [eF_28]; exact hD
    have hN_29 : ∀ i, i < 40 → F_28 9 i = nI (So i) := by rw [eF_28]; exact hN_17
    have hN_30 : ∀ i, i < 24 → F_28 12 i = nI (Hh i) := by rw [eF_28]; exact hN_18
    have hN_31 : ∀ i, i < 24 → F_28 13 i = nI (Wd i) := by rw [eF_28]; exact hN_19
    have hN_32 : ∀ i, i < 4 → F_28 14 i = nI (Lm i) := by rw [eF_28]; exact hN_20
    have hN_33 : ∀ i, i < 4 → F_28 18 i = nI ((alF F Hh So Wd Lm d n k0 0) i) := by rw [eF_28]; exact hN_21
    refine lv_iinc (v := 1) (lv' := [(3, .int 1), (2, .int (nI (ahF F Hh So Wd Lm d n k0 0))), (0, .ref (h 2)), (1, .int (nI k0))]) hx hb dX0_keepAims_61 hl (k := 0) rfl (by decide) (by decide) rfl (fun ls hl => ?_)
    refine lv_goto (tgt := 37) hx hb dX0_keepAims_64 (by decide) ?_
    refine lv_iload_n hx hb dX0_keepAims_37 rfl (lv_at hl 0 rfl) ?_
    refine lv_iconst (v := 4) hx hb dX0_keepAims_38 (by decide) ?_
    refine lv_icmp_ge (tgt := 67) hx hb dX0_keepAims_39 (by decide) (fun c_34 => ?_) (fun c_34 => ?_)
    · exact absurd c_34 (by decide)
    · refine lv_aload_n hx hb dX0_keepAims_42 rfl (lv_at hl 2 rfl) ?_
      refine va_get (D := (dC, dI)) (ci := 0) (v := .ref (h 20)) (C := RX0) (T := TX0) (N := 11) hx hb hts hin_X0 hown hK hP 2 rfl rfl 7 (by decide) hw9 (fun _ h9 => h9) rfl dX0_keepAims_43 ?_
      refine lv_iload_n hx hb dX0_keepAims_46 rfl (lv_at hl 0 rfl) ?_
      refine lv_aload_n hx hb dX0_keepAims_47 rfl (lv_at hl 2 rfl) ?_
      refine va_get (D := (dC, dI)) (ci := 0) (v := .ref (h 14)) (C := RX0) (T := TX0) (N := 11) hx hb hts hin_X0 hown hK hP 2 rfl rfl 1 (by decide) hw10 (fun _ h9 => h9) rfl dX0_keepAims_48 ?_
      refine lv_iload_n hx hb dX0_keepAims_51 rfl (lv_at hl 0 rfl) ?_
      refine va_iald hx hb hK hP 14 0 rfl rfl (vp_in_nI (n := 1) (N := 4) (by decide) (by decide)) dX0_keepAims_52 ?_
      have hb_35 := bLm 1 (by omega)
      refine lv_topi (fun x_36 ex_36 => ?_)
      obtain rfl : x_36 = nI (Lm 1) := ex_36.trans ((congrArg (F_28 14) (by decide : (1 : Int32).toNatClampNeg = 1)).trans (hN_32 1 (by omega)))
      refine lv_aload_n hx hb dX0_keepAims_53 rfl (lv_at hl 2 rfl) ?_
      refine va_get (D := (dC, dI)) (ci := 0) (v := .ref (h 18)) (C := RX0) (T := TX0) (N := 11) hx hb hts hin_X0 hown hK hP 2 rfl rfl 5 (by decide) hw11 (fun _ h9 => h9) rfl dX0_keepAims_54 ?_
      refine lv_iload_n hx hb dX0_keepAims_57 rfl (lv_at hl 0 rfl) ?_
      refine va_iald hx hb hK hP 18 0 rfl rfl (vp_in_nI (n := 1) (N := 4) (by decide) (by decide)) dX0_keepAims_58 ?_
      have hb_37 := bN_11 1 (by omega)
      try dsimp only at hb_37
      refine lv_topi (fun x_38 ex_38 => ?_)
      obtain rfl : x_38 = nI ((alF F Hh So Wd Lm d n k0 0) 1) := ex_38.trans ((congrArg (F_28 18) (by decide : (1 : Int32).toNatClampNeg = 1)).trans (hN_33 1 (by omega)))
      refine lv_isub hx hb dX0_keepAims_59 ?_
      refine lv_topi (fun x_39 ex_39 => ?_)
      obtain rfl : x_39 = nI ((Lm 1) - ((alF F Hh So Wd Lm d n k0 0) 1)) := ex_39.trans (pk_sub (a := Lm 1) (b := (alF F Hh So Wd Lm d n k0 0) 1) (by omega))
      refine va_iast hx hb hK hP hD hS 20 0 rfl rfl (vp_in_nI (n := 1) (N := 4) (by decide) (by decide)) dX0_keepAims_60 (fun H locs hP hD hS => ?_)
      obtain ⟨F_40, eF_40⟩ : ∃ z : Nat → Nat → Int32, z = va_up F_28 20 (upd (F_28 20) (1 : Int32).toNatClampNeg (nI ((Lm 1) - ((alF F Hh So Wd Lm d n k0 0) 1)))) := ⟨_, rfl⟩
      have hP : va_P (dC, dI) vwCl (wC cI cZ h F_40 (va_up V 3 (nI n))) H := by rw [eF_40]; exact hP
      have hD : va_D A (wC cI cZ h F_40 (va_up V 3 (nI n))) := by rw [eF_40]; exact hD
      have hN_41 : ∀ i, i < 40 → F_40 9 i = nI (So i) := by rw [eF_40]; exact hN_29
      have hN_42 : ∀ i, i < 24 → F_40 12 i = nI (Hh i) := by rw [eF_40]; exact hN_30
      have hN_43 : ∀ i, i < 24 → F_40 13 i = nI (Wd i) := by rw [eF_40]; exact hN_31
      have hN_44 : ∀ i, i < 4 → F_40 14 i = nI (Lm i) := by rw [eF_40]; exact hN_32
      have hN_45 : ∀ i, i < 4 → F_40 18 i = nI ((alF F Hh So Wd Lm d n k0 0) i) := by rw [eF_40]; exact hN_33
      refine lv_iinc (v := 2) (lv' := [(3, .int 2), (2, .int (nI (ahF F Hh So Wd Lm d n k0 0))), (0, .ref (h 2)), (1, .int (nI k0))]) hx hb dX0_keepAims_61 hl (k := 0) rfl (by decide) (by decide) rfl (fun ls hl => ?_)
      refine lv_goto (tgt := 37) hx hb dX0_keepAims_64 (by decide) ?_
      refine lv_iload_n hx hb dX0_keepAims_37 rfl (lv_at hl 0 rfl) ?_
      refine lv_iconst (v := 4) hx hb dX0_keepAims_38 (by decide) ?_
      refine lv_icmp_ge (tgt := 67) hx hb dX0_keepAims_39 (by decide) (fun c_46 => ?_) (fun c_46 => ?_)
      · exact absurd c_46 (by decide)
      · refine lv_aload_n hx hb dX0_keepAims_42 rfl (lv_at hl 2 rfl) ?_
        refine va_get (D := (dC, dI)) (ci := 0) (v := .ref (h 20)) (C := RX0) (T := TX0) (N := 11) hx hb hts hin_X0 hown hK hP 2 rfl rfl 7 (by decide) hw9 (fun _ h9 => h9) rfl dX0_keepAims_43 ?_
        refine lv_iload_n hx hb dX0_keepAims_46 rfl (lv_at hl 0 rfl) ?_
        refine lv_aload_n hx hb dX0_keepAims_47 rfl (lv_at hl 2 rfl) ?_
        refine va_get (D := (dC, dI)) (ci := 0) (v := .ref (h 14)) (C := RX0) (T := TX0) (N := 11) hx hb hts hin_X0 hown hK hP 2 rfl rfl 1 (by decide) hw10 (fun _ h9 => h9) rfl dX0_keepAims_48 ?_
        refine lv_iload_n hx hb dX0_keepAims_51 rfl (lv_at hl 0 rfl) ?_
        refine va_iald hx hb hK hP 14 0 rfl rfl (vp_in_nI (n := 2) (N := 4) (by decide) (by decide)) dX0_keepAims_52 ?_
        have hb_47 := bLm 2 (by omega)
        refine lv_topi (fun x_48 ex_48 => ?_)
        obtain rfl : x_48 = nI (Lm 2) := ex_48.trans ((congrArg (F_40 14) (by decide : (2 : Int32).toNatClampNeg = 2)).trans (hN_44 2 (by omega)))
        refine lv_aload_n hx hb dX0_keepAims_53 rfl (lv_at hl 2 rfl) ?_
        refine va_get (D := (dC, dI)) (ci := 0) (v := .ref (h 18)) (C := RX0) (T := TX0) (N := 11) hx hb hts hin_X0 hown hK hP 2 rfl rfl 5 (by decide) hw11 (fun _ h9 => h9) rfl dX0_keepAims_54 ?_
        refine lv_iload_n hx hb dX0_keepAims_57 rfl (lv_at hl 0 rfl) ?_
        refine va_iald hx hb hK hP 18 0 rfl rfl (vp_in_nI (n := 2) (N := 4) (by decide) (by decide)) dX0_keepAims_58 ?_
        have hb_49 := bN_11 2 (by omega)
        try dsimp only at hb_49
        refine lv_topi (fun x_50 ex_50 => ?_)
        obtain rfl : x_50 = nI ((alF F Hh So Wd Lm d n k0 0) 2) := ex_50.trans ((congrArg (F_40 18) (by decide : (2 : Int32).toNatClampNeg = 2)).trans (hN_45 2 (by omega)))
        refine lv_isub hx hb dX0_keepAims_59 ?_
        refine lv_topi (fun x_51 ex_51 => ?_)
        obtain rfl : x_51 = nI ((Lm 2) - ((alF F Hh So Wd Lm d n k0 0) 2)) := ex_51.trans (pk_sub (a := Lm 2) (b := (alF F Hh So Wd Lm d n k0 0) 2) (by omega))
        refine va_iast hx hb hK hP hD hS 20 0 rfl rfl (vp_in_nI (n := 2) (N := 4) (by decide) (by decide)) dX0_keepAims_60 (fun H locs hP hD hS => ?_)
        obtain ⟨F_52, eF_52⟩ : ∃ z : Nat → Nat → Int32, z = va_up F_40 20 (upd (F_40 20) (2 : Int32).toNatClampNeg (nI ((Lm 2) - ((alF F Hh So Wd Lm d n k0 0) 2)))) := ⟨_, rfl⟩
        have hP : va_P (dC, dI) vwCl (wC cI cZ h F_52 (va_up V 3 (nI n))) H := by rw [eF_52]; exact hP
        have hD : va_D A (wC cI cZ h F_52 (va_up V 3 (nI n))) := by rw [eF_52]; exact hD
        have hN_53 : ∀ i, i < 40 → F_52 9 i = nI (So i) := by rw [eF_52]; exact hN_41
        have hN_54 : ∀ i, i < 24 → F_52 12 i = nI (Hh i) := by rw [eF_52]; exact hN_42
        have hN_55 : ∀ i, i < 24 → F_52 13 i = nI (Wd i) := by rw [eF_52]; exact hN_43
        have hN_56 : ∀ i, i < 4 → F_52 14 i = nI (Lm i) := by rw [eF_52]; exact hN_44
        have hN_57 : ∀ i, i < 4 → F_52 18 i = nI ((alF F Hh So Wd Lm d n k0 0) i) := by rw [eF_52]; exact hN_45
        refine lv_iinc (v := 3) (lv' := [(3, .int 3), (2, .int (nI (ahF F Hh So Wd Lm d n k0 0))), (0, .ref (h 2)), (1, .int (nI k0))]) hx hb dX0_keepAims_61 hl (k := 0) rfl (by decide) (by decide) rfl (fun ls hl => ?_)
        refine lv_goto (tgt := 37) hx hb dX0_keepAims_64 (by decide) ?_
        refine lv_iload_n hx hb dX0_keepAims_37 rfl (lv_at hl 0 rfl) ?_
        refine lv_iconst (v := 4) hx hb dX0_keepAims_38 (by decide) ?_
        refine lv_icmp_ge (tgt := 67) hx hb dX0_keepAims_39 (by decide) (fun c_58 => ?_) (fun c_58 => ?_)
        · exact absurd c_58 (by decide)
        · refine lv_aload_n hx hb dX0_keepAims_42 rfl (lv_at hl 2 rfl) ?_
          refine va_get (D := (dC, dI)) (ci := 0) (v := .ref (h 20)) (C := RX0) (T := TX0) (N := 11) hx hb hts hin_X0 hown hK hP 2 rfl rfl 7 (by decide) hw9 (fun _ h9 => h9) rfl dX0_keepAims_43 ?_
          refine lv_iload_n hx hb dX0_keepAims_46 rfl (lv_at hl 0 rfl) ?_
          refine lv_aload_n hx hb dX0_keepAims_47 rfl (lv_at hl 2 rfl) ?_
          refine va_get (D := (dC, dI)) (ci := 0) (v := .ref (h 14)) (C := RX0) (T := TX0) (N := 11) hx hb hts hin_X0 hown hK hP 2 rfl rfl 1 (by decide) hw10 (fun _ h9 => h9) rfl dX0_keepAims_48 ?_
          refine lv_iload_n hx hb dX0_keepAims_51 rfl (lv_at hl 0 rfl) ?_
          refine va_iald hx hb hK hP 14 0 rfl rfl (vp_in_nI (n := 3) (N := 4) (by decide) (by decide)) dX0_keepAims_52 ?_
          have hb_59 := bLm 3 (by omega)
          refine lv_topi (fun x_60 ex_60 => ?_)
          obtain rfl : x_60 = nI (Lm 3) := ex_60.trans ((congrArg (F_52 14) (by decide : (3 : Int32).toNatClampNeg = 3)).trans (hN_56 3 (by omega)))
          refine lv_aload_n hx hb dX0_keepAims_53 rfl (lv_at hl 2 rfl) ?_
          refine va_get (D := (dC, dI)) (ci := 0) (v := .ref (h 18)) (C := RX0) (T := TX0) (N := 11) hx hb hts hin_X0 hown hK hP 2 rfl rfl 5 (by decide) hw11 (fun _ h9 => h9) rfl dX0_keepAims_54 ?_
          refine lv_iload_n hx hb dX0_keepAims_57 rfl (lv_at hl 0 rfl) ?_
          refine va_iald hx hb hK hP 18 0 rfl rfl (vp_in_nI (n := 3) (N := 4) (by decide) (by decide)) dX0_keepAims_58 ?_
          have hb_61 := bN_11 3 (by omega)
          try dsimp only at hb_61
          refine lv_topi (fun x_62 ex_62 => ?_)
          obtain rfl : x_62 = nI ((alF F Hh So Wd Lm d n k0 0) 3) := ex_62.trans ((congrArg (F_52 18) (by decide : (3 : Int32).toNatClampNeg = 3)).trans (hN_57 3 (by omega)))
          refine lv_isub hx hb dX0_keepAims_59 ?_
          refine lv_topi (fun x_63 ex_63 => ?_)
          obtain rfl : x_63 = nI ((Lm 3) - ((alF F Hh So Wd Lm d n k0 0) 3)) := ex_63.trans (pk_sub (a := Lm 3) (b := (alF F Hh So Wd Lm d n k0 0) 3) (by omega))
          refine va_iast hx hb hK hP hD hS 20 0 rfl rfl (vp_in_nI (n := 3) (N := 4) (by decide) (by decide)) dX0_keepAims_60 (fun H locs hP hD hS => ?_)
          obtain ⟨F_64, eF_64⟩ : ∃ z : Nat → Nat → Int32, z = va_up F_52 20 (upd (F_52 20) (3 : Int32).toNatClampNeg (nI ((Lm 3) - ((alF F Hh So Wd Lm d n k0 0) 3)))) := ⟨_, rfl⟩
          have hP : va_P (dC, dI) vwCl (wC cI cZ h F_64 (va_up V 3 (nI n))) H := by rw [eF_64]; exact hP
          have hD : va_D A (wC cI cZ h F_64 (va_up V 3 (nI n))) := by rw [eF_64]; exact hD
          have hN_65 : ∀ i, i < 40 → F_64 9 i = nI (So i) := by rw [eF_64]; exact hN_53
          have hN_66 : ∀ i, i < 24 → F_64 12 i = nI (Hh i) := by rw [eF_64]; exact hN_54
          have hN_67 : ∀ i, i < 24 → F_64 13 i = nI (Wd i) := by rw [eF_64]; exact hN_55
          have hN_68 : ∀ i, i < 4 → F_64 14 i = nI (Lm i) := by rw [eF_64]; exact hN_56
          have hN_69 : ∀ i, i < 4 → F_64 18 i = nI ((alF F Hh So Wd Lm d n k0 0) i) := by rw [eF_64]; exact hN_57
          refine lv_iinc (v := 4) (lv' := [(3, .int 4), (2, .int (nI (ahF F Hh So Wd Lm d n k0 0))), (0, .ref (h 2)), (1, .int (nI k0))]) hx hb dX0_keepAims_61 hl (k := 0) rfl (by decide) (by decide) rfl (fun ls hl => ?_)
          refine lv_goto (tgt := 37) hx hb dX0_keepAims_64 (by decide) ?_
          refine lv_iload_n hx hb dX0_keepAims_37 rfl (lv_at hl 0 rfl) ?_
          refine lv_iconst (v := 4) hx hb dX0_keepAims_38 (by decide) ?_
          refine lv_icmp_ge (tgt := 67) hx hb dX0_keepAims_39 (by decide) (fun c_70 => ?_) (fun c_70 => ?_)
          · refine lv_iload_n hx hb dX0_keepAims_67 rfl (lv_at hl 1 rfl) ?_
            exact hret (nI (ahF F Hh So Wd Lm d n k0 0)) F_64 H locs 68 ls rfl dX0_keepAims_68 (by
                        refine ⟨rfl, fun j hj => ((va_ne eF_64 (fun h => hj (by rw [h]; decide))).trans ((va_ne eF_52 (fun h => hj (by rw [h]; decide))).trans ((va_ne eF_40 (fun h => hj (by rw [h]; decide))).trans ((va_ne eF_28 (fun h => hj (by rw [h]; decide))).trans ((va_ne eF_16 (fun h => hj (by rw [h]; decide))).trans (hf_5 j (fun h => hj ((by decide : ∀ x ∈ ([15, 16, 17, 18] : List Nat), x ∈ ([15, 16, 17, 18, 19, 20] : List Nat)) j h)))))))), ?_, ?_⟩
                        · intro i hi
                          rw [eF_64, eF_52, eF_40, eF_28]
                          match i, hi with
                          | 0, _ => rfl
                          | 1, _ => rfl
                          | 2, _ => rfl
                          | 3, _ => rfl
                          | i + 4, hi => exact absurd hi (by omega)
                        · intro i hi
                          have q : F_64 19 = F_16 19 := by rw [eF_64, eF_52, eF_40, eF_28]; rfl
                          rw [q, eF_16]
                          show va_cpy (F_4 17) _ _ _ _ i = _
                          rw [nI_clamp (by omega), cpy0 (by decide) (by decide) rfl hi, hw_3.2.2.2.2]) (hP) (hD) hS
          · exact absurd c_70 (by decide)
end
