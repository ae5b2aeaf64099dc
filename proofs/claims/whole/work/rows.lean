section
-- ===== PART A: goes FIRST, ahead of the names: the tables' words, and 'selects' of the private methods out of them =====
/-- a private method of a class that the tables say can be made, by its rows of tables_1 -/
def lw_okq (q : MethodName × Nat) : Prop := (q.1.cls ≠ "java/lang/invoke/MethodHandle" ∧ q.1.cls ≠ "java/lang/invoke/VarHandle") ∧ Cond.instantiable q.1.cls q.2 ∈ tables_1 ∧ Cond.privateMethod q.1 ∈ tables_1 ∧ Cond.instanceMethod q.1 ∈ tables_1
theorem lw_p0 : lw_okq (⟨"UndoStore", "mustWait", "(III)Z"⟩, 7) := ⟨⟨by decide +kernel, by decide +kernel⟩, List.mem_of_getElem? (i := 13) (by decide +kernel), List.mem_of_getElem? (i := 205) (by decide +kernel), List.mem_of_getElem? (i := 206) (by decide +kernel)⟩
theorem lw_p1 : lw_okq (⟨"UndoStore", "leastInTheWay", "(III)I"⟩, 7) := ⟨⟨by decide +kernel, by decide +kernel⟩, List.mem_of_getElem? (i := 13) (by decide +kernel), List.mem_of_getElem? (i := 209) (by decide +kernel), List.mem_of_getElem? (i := 210) (by decide +kernel)⟩
theorem lw_p2 : lw_okq (⟨"UndoStore$Holds", "isInTheWay", "(III[Z)Z"⟩, 4) := ⟨⟨by decide +kernel, by decide +kernel⟩, List.mem_of_getElem? (i := 86) (by decide +kernel), List.mem_of_getElem? (i := 225) (by decide +kernel), List.mem_of_getElem? (i := 226) (by decide +kernel)⟩
theorem lw_p3 : lw_okq (⟨"UndoStore$Holds", "find", "(II)I"⟩, 4) := ⟨⟨by decide +kernel, by decide +kernel⟩, List.mem_of_getElem? (i := 86) (by decide +kernel), List.mem_of_getElem? (i := 242) (by decide +kernel), List.mem_of_getElem? (i := 243) (by decide +kernel)⟩
theorem lw_p4 : lw_okq (⟨"UndoStore", "valueSeen", "(II)J"⟩, 7) := ⟨⟨by decide +kernel, by decide +kernel⟩, List.mem_of_getElem? (i := 13) (by decide +kernel), List.mem_of_getElem? (i := 249) (by decide +kernel), List.mem_of_getElem? (i := 250) (by decide +kernel)⟩
theorem lw_p5 : lw_okq (⟨"UndoStore", "look", "(I)V"⟩, 7) := ⟨⟨by decide +kernel, by decide +kernel⟩, List.mem_of_getElem? (i := 13) (by decide +kernel), List.mem_of_getElem? (i := 255) (by decide +kernel), List.mem_of_getElem? (i := 256) (by decide +kernel)⟩
theorem lw_p6 : lw_okq (⟨"UndoStore", "change", "(IIIZ)I"⟩, 7) := ⟨⟨by decide +kernel, by decide +kernel⟩, List.mem_of_getElem? (i := 13) (by decide +kernel), List.mem_of_getElem? (i := 279) (by decide +kernel), List.mem_of_getElem? (i := 280) (by decide +kernel)⟩
theorem lw_p7 : lw_okq (⟨"UndoStore", "canEndOrGoBack", "(I)Z"⟩, 7) := ⟨⟨by decide +kernel, by decide +kernel⟩, List.mem_of_getElem? (i := 13) (by decide +kernel), List.mem_of_getElem? (i := 320) (by decide +kernel), List.mem_of_getElem? (i := 321) (by decide +kernel)⟩
theorem lw_p8 : lw_okq (⟨"UndoStore$Writes", "findOwn", "(I[I)V"⟩, 8) := ⟨⟨by decide +kernel, by decide +kernel⟩, List.mem_of_getElem? (i := 55) (by decide +kernel), List.mem_of_getElem? (i := 344) (by decide +kernel), List.mem_of_getElem? (i := 345) (by decide +kernel)⟩
theorem lw_p9 : lw_okq (⟨"UndoStore$Writes", "dropFrom", "(II)V"⟩, 8) := ⟨⟨by decide +kernel, by decide +kernel⟩, List.mem_of_getElem? (i := 55) (by decide +kernel), List.mem_of_getElem? (i := 348) (by decide +kernel), List.mem_of_getElem? (i := 349) (by decide +kernel)⟩
theorem lw_p10 : lw_okq (⟨"UndoStore$Writes", "sayTheSame", "(II)Z"⟩, 8) := ⟨⟨by decide +kernel, by decide +kernel⟩, List.mem_of_getElem? (i := 55) (by decide +kernel), List.mem_of_getElem? (i := 352) (by decide +kernel), List.mem_of_getElem? (i := 353) (by decide +kernel)⟩
theorem lw_p11 : lw_okq (⟨"UndoStore", "end", "(II)V"⟩, 7) := ⟨⟨by decide +kernel, by decide +kernel⟩, List.mem_of_getElem? (i := 13) (by decide +kernel), List.mem_of_getElem? (i := 376) (by decide +kernel), List.mem_of_getElem? (i := 377) (by decide +kernel)⟩
theorem lw_p12 : lw_okq (⟨"UndoStore", "drawWaits", "()V"⟩, 7) := ⟨⟨by decide +kernel, by decide +kernel⟩, List.mem_of_getElem? (i := 13) (by decide +kernel), List.mem_of_getElem? (i := 460) (by decide +kernel), List.mem_of_getElem? (i := 461) (by decide +kernel)⟩
theorem lw_p13 : lw_okq (⟨"UndoStore$Reach", "joinAll", "(II)V"⟩, 1) := ⟨⟨by decide +kernel, by decide +kernel⟩, List.mem_of_getElem? (i := 131) (by decide +kernel), List.mem_of_getElem? (i := 489) (by decide +kernel), List.mem_of_getElem? (i := 490) (by decide +kernel)⟩
theorem lw_p14 : lw_okq (⟨"UndoStoreModel", "isActive", "(I)Z"⟩, 16) := ⟨⟨by decide +kernel, by decide +kernel⟩, List.mem_of_getElem? (i := 517) (by decide +kernel), List.mem_of_getElem? (i := 579) (by decide +kernel), List.mem_of_getElem? (i := 580) (by decide +kernel)⟩
theorem lw_p15 : lw_okq (⟨"UndoStoreModel", "find", "(I)I"⟩, 16) := ⟨⟨by decide +kernel, by decide +kernel⟩, List.mem_of_getElem? (i := 517) (by decide +kernel), List.mem_of_getElem? (i := 587) (by decide +kernel), List.mem_of_getElem? (i := 588) (by decide +kernel)⟩
def lw_privs_1 : List (MethodName × Nat) := [(⟨"UndoStore", "mustWait", "(III)Z"⟩, 7), (⟨"UndoStore", "leastInTheWay", "(III)I"⟩, 7), (⟨"UndoStore$Holds", "isInTheWay", "(III[Z)Z"⟩, 4), (⟨"UndoStore$Holds", "find", "(II)I"⟩, 4), (⟨"UndoStore", "valueSeen", "(II)J"⟩, 7), (⟨"UndoStore", "look", "(I)V"⟩, 7), (⟨"UndoStore", "change", "(IIIZ)I"⟩, 7), (⟨"UndoStore", "canEndOrGoBack", "(I)Z"⟩, 7), (⟨"UndoStore$Writes", "findOwn", "(I[I)V"⟩, 8), (⟨"UndoStore$Writes", "dropFrom", "(II)V"⟩, 8), (⟨"UndoStore$Writes", "sayTheSame", "(II)Z"⟩, 8), (⟨"UndoStore", "end", "(II)V"⟩, 7), (⟨"UndoStore", "drawWaits", "()V"⟩, 7), (⟨"UndoStore$Reach", "joinAll", "(II)V"⟩, 1), (⟨"UndoStoreModel", "isActive", "(I)Z"⟩, 16), (⟨"UndoStoreModel", "find", "(I)I"⟩, 16)]
theorem lw_r1 : ∀ q ∈ lw_privs_1, lw_okq q := List.forall_mem_cons.mpr ⟨lw_p0, List.forall_mem_cons.mpr ⟨lw_p1, List.forall_mem_cons.mpr ⟨lw_p2, List.forall_mem_cons.mpr ⟨lw_p3, List.forall_mem_cons.mpr ⟨lw_p4, List.forall_mem_cons.mpr ⟨lw_p5, List.forall_mem_cons.mpr ⟨lw_p6, List.forall_mem_cons.mpr ⟨lw_p7, List.forall_mem_cons.mpr ⟨lw_p8, List.forall_mem_cons.mpr ⟨lw_p9, List.forall_mem_cons.mpr ⟨lw_p10, List.forall_mem_cons.mpr ⟨lw_p11, List.forall_mem_cons.mpr ⟨lw_p12, List.forall_mem_cons.mpr ⟨lw_p13, List.forall_mem_cons.mpr ⟨lw_p14, List.forall_mem_cons.mpr ⟨lw_p15, fun _ h => absurd h List.not_mem_nil⟩⟩⟩⟩⟩⟩⟩⟩⟩⟩⟩⟩⟩⟩⟩⟩
theorem lw_p16 : lw_okq (⟨"UndoStoreModel", "number", "(I)I"⟩, 16) := ⟨⟨by decide +kernel, by decide +kernel⟩, List.mem_of_getElem? (i := 517) (by decide +kernel), List.mem_of_getElem? (i := 593) (by decide +kernel), List.mem_of_getElem? (i := 594) (by decide +kernel)⟩
theorem lw_p17 : lw_okq (⟨"UndoStoreModel", "mayDo", "(IIZ)Z"⟩, 16) := ⟨⟨by decide +kernel, by decide +kernel⟩, List.mem_of_getElem? (i := 517) (by decide +kernel), List.mem_of_getElem? (i := 597) (by decide +kernel), List.mem_of_getElem? (i := 598) (by decide +kernel)⟩
theorem lw_p18 : lw_okq (⟨"UndoStoreModel", "first", "(IIZ)I"⟩, 16) := ⟨⟨by decide +kernel, by decide +kernel⟩, List.mem_of_getElem? (i := 517) (by decide +kernel), List.mem_of_getElem? (i := 601) (by decide +kernel), List.mem_of_getElem? (i := 602) (by decide +kernel)⟩
theorem lw_p19 : lw_okq (⟨"UndoStoreModel", "isInWay", "(IIIZ)Z"⟩, 16) := ⟨⟨by decide +kernel, by decide +kernel⟩, List.mem_of_getElem? (i := 517) (by decide +kernel), List.mem_of_getElem? (i := 605) (by decide +kernel), List.mem_of_getElem? (i := 606) (by decide +kernel)⟩
theorem lw_p20 : lw_okq (⟨"UndoStoreModel", "isAncestor", "(II)Z"⟩, 16) := ⟨⟨by decide +kernel, by decide +kernel⟩, List.mem_of_getElem? (i := 517) (by decide +kernel), List.mem_of_getElem? (i := 609) (by decide +kernel), List.mem_of_getElem? (i := 610) (by decide +kernel)⟩
theorem lw_p21 : lw_okq (⟨"UndoStoreModel", "source", "(II)I"⟩, 16) := ⟨⟨by decide +kernel, by decide +kernel⟩, List.mem_of_getElem? (i := 517) (by decide +kernel), List.mem_of_getElem? (i := 614) (by decide +kernel), List.mem_of_getElem? (i := 615) (by decide +kernel)⟩
theorem lw_p22 : lw_okq (⟨"UndoStoreModel", "sees", "(II)Z"⟩, 16) := ⟨⟨by decide +kernel, by decide +kernel⟩, List.mem_of_getElem? (i := 517) (by decide +kernel), List.mem_of_getElem? (i := 622) (by decide +kernel), List.mem_of_getElem? (i := 623) (by decide +kernel)⟩
theorem lw_p23 : lw_okq (⟨"UndoStoreModel", "marksOf", "(I)I"⟩, 16) := ⟨⟨by decide +kernel, by decide +kernel⟩, List.mem_of_getElem? (i := 517) (by decide +kernel), List.mem_of_getElem? (i := 634) (by decide +kernel), List.mem_of_getElem? (i := 635) (by decide +kernel)⟩
theorem lw_p24 : lw_okq (⟨"UndoStoreModel", "children", "(I)I"⟩, 16) := ⟨⟨by decide +kernel, by decide +kernel⟩, List.mem_of_getElem? (i := 517) (by decide +kernel), List.mem_of_getElem? (i := 642) (by decide +kernel), List.mem_of_getElem? (i := 643) (by decide +kernel)⟩
theorem lw_p25 : lw_okq (⟨"UndoStoreModel", "restore", "(II)I"⟩, 16) := ⟨⟨by decide +kernel, by decide +kernel⟩, List.mem_of_getElem? (i := 517) (by decide +kernel), List.mem_of_getElem? (i := 646) (by decide +kernel), List.mem_of_getElem? (i := 647) (by decide +kernel)⟩
theorem lw_p26 : lw_okq (⟨"UndoStoreModel", "end", "(II)V"⟩, 16) := ⟨⟨by decide +kernel, by decide +kernel⟩, List.mem_of_getElem? (i := 517) (by decide +kernel), List.mem_of_getElem? (i := 654) (by decide +kernel), List.mem_of_getElem? (i := 655) (by decide +kernel)⟩
theorem lw_p27 : lw_okq (⟨"UndoStoreModel", "reach", "(I)V"⟩, 16) := ⟨⟨by decide +kernel, by decide +kernel⟩, List.mem_of_getElem? (i := 517) (by decide +kernel), List.mem_of_getElem? (i := 686) (by decide +kernel), List.mem_of_getElem? (i := 687) (by decide +kernel)⟩
theorem lw_p28 : lw_okq (⟨"UndoStoreModel", "isThere", "(I)Z"⟩, 16) := ⟨⟨by decide +kernel, by decide +kernel⟩, List.mem_of_getElem? (i := 517) (by decide +kernel), List.mem_of_getElem? (i := 694) (by decide +kernel), List.mem_of_getElem? (i := 695) (by decide +kernel)⟩
def lw_privs_2 : List (MethodName × Nat) := [(⟨"UndoStoreModel", "number", "(I)I"⟩, 16), (⟨"UndoStoreModel", "mayDo", "(IIZ)Z"⟩, 16), (⟨"UndoStoreModel", "first", "(IIZ)I"⟩, 16), (⟨"UndoStoreModel", "isInWay", "(IIIZ)Z"⟩, 16), (⟨"UndoStoreModel", "isAncestor", "(II)Z"⟩, 16), (⟨"UndoStoreModel", "source", "(II)I"⟩, 16), (⟨"UndoStoreModel", "sees", "(II)Z"⟩, 16), (⟨"UndoStoreModel", "marksOf", "(I)I"⟩, 16), (⟨"UndoStoreModel", "children", "(I)I"⟩, 16), (⟨"UndoStoreModel", "restore", "(II)I"⟩, 16), (⟨"UndoStoreModel", "end", "(II)V"⟩, 16), (⟨"UndoStoreModel", "reach", "(I)V"⟩, 16), (⟨"UndoStoreModel", "isThere", "(I)Z"⟩, 16)]
theorem lw_r2 : ∀ q ∈ lw_privs_2, lw_okq q := List.forall_mem_cons.mpr ⟨lw_p16, List.forall_mem_cons.mpr ⟨lw_p17, List.forall_mem_cons.mpr ⟨lw_p18, List.forall_mem_cons.mpr ⟨lw_p19, List.forall_mem_cons.mpr ⟨lw_p20, List.forall_mem_cons.mpr ⟨lw_p21, List.forall_mem_cons.mpr ⟨lw_p22, List.forall_mem_cons.mpr ⟨lw_p23, List.forall_mem_cons.mpr ⟨lw_p24, List.forall_mem_cons.mpr ⟨lw_p25, List.forall_mem_cons.mpr ⟨lw_p26, List.forall_mem_cons.mpr ⟨lw_p27, List.forall_mem_cons.mpr ⟨lw_p28, fun _ h => absurd h List.not_mem_nil⟩⟩⟩⟩⟩⟩⟩⟩⟩⟩⟩⟩⟩
def lw_privs : List (MethodName × Nat) := lw_privs_1 ++ (lw_privs_2)
def lw_tbl : List Cond := k2_sels lw_privs ++ tables_1
theorem lw_privs_ok : ∀ q ∈ lw_privs, lw_okq q := by
  show ∀ q ∈ lw_privs_1 ++ (lw_privs_2), lw_okq q
  exact List.forall_mem_append.mpr ⟨lw_r1, lw_r2⟩
-- ===== end of PART A; then your names; then what follows =====
end
section
/-! ===== BEGIN words of one list among another's, by their places ===== -/
theorem goodIn_r {big : List Cond} (ws : List Cond) (ps : List Nat) (hp : ws = ps.filterMap (fun i => big[i]?)) (h : ws.all goodWord = true) : GoodIn big ws := by
  intro w hw
  have h1 := List.all_eq_true.mp h w hw
  rw [hp] at hw
  obtain ⟨i, -, hi⟩ := List.mem_filterMap.mp hw
  have hm : w ∈ big := by first | exact List.mem_of_getElem? hi | exact List.getElem?_mem hi
  exact ⟨hm, good_of_word h1⟩
theorem goodIn_app {big a b : List Cond} (ha : GoodIn big a) (hb : GoodIn big b) : GoodIn big (a ++ b) := fun w h => (List.mem_append.mp h).elim (ha w) (hb w)
theorem goodIn_ca {big a b : List Cond} {c : Cond} (ha : GoodIn big (c :: a)) (hb : GoodIn big b) : GoodIn big (c :: (a ++ b)) := fun w h => (List.mem_cons.mp h).elim (fun e => ha w (List.mem_cons.mpr (Or.inl e))) (fun h => (List.mem_append.mp h).elim (fun h => ha w (List.mem_cons.mpr (Or.inr h))) (hb w))
theorem goodIn_sub {big ws : List Cond} (hm : ∀ w ∈ ws, w ∈ big) (h : ws.all goodWord = true) : GoodIn big ws := fun w hw => ⟨hm w hw, good_of_word (List.all_eq_true.mp h w hw)⟩
/-! ===== END ===== -/

/-! ===== BEGIN printed: names, fields, word lists, decode rows ===== -/
def RX0 : String := "UndoStore$Family"
def TX0 : u_T := fun k => match k with
  | 0 => ("UndoStore$Family", "parents", "[I", true)
  | 1 => ("UndoStore$Family", "states", "[I", true)
  | 2 => ("UndoStore$Family", "line", "[Z", true)
  | _ => ("UndoStore$Family", "opened", "I", false)
def tyX0 : Nat → FieldType := fun k => match k with
  | 0 => .array .int
  | 1 => .array .int
  | 2 => .array .boolean
  | _ => .int
abbrev wsX00 : List Cond := u_ws RX0 TX0 4
theorem nmX0 : ∀ a, a < 4 → ∀ b, b < 4 → a ≠ b → (TX0 a).2.1 ≠ (TX0 b).2.1 := by decide +kernel
theorem tyX0_ok : ∀ k, k < 4 → parseFieldDescriptor (TX0 k).2.2.1 = some (tyX0 k) := by decide +kernel
abbrev cX0_init : ByteArray := prog_2_method_1_code
def yX0_init : MethodName := ⟨RX0, "<init>", "()V"⟩
abbrev cX0_opened : ByteArray := prog_2_method_2_code
def yX0_opened : MethodName := ⟨RX0, "opened", "()I"⟩
abbrev cX0_isFull : ByteArray := prog_2_method_3_code
def yX0_isFull : MethodName := ⟨RX0, "isFull", "()Z"⟩
abbrev cX0_exists : ByteArray := prog_2_method_4_code
def yX0_exists : MethodName := ⟨RX0, "exists", "(I)Z"⟩
abbrev cX0_isActive : ByteArray := prog_2_method_5_code
def yX0_isActive : MethodName := ⟨RX0, "isActive", "(I)Z"⟩
abbrev cX0_canBeAsked : ByteArray := prog_2_method_6_code
def yX0_canBeAsked : MethodName := ⟨RX0, "canBeAsked", "(I)Z"⟩
abbrev cX0_parentOf : ByteArray := prog_2_method_7_code
def yX0_parentOf : MethodName := ⟨RX0, "parentOf", "(I)I"⟩
abbrev cX0_stateOf : ByteArray := prog_2_method_8_code
def yX0_stateOf : MethodName := ⟨RX0, "stateOf", "(I)I"⟩
abbrev cX0_add : ByteArray := prog_2_method_9_code
def yX0_add : MethodName := ⟨RX0, "add", "(I)I"⟩
abbrev cX0_end : ByteArray := prog_2_method_10_code
def yX0_end : MethodName := ⟨RX0, "end", "(II)V"⟩
abbrev cX0_isLeftBehind : ByteArray := prog_2_method_11_code
def yX0_isLeftBehind : MethodName := ⟨RX0, "isLeftBehind", "(I)Z"⟩
abbrev cX0_activeChildrenOf : ByteArray := prog_2_method_12_code
def yX0_activeChildrenOf : MethodName := ⟨RX0, "activeChildrenOf", "(I)I"⟩
abbrev cX0_trace : ByteArray := prog_2_method_13_code
def yX0_trace : MethodName := ⟨RX0, "trace", "(I)V"⟩
abbrev cX0_line : ByteArray := prog_2_method_14_code
def yX0_line : MethodName := ⟨RX0, "line", "()[Z"⟩
def RX1 : String := "UndoStore$Holds"
def TX1 : u_T := fun k => match k with
  | 0 => ("UndoStore$Holds", "owners", "[I", true)
  | 1 => ("UndoStore$Holds", "slots", "[I", true)
  | 2 => ("UndoStore$Holds", "kinds", "[I", true)
  | _ => ("UndoStore$Holds", "count", "I", false)
def tyX1 : Nat → FieldType := fun k => match k with
  | 0 => .array .int
  | 1 => .array .int
  | 2 => .array .int
  | _ => .int
abbrev wsX10 : List Cond := u_ws RX1 TX1 4
theorem nmX1 : ∀ a, a < 4 → ∀ b, b < 4 → a ≠ b → (TX1 a).2.1 ≠ (TX1 b).2.1 := by decide +kernel
theorem tyX1_ok : ∀ k, k < 4 → parseFieldDescriptor (TX1 k).2.2.1 = some (tyX1 k) := by decide +kernel
abbrev cX1_init : ByteArray := prog_3_method_1_code
def yX1_init : MethodName := ⟨RX1, "<init>", "()V"⟩
abbrev cX1_isFull : ByteArray := prog_3_method_2_code
def yX1_isFull : MethodName := ⟨RX1, "isFull", "()Z"⟩
abbrev cX1_add : ByteArray := prog_3_method_3_code
def yX1_add : MethodName := ⟨RX1, "add", "(III)V"⟩
abbrev cX1_kindOf : ByteArray := prog_3_method_4_code
def yX1_kindOf : MethodName := ⟨RX1, "kindOf", "(II)I"⟩
abbrev cX1_countOf : ByteArray := prog_3_method_5_code
def yX1_countOf : MethodName := ⟨RX1, "countOf", "(II)I"⟩
abbrev cX1_handOver : ByteArray := prog_3_method_6_code
def yX1_handOver : MethodName := ⟨RX1, "handOver", "(II)V"⟩
abbrev cX1_drop : ByteArray := prog_3_method_7_code
def yX1_drop : MethodName := ⟨RX1, "drop", "(I)V"⟩
abbrev cX1_leastInTheWay : ByteArray := prog_3_method_8_code
def yX1_leastInTheWay : MethodName := ⟨RX1, "leastInTheWay", "(II[Z)I"⟩
abbrev cX1_drawInTheWay : ByteArray := prog_3_method_9_code
def yX1_drawInTheWay : MethodName := ⟨RX1, "drawInTheWay", "(ILUndoStore$Wishes;[ZLUndoStore$Reach;)V"⟩
abbrev cX1_isInTheWay : ByteArray := prog_3_method_10_code
def yX1_isInTheWay : MethodName := ⟨RX1, "isInTheWay", "(III[Z)Z"⟩
abbrev cX1_find : ByteArray := prog_3_method_11_code
def yX1_find : MethodName := ⟨RX1, "find", "(II)I"⟩
def RX2 : String := "UndoStore$Keys"
def TX2 : u_T := fun k => match k with
  | 0 => ("UndoStore$Keys", "known", "[I", true)
  | _ => ("UndoStore$Keys", "count", "I", false)
def tyX2 : Nat → FieldType := fun k => match k with
  | 0 => .array .int
  | _ => .int
abbrev wsX20 : List Cond := u_ws RX2 TX2 2
theorem nmX2 : ∀ a, a < 2 → ∀ b, b < 2 → a ≠ b → (TX2 a).2.1 ≠ (TX2 b).2.1 := by decide +kernel
theorem tyX2_ok : ∀ k, k < 2 → parseFieldDescriptor (TX2 k).2.2.1 = some (tyX2 k) := by decide +kernel
abbrev cX2_init : ByteArray := prog_4_method_1_code
def yX2_init : MethodName := ⟨RX2, "<init>", "()V"⟩
abbrev cX2_count : ByteArray := prog_4_method_2_code
def yX2_count : MethodName := ⟨RX2, "count", "()I"⟩
abbrev cX2_at : ByteArray := prog_4_method_3_code
def yX2_at : MethodName := ⟨RX2, "at", "(I)I"⟩
abbrev cX2_find : ByteArray := prog_4_method_4_code
def yX2_find : MethodName := ⟨RX2, "find", "(I)I"⟩
abbrev cX2_findOrAdd : ByteArray := prog_4_method_5_code
def yX2_findOrAdd : MethodName := ⟨RX2, "findOrAdd", "(I)I"⟩
def RX3 : String := "UndoStore$Marks"
def TX3 : u_T := fun k => match k with
  | 0 => ("UndoStore$Marks", "owners", "[I", true)
  | _ => ("UndoStore$Marks", "count", "I", false)
def tyX3 : Nat → FieldType := fun k => match k with
  | 0 => .array .int
  | _ => .int
abbrev wsX30 : List Cond := u_ws RX3 TX3 2
theorem nmX3 : ∀ a, a < 2 → ∀ b, b < 2 → a ≠ b → (TX3 a).2.1 ≠ (TX3 b).2.1 := by decide +kernel
theorem tyX3_ok : ∀ k, k < 2 → parseFieldDescriptor (TX3 k).2.2.1 = some (tyX3 k) := by decide +kernel
abbrev cX3_init : ByteArray := prog_5_method_1_code
def yX3_init : MethodName := ⟨RX3, "<init>", "()V"⟩
abbrev cX3_isFull : ByteArray := prog_5_method_2_code
def yX3_isFull : MethodName := ⟨RX3, "isFull", "()Z"⟩
abbrev cX3_now : ByteArray := prog_5_method_3_code
def yX3_now : MethodName := ⟨RX3, "now", "()I"⟩
abbrev cX3_timeOf : ByteArray := prog_5_method_4_code
def yX3_timeOf : MethodName := ⟨RX3, "timeOf", "(I)I"⟩
abbrev cX3_add : ByteArray := prog_5_method_5_code
def yX3_add : MethodName := ⟨RX3, "add", "(I)I"⟩
abbrev cX3_countOf : ByteArray := prog_5_method_6_code
def yX3_countOf : MethodName := ⟨RX3, "countOf", "(I)I"⟩
abbrev cX3_find : ByteArray := prog_5_method_7_code
def yX3_find : MethodName := ⟨RX3, "find", "(II)I"⟩
abbrev cX3_dropAfter : ByteArray := prog_5_method_8_code
def yX3_dropAfter : MethodName := ⟨RX3, "dropAfter", "(II)V"⟩
abbrev cX3_drop : ByteArray := prog_5_method_9_code
def yX3_drop : MethodName := ⟨RX3, "drop", "(I)V"⟩
def RX4 : String := "UndoStore$Reach"
def TX4 : u_T := fun k => match k with
  | _ => ("UndoStore$Reach", "bits", "[J", true)
def tyX4 : Nat → FieldType := fun k => match k with
  | _ => .array .long
abbrev wsX40 : List Cond := u_ws RX4 TX4 1
theorem nmX4 : ∀ a, a < 1 → ∀ b, b < 1 → a ≠ b → (TX4 a).2.1 ≠ (TX4 b).2.1 := by decide +kernel
theorem tyX4_ok : ∀ k, k < 1 → parseFieldDescriptor (TX4 k).2.2.1 = some (tyX4 k) := by decide +kernel
abbrev cX4_init : ByteArray := prog_6_method_1_code
def yX4_init : MethodName := ⟨RX4, "<init>", "()V"⟩
abbrev cX4_clear : ByteArray := prog_6_method_2_code
def yX4_clear : MethodName := ⟨RX4, "clear", "()V"⟩
abbrev cX4_join : ByteArray := prog_6_method_3_code
def yX4_join : MethodName := ⟨RX4, "join", "(II)V"⟩
abbrev cX4_leads : ByteArray := prog_6_method_4_code
def yX4_leads : MethodName := ⟨RX4, "leads", "(II)Z"⟩
abbrev cX4_close : ByteArray := prog_6_method_5_code
def yX4_close : MethodName := ⟨RX4, "close", "(I)V"⟩
abbrev cX4_joinAll : ByteArray := prog_6_method_6_code
def yX4_joinAll : MethodName := ⟨RX4, "joinAll", "(II)V"⟩
def RX5 : String := "UndoStore$Wishes"
def TX5 : u_T := fun k => match k with
  | 0 => ("UndoStore$Wishes", "slots", "[I", true)
  | _ => ("UndoStore$Wishes", "kinds", "[I", true)
def tyX5 : Nat → FieldType := fun k => match k with
  | 0 => .array .int
  | _ => .array .int
abbrev wsX50 : List Cond := u_ws RX5 TX5 2
theorem nmX5 : ∀ a, a < 2 → ∀ b, b < 2 → a ≠ b → (TX5 a).2.1 ≠ (TX5 b).2.1 := by decide +kernel
theorem tyX5_ok : ∀ k, k < 2 → parseFieldDescriptor (TX5 k).2.2.1 = some (tyX5 k) := by decide +kernel
abbrev cX5_init : ByteArray := prog_7_method_1_code
def yX5_init : MethodName := ⟨RX5, "<init>", "()V"⟩
abbrev cX5_has : ByteArray := prog_7_method_2_code
def yX5_has : MethodName := ⟨RX5, "has", "(I)Z"⟩
abbrev cX5_slotOf : ByteArray := prog_7_method_3_code
def yX5_slotOf : MethodName := ⟨RX5, "slotOf", "(I)I"⟩
abbrev cX5_kindOf : ByteArray := prog_7_method_4_code
def yX5_kindOf : MethodName := ⟨RX5, "kindOf", "(I)I"⟩
abbrev cX5_set : ByteArray := prog_7_method_5_code
def yX5_set : MethodName := ⟨RX5, "set", "(III)V"⟩
abbrev cX5_clear : ByteArray := prog_7_method_6_code
def yX5_clear : MethodName := ⟨RX5, "clear", "(I)V"⟩
def RX6 : String := "UndoStore$Writes"
def TX6 : u_T := fun k => match k with
  | 0 => ("UndoStore$Writes", "owners", "[I", true)
  | 1 => ("UndoStore$Writes", "slots", "[I", true)
  | 2 => ("UndoStore$Writes", "values", "[I", true)
  | 3 => ("UndoStore$Writes", "away", "[Z", true)
  | 4 => ("UndoStore$Writes", "times", "[I", true)
  | 5 => ("UndoStore$Writes", "count", "I", false)
  | 6 => ("UndoStore$Writes", "found", "[I", true)
  | _ => ("UndoStore$Writes", "earlier", "[I", true)
def tyX6 : Nat → FieldType := fun k => match k with
  | 0 => .array .int
  | 1 => .array .int
  | 2 => .array .int
  | 3 => .array .boolean
  | 4 => .array .int
  | 5 => .int
  | 6 => .array .int
  | _ => .array .int
abbrev wsX60 : List Cond := u_ws RX6 TX6 8
theorem nmX6 : ∀ a, a < 8 → ∀ b, b < 8 → a ≠ b → (TX6 a).2.1 ≠ (TX6 b).2.1 := by decide +kernel
theorem tyX6_ok : ∀ k, k < 8 → parseFieldDescriptor (TX6 k).2.2.1 = some (tyX6 k) := by decide +kernel
abbrev cX6_init : ByteArray := prog_8_method_1_code
def yX6_init : MethodName := ⟨RX6, "<init>", "()V"⟩
abbrev cX6_isFull : ByteArray := prog_8_method_2_code
def yX6_isFull : MethodName := ⟨RX6, "isFull", "()Z"⟩
abbrev cX6_add : ByteArray := prog_8_method_3_code
def yX6_add : MethodName := ⟨RX6, "add", "(IIIZI)V"⟩
abbrev cX6_findSeen : ByteArray := prog_8_method_4_code
def yX6_findSeen : MethodName := ⟨RX6, "findSeen", "([Z)V"⟩
abbrev cX6_hasFound : ByteArray := prog_8_method_5_code
def yX6_hasFound : MethodName := ⟨RX6, "hasFound", "(I)Z"⟩
abbrev cX6_valueFound : ByteArray := prog_8_method_6_code
def yX6_valueFound : MethodName := ⟨RX6, "valueFound", "(I)J"⟩
abbrev cX6_keysOf : ByteArray := prog_8_method_7_code
def yX6_keysOf : MethodName := ⟨RX6, "keysOf", "(I)I"⟩
abbrev cX6_undo : ByteArray := prog_8_method_8_code
def yX6_undo : MethodName := ⟨RX6, "undo", "(II)I"⟩
abbrev cX6_handOver : ByteArray := prog_8_method_9_code
def yX6_handOver : MethodName := ⟨RX6, "handOver", "(III)V"⟩
abbrev cX6_drop : ByteArray := prog_8_method_10_code
def yX6_drop : MethodName := ⟨RX6, "drop", "(I)V"⟩
abbrev cX6_dropFrom : ByteArray := prog_8_method_11_code
def yX6_dropFrom : MethodName := ⟨RX6, "dropFrom", "(II)V"⟩
abbrev cX6_findOwn : ByteArray := prog_8_method_12_code
def yX6_findOwn : MethodName := ⟨RX6, "findOwn", "(I[I)V"⟩
abbrev cX6_sayTheSame : ByteArray := prog_8_method_13_code
def yX6_sayTheSame : MethodName := ⟨RX6, "sayTheSame", "(II)Z"⟩
def RX7 : String := "UndoStore"
def TX7 : u_T := fun k => match k with
  | 0 => ("UndoStore", "family", "LUndoStore$Family;", true)
  | 1 => ("UndoStore", "keys", "LUndoStore$Keys;", true)
  | 2 => ("UndoStore", "writes", "LUndoStore$Writes;", true)
  | 3 => ("UndoStore", "holds", "LUndoStore$Holds;", true)
  | 4 => ("UndoStore", "marks", "LUndoStore$Marks;", true)
  | 5 => ("UndoStore", "wishes", "LUndoStore$Wishes;", true)
  | _ => ("UndoStore", "reach", "LUndoStore$Reach;", true)
def tyX7 : Nat → FieldType := fun k => match k with
  | 0 => .object "UndoStore$Family"
  | 1 => .object "UndoStore$Keys"
  | 2 => .object "UndoStore$Writes"
  | 3 => .object "UndoStore$Holds"
  | 4 => .object "UndoStore$Marks"
  | 5 => .object "UndoStore$Wishes"
  | _ => .object "UndoStore$Reach"
abbrev wsX70 : List Cond := u_ws RX7 TX7 7
theorem nmX7 : ∀ a, a < 7 → ∀ b, b < 7 → a ≠ b → (TX7 a).2.1 ≠ (TX7 b).2.1 := by decide +kernel
theorem tyX7_ok : ∀ k, k < 7 → parseFieldDescriptor (TX7 k).2.2.1 = some (tyX7 k) := by decide +kernel
abbrev cX7_init : ByteArray := prog_1_method_1_code
def yX7_init : MethodName := ⟨RX7, "<init>", "()V"⟩
abbrev cX7_open : ByteArray := prog_1_method_2_code
def yX7_open : MethodName := ⟨RX7, "open", "(I)I"⟩
abbrev cX7_get : ByteArray := prog_1_method_3_code
def yX7_get : MethodName := ⟨RX7, "get", "(II)J"⟩
abbrev cX7_put : ByteArray := prog_1_method_4_code
def yX7_put : MethodName := ⟨RX7, "put", "(III)I"⟩
abbrev cX7_take : ByteArray := prog_1_method_5_code
def yX7_take : MethodName := ⟨RX7, "take", "(II)I"⟩
abbrev cX7_mark : ByteArray := prog_1_method_6_code
def yX7_mark : MethodName := ⟨RX7, "mark", "(I)I"⟩
abbrev cX7_back : ByteArray := prog_1_method_7_code
def yX7_back : MethodName := ⟨RX7, "back", "(II)I"⟩
abbrev cX7_commit : ByteArray := prog_1_method_8_code
def yX7_commit : MethodName := ⟨RX7, "commit", "(I)I"⟩
abbrev cX7_abort : ByteArray := prog_1_method_9_code
def yX7_abort : MethodName := ⟨RX7, "abort", "(I)I"⟩
abbrev cX7_state : ByteArray := prog_1_method_10_code
def yX7_state : MethodName := ⟨RX7, "state", "(I)I"⟩
abbrev cX7_told : ByteArray := prog_1_method_11_code
def yX7_told : MethodName := ⟨RX7, "told", "(II)I"⟩
abbrev cX7_held : ByteArray := prog_1_method_12_code
def yX7_held : MethodName := ⟨RX7, "held", "(II)I"⟩
abbrev cX7_blocker : ByteArray := prog_1_method_13_code
def yX7_blocker : MethodName := ⟨RX7, "blocker", "(IIZ)I"⟩
abbrev cX7_waits : ByteArray := prog_1_method_14_code
def yX7_waits : MethodName := ⟨RX7, "waits", "(I)I"⟩
abbrev cX7_ring : ByteArray := prog_1_method_15_code
def yX7_ring : MethodName := ⟨RX7, "ring", "()I"⟩
abbrev cX7_size : ByteArray := prog_1_method_16_code
def yX7_size : MethodName := ⟨RX7, "size", "(I)I"⟩
abbrev cX7_next : ByteArray := prog_1_method_17_code
def yX7_next : MethodName := ⟨RX7, "next", "(II)J"⟩
abbrev cX7_sum : ByteArray := prog_1_method_18_code
def yX7_sum : MethodName := ⟨RX7, "sum", "(III)J"⟩
abbrev cX7_change : ByteArray := prog_1_method_19_code
def yX7_change : MethodName := ⟨RX7, "change", "(IIIZ)I"⟩
abbrev cX7_mustWait : ByteArray := prog_1_method_20_code
def yX7_mustWait : MethodName := ⟨RX7, "mustWait", "(III)Z"⟩
abbrev cX7_leastInTheWay : ByteArray := prog_1_method_21_code
def yX7_leastInTheWay : MethodName := ⟨RX7, "leastInTheWay", "(III)I"⟩
abbrev cX7_valueSeen : ByteArray := prog_1_method_22_code
def yX7_valueSeen : MethodName := ⟨RX7, "valueSeen", "(II)J"⟩
abbrev cX7_look : ByteArray := prog_1_method_23_code
def yX7_look : MethodName := ⟨RX7, "look", "(I)V"⟩
abbrev cX7_canEndOrGoBack : ByteArray := prog_1_method_24_code
def yX7_canEndOrGoBack : MethodName := ⟨RX7, "canEndOrGoBack", "(I)Z"⟩
abbrev cX7_end : ByteArray := prog_1_method_25_code
def yX7_end : MethodName := ⟨RX7, "end", "(II)V"⟩
abbrev cX7_drawWaits : ByteArray := prog_1_method_26_code
def yX7_drawWaits : MethodName := ⟨RX7, "drawWaits", "()V"⟩
def RX8 : String := "UndoStoreModel"
def TX8 : u_T := fun k => match k with
  | 0 => ("UndoStoreModel", "keys", "[I", true)
  | 1 => ("UndoStoreModel", "keyCount", "I", false)
  | 2 => ("UndoStoreModel", "wrote", "[B", true)
  | 3 => ("UndoStoreModel", "values", "[I", true)
  | 4 => ("UndoStoreModel", "holds", "[B", true)
  | 5 => ("UndoStoreModel", "parents", "[I", true)
  | 6 => ("UndoStoreModel", "states", "[I", true)
  | 7 => ("UndoStoreModel", "opened", "I", false)
  | 8 => ("UndoStoreModel", "waitsFor", "[I", true)
  | 9 => ("UndoStoreModel", "wants", "[Z", true)
  | 10 => ("UndoStoreModel", "owners", "[I", true)
  | 11 => ("UndoStoreModel", "stands", "[Z", true)
  | 12 => ("UndoStoreModel", "oldWrote", "[B", true)
  | 13 => ("UndoStoreModel", "oldValues", "[I", true)
  | 14 => ("UndoStoreModel", "marks", "I", false)
  | _ => ("UndoStoreModel", "reached", "[Z", true)
def tyX8 : Nat → FieldType := fun k => match k with
  | 0 => .array .int
  | 1 => .int
  | 2 => .array .byte
  | 3 => .array .int
  | 4 => .array .byte
  | 5 => .array .int
  | 6 => .array .int
  | 7 => .int
  | 8 => .array .int
  | 9 => .array .boolean
  | 10 => .array .int
  | 11 => .array .boolean
  | 12 => .array .byte
  | 13 => .array .int
  | 14 => .int
  | _ => .array .boolean
abbrev wsX80 : List Cond := u_ws RX8 TX8 16
theorem nmX8 : ∀ a, a < 16 → ∀ b, b < 16 → a ≠ b → (TX8 a).2.1 ≠ (TX8 b).2.1 := by decide +kernel
theorem tyX8_ok : ∀ k, k < 16 → parseFieldDescriptor (TX8 k).2.2.1 = some (tyX8 k) := by decide +kernel
abbrev cX8_init : ByteArray := prog_10_method_1_code
def yX8_init : MethodName := ⟨RX8, "<init>", "()V"⟩
abbrev cX8_isActive : ByteArray := prog_10_method_2_code
def yX8_isActive : MethodName := ⟨RX8, "isActive", "(I)Z"⟩
abbrev cX8_find : ByteArray := prog_10_method_3_code
def yX8_find : MethodName := ⟨RX8, "find", "(I)I"⟩
abbrev cX8_number : ByteArray := prog_10_method_4_code
def yX8_number : MethodName := ⟨RX8, "number", "(I)I"⟩
abbrev cX8_source : ByteArray := prog_10_method_5_code
def yX8_source : MethodName := ⟨RX8, "source", "(II)I"⟩
abbrev cX8_sees : ByteArray := prog_10_method_6_code
def yX8_sees : MethodName := ⟨RX8, "sees", "(II)Z"⟩
abbrev cX8_isAncestor : ByteArray := prog_10_method_7_code
def yX8_isAncestor : MethodName := ⟨RX8, "isAncestor", "(II)Z"⟩
abbrev cX8_isInWay : ByteArray := prog_10_method_8_code
def yX8_isInWay : MethodName := ⟨RX8, "isInWay", "(IIIZ)Z"⟩
abbrev cX8_first : ByteArray := prog_10_method_9_code
def yX8_first : MethodName := ⟨RX8, "first", "(IIZ)I"⟩
abbrev cX8_mayDo : ByteArray := prog_10_method_10_code
def yX8_mayDo : MethodName := ⟨RX8, "mayDo", "(IIZ)Z"⟩
abbrev cX8_open : ByteArray := prog_10_method_11_code
def yX8_open : MethodName := ⟨RX8, "open", "(I)I"⟩
abbrev cX8_get : ByteArray := prog_10_method_12_code
def yX8_get : MethodName := ⟨RX8, "get", "(II)J"⟩
abbrev cX8_put : ByteArray := prog_10_method_13_code
def yX8_put : MethodName := ⟨RX8, "put", "(III)I"⟩
abbrev cX8_take : ByteArray := prog_10_method_14_code
def yX8_take : MethodName := ⟨RX8, "take", "(II)I"⟩
abbrev cX8_children : ByteArray := prog_10_method_15_code
def yX8_children : MethodName := ⟨RX8, "children", "(I)I"⟩
abbrev cX8_mark : ByteArray := prog_10_method_16_code
def yX8_mark : MethodName := ⟨RX8, "mark", "(I)I"⟩
abbrev cX8_marksOf : ByteArray := prog_10_method_17_code
def yX8_marksOf : MethodName := ⟨RX8, "marksOf", "(I)I"⟩
abbrev cX8_back : ByteArray := prog_10_method_18_code
def yX8_back : MethodName := ⟨RX8, "back", "(II)I"⟩
abbrev cX8_restore : ByteArray := prog_10_method_19_code
def yX8_restore : MethodName := ⟨RX8, "restore", "(II)I"⟩
abbrev cX8_end : ByteArray := prog_10_method_20_code
def yX8_end : MethodName := ⟨RX8, "end", "(II)V"⟩
abbrev cX8_commit : ByteArray := prog_10_method_21_code
def yX8_commit : MethodName := ⟨RX8, "commit", "(I)I"⟩
abbrev cX8_abort : ByteArray := prog_10_method_22_code
def yX8_abort : MethodName := ⟨RX8, "abort", "(I)I"⟩
abbrev cX8_state : ByteArray := prog_10_method_23_code
def yX8_state : MethodName := ⟨RX8, "state", "(I)I"⟩
abbrev cX8_told : ByteArray := prog_10_method_24_code
def yX8_told : MethodName := ⟨RX8, "told", "(II)I"⟩
abbrev cX8_held : ByteArray := prog_10_method_25_code
def yX8_held : MethodName := ⟨RX8, "held", "(II)I"⟩
abbrev cX8_blocker : ByteArray := prog_10_method_26_code
def yX8_blocker : MethodName := ⟨RX8, "blocker", "(IIZ)I"⟩
abbrev cX8_waits : ByteArray := prog_10_method_27_code
def yX8_waits : MethodName := ⟨RX8, "waits", "(I)I"⟩
abbrev cX8_ring : ByteArray := prog_10_method_28_code
def yX8_ring : MethodName := ⟨RX8, "ring", "()I"⟩
abbrev cX8_reach : ByteArray := prog_10_method_29_code
def yX8_reach : MethodName := ⟨RX8, "reach", "(I)V"⟩
abbrev cX8_isThere : ByteArray := prog_10_method_30_code
def yX8_isThere : MethodName := ⟨RX8, "isThere", "(I)Z"⟩
abbrev cX8_size : ByteArray := prog_10_method_31_code
def yX8_size : MethodName := ⟨RX8, "size", "(I)I"⟩
abbrev cX8_next : ByteArray := prog_10_method_32_code
def yX8_next : MethodName := ⟨RX8, "next", "(II)J"⟩
abbrev cX8_sum : ByteArray := prog_10_method_33_code
def yX8_sum : MethodName := ⟨RX8, "sum", "(III)J"⟩
def RJ9 : String := "java/lang/Math"
def TJ9 : u_T := fun k => match k with
  | _ => ("", "", "", false)
def tyJ9 : Nat → FieldType := fun k => match k with
  | _ => .int
abbrev wsJ90 : List Cond := u_ws RJ9 TJ9 0
theorem nmJ9 : ∀ a, a < 0 → ∀ b, b < 0 → a ≠ b → (TJ9 a).2.1 ≠ (TJ9 b).2.1 := by decide +kernel
theorem tyJ9_ok : ∀ k, k < 0 → parseFieldDescriptor (TJ9 k).2.2.1 = some (tyJ9 k) := by decide +kernel
abbrev cJ9_max_7cf53 : ByteArray := prog_11_method_65_code
def yJ9_max_7cf53 : MethodName := ⟨RJ9, "max", "(II)I"⟩
abbrev cJ9_min_f86c9 : ByteArray := prog_11_method_70_code
def yJ9_min_f86c9 : MethodName := ⟨RJ9, "min", "(JJ)J"⟩
def RJ7 : String := "java/util/Arrays"
def TJ7 : u_T := fun k => match k with
  | _ => ("", "", "", false)
def tyJ7 : Nat → FieldType := fun k => match k with
  | _ => .int
abbrev wsJ70 : List Cond := u_ws RJ7 TJ7 0
theorem nmJ7 : ∀ a, a < 0 → ∀ b, b < 0 → a ≠ b → (TJ7 a).2.1 ≠ (TJ7 b).2.1 := by decide +kernel
theorem tyJ7_ok : ∀ k, k < 0 → parseFieldDescriptor (TJ7 k).2.2.1 = some (tyJ7 k) := by decide +kernel
abbrev cJ7_fill_d0a16 : ByteArray := prog_12_method_101_code
def yJ7_fill_d0a16 : MethodName := ⟨RJ7, "fill", "([JJ)V"⟩
abbrev cJ7_fill_53178 : ByteArray := prog_12_method_103_code
def yJ7_fill_53178 : MethodName := ⟨RJ7, "fill", "([II)V"⟩
def RL : String := "UndoStoreLaw"
abbrev cL_law : ByteArray := code
def yL_law : MethodName := ⟨RL, "law", "([I)Z"⟩
def wsX0_init : List Cond := .code yX0_init cX0_init 1 none :: ([.methodLink RX0 3 objectInit, .instanceMethod objectInit, .code objectInit ⟨#[0xb1]⟩ 1 none, .arrayClass .int, .fieldLink RX0 9 "UndoStore$Family" "parents" "[I", .fieldLink RX0 15 "UndoStore$Family" "states" "[I", .arrayClass .boolean, .fieldLink RX0 18 "UndoStore$Family" "line" "[Z", .fieldLink RX0 22 "UndoStore$Family" "opened" "I"] ++ wsX00)
def wsX0_opened : List Cond := .code yX0_opened cX0_opened 1 (some .int) :: ([.fieldLink RX0 22 "UndoStore$Family" "opened" "I"] ++ wsX00)
def wsX0_isFull : List Cond := .code yX0_isFull cX0_isFull 1 (some .boolean) :: ([.fieldLink RX0 22 "UndoStore$Family" "opened" "I"] ++ wsX00)
def wsX0_exists : List Cond := .code yX0_exists cX0_exists 2 (some .boolean) :: ([.fieldLink RX0 22 "UndoStore$Family" "opened" "I"] ++ wsX00)
def wsX0_isActive : List Cond := .code yX0_isActive cX0_isActive 2 (some .boolean) :: ([.fieldLink RX0 15 "UndoStore$Family" "states" "[I", .methodLink RX0 26 yX0_exists, .instanceMethod yX0_exists, .selects RX0 yX0_exists yX0_exists, .initialized RX0, .code yX0_exists cX0_exists 2 (some .boolean), .fieldLink RX0 22 "UndoStore$Family" "opened" "I"] ++ wsX00)
def wsX0_canBeAsked : List Cond := .code yX0_canBeAsked cX0_canBeAsked 2 (some .boolean) :: ([.methodLink RX0 30 yX0_isActive, .instanceMethod yX0_isActive, .selects RX0 yX0_isActive yX0_isActive, .initialized RX0, .code yX0_isActive cX0_isActive 2 (some .boolean), .fieldLink RX0 15 "UndoStore$Family" "states" "[I", .methodLink RX0 26 yX0_exists, .instanceMethod yX0_exists, .selects RX0 yX0_exists yX0_exists, .code yX0_exists cX0_exists 2 (some .boolean), .fieldLink RX0 22 "UndoStore$Family" "opened" "I"] ++ wsX00)
def wsX0_parentOf : List Cond := .code yX0_parentOf cX0_parentOf 2 (some .int) :: ([.fieldLink RX0 9 "UndoStore$Family" "parents" "[I"] ++ wsX00)
def wsX0_stateOf : List Cond := .code yX0_stateOf cX0_stateOf 2 (some .int) :: ([.fieldLink RX0 15 "UndoStore$Family" "states" "[I"] ++ wsX00)
def wsX0_add : List Cond := .code yX0_add cX0_add 2 (some .int) :: ([.fieldLink RX0 22 "UndoStore$Family" "opened" "I", .fieldLink RX0 9 "UndoStore$Family" "parents" "[I", .fieldLink RX0 15 "UndoStore$Family" "states" "[I"] ++ wsX00)
def wsX0_end : List Cond := .code yX0_end cX0_end 3 none :: ([.fieldLink RX0 15 "UndoStore$Family" "states" "[I"] ++ wsX00)
def wsX0_isLeftBehind : List Cond := .code yX0_isLeftBehind cX0_isLeftBehind 2 (some .boolean) :: ([.fieldLink RX0 9 "UndoStore$Family" "parents" "[I", .methodLink RX0 30 yX0_isActive, .instanceMethod yX0_isActive, .selects RX0 yX0_isActive yX0_isActive, .initialized RX0, .code yX0_isActive cX0_isActive 2 (some .boolean), .fieldLink RX0 15 "UndoStore$Family" "states" "[I", .methodLink RX0 26 yX0_exists, .instanceMethod yX0_exists, .selects RX0 yX0_exists yX0_exists, .code yX0_exists cX0_exists 2 (some .boolean), .fieldLink RX0 22 "UndoStore$Family" "opened" "I", .methodLink RX0 33 yX0_canBeAsked, .instanceMethod yX0_canBeAsked, .selects RX0 yX0_canBeAsked yX0_canBeAsked, .code yX0_canBeAsked cX0_canBeAsked 2 (some .boolean)] ++ wsX00)
def wsX0_activeChildrenOf : List Cond := .code yX0_activeChildrenOf cX0_activeChildrenOf 4 (some .int) :: ([.fieldLink RX0 22 "UndoStore$Family" "opened" "I", .fieldLink RX0 9 "UndoStore$Family" "parents" "[I", .fieldLink RX0 15 "UndoStore$Family" "states" "[I"] ++ wsX00)
def wsX0_trace : List Cond := .code yX0_trace cX0_trace 3 none :: ([.fieldLink RX0 22 "UndoStore$Family" "opened" "I", .fieldLink RX0 18 "UndoStore$Family" "line" "[Z", .fieldLink RX0 9 "UndoStore$Family" "parents" "[I"] ++ wsX00)
def wsX0_line : List Cond := .code yX0_line cX0_line 1 (some (.array .boolean)) :: ([.fieldLink RX0 18 "UndoStore$Family" "line" "[Z"] ++ wsX00)
def wsX1_init : List Cond := .code yX1_init cX1_init 1 none :: ([.methodLink RX1 3 objectInit, .instanceMethod objectInit, .code objectInit ⟨#[0xb1]⟩ 1 none, .arrayClass .int, .fieldLink RX1 9 "UndoStore$Holds" "owners" "[I", .fieldLink RX1 15 "UndoStore$Holds" "slots" "[I", .fieldLink RX1 18 "UndoStore$Holds" "kinds" "[I", .fieldLink RX1 21 "UndoStore$Holds" "count" "I"] ++ wsX10)
def wsX1_isFull : List Cond := .code yX1_isFull cX1_isFull 1 (some .boolean) :: ([.fieldLink RX1 21 "UndoStore$Holds" "count" "I"] ++ wsX10)
def wsX1_find : List Cond := .code yX1_find cX1_find 4 (some .int) :: ([.fieldLink RX1 21 "UndoStore$Holds" "count" "I", .fieldLink RX1 9 "UndoStore$Holds" "owners" "[I", .fieldLink RX1 15 "UndoStore$Holds" "slots" "[I"] ++ wsX10)
def wsX1_add : List Cond := .code yX1_add cX1_add 5 none :: ([.fieldLink RX1 18 "UndoStore$Holds" "kinds" "[I", .methodLink RX1 29 Lib.Math.max.name, .static Lib.Math.max.name, .initialized "java/lang/Math", .code Lib.Math.max.name Lib.Math.max.code 2 (some .int), .fieldLink RX1 9 "UndoStore$Holds" "owners" "[I", .fieldLink RX1 21 "UndoStore$Holds" "count" "I", .fieldLink RX1 15 "UndoStore$Holds" "slots" "[I", .methodLink RX1 25 yX1_find, .instanceMethod yX1_find, .selects RX1 yX1_find yX1_find, .initialized RX1, .code yX1_find cX1_find 4 (some .int)] ++ wsX10)
def wsX1_kindOf : List Cond := .code yX1_kindOf cX1_kindOf 4 (some .int) :: ([.fieldLink RX1 18 "UndoStore$Holds" "kinds" "[I", .methodLink RX1 25 yX1_find, .instanceMethod yX1_find, .selects RX1 yX1_find yX1_find, .initialized RX1, .code yX1_find cX1_find 4 (some .int), .fieldLink RX1 21 "UndoStore$Holds" "count" "I", .fieldLink RX1 9 "UndoStore$Holds" "owners" "[I", .fieldLink RX1 15 "UndoStore$Holds" "slots" "[I"] ++ wsX10)
def wsX1_countOf : List Cond := .code yX1_countOf cX1_countOf 5 (some .int) :: ([.fieldLink RX1 21 "UndoStore$Holds" "count" "I", .fieldLink RX1 9 "UndoStore$Holds" "owners" "[I", .fieldLink RX1 18 "UndoStore$Holds" "kinds" "[I"] ++ wsX10)
def wsX1_handOver : List Cond := .code yX1_handOver cX1_handOver 5 none :: ([.fieldLink RX1 21 "UndoStore$Holds" "count" "I", .fieldLink RX1 9 "UndoStore$Holds" "owners" "[I", .fieldLink RX1 15 "UndoStore$Holds" "slots" "[I", .fieldLink RX1 18 "UndoStore$Holds" "kinds" "[I", .methodLink RX1 29 Lib.Math.max.name, .static Lib.Math.max.name, .initialized "java/lang/Math", .code Lib.Math.max.name Lib.Math.max.code 2 (some .int), .methodLink RX1 25 yX1_find, .instanceMethod yX1_find, .selects RX1 yX1_find yX1_find, .initialized RX1, .code yX1_find cX1_find 4 (some .int)] ++ wsX10)
def wsX1_drop : List Cond := .code yX1_drop cX1_drop 3 none :: ([.fieldLink RX1 21 "UndoStore$Holds" "count" "I", .fieldLink RX1 9 "UndoStore$Holds" "owners" "[I"] ++ wsX10)
def wsX1_isInTheWay : List Cond := .code yX1_isInTheWay cX1_isInTheWay 5 (some .boolean) :: ([.fieldLink RX1 15 "UndoStore$Holds" "slots" "[I", .fieldLink RX1 9 "UndoStore$Holds" "owners" "[I", .fieldLink RX1 18 "UndoStore$Holds" "kinds" "[I"] ++ wsX10)
def wsX1_leastInTheWay : List Cond := .code yX1_leastInTheWay cX1_leastInTheWay 6 (some .int) :: ([.fieldLink RX1 21 "UndoStore$Holds" "count" "I", .fieldLink RX1 9 "UndoStore$Holds" "owners" "[I", .methodLink RX1 34 yX1_isInTheWay, .instanceMethod yX1_isInTheWay, .selects RX1 yX1_isInTheWay yX1_isInTheWay, .initialized RX1, .code yX1_isInTheWay cX1_isInTheWay 5 (some .boolean), .fieldLink RX1 15 "UndoStore$Holds" "slots" "[I", .fieldLink RX1 18 "UndoStore$Holds" "kinds" "[I"] ++ wsX10)
def wsX5_slotOf : List Cond := .code yX5_slotOf cX5_slotOf 2 (some .int) :: ([.fieldLink RX5 9 "UndoStore$Wishes" "slots" "[I"] ++ wsX50)
def wsX5_kindOf : List Cond := .code yX5_kindOf cX5_kindOf 2 (some .int) :: ([.fieldLink RX5 15 "UndoStore$Wishes" "kinds" "[I"] ++ wsX50)
def wsX4_join : List Cond := .code yX4_join cX4_join 3 none :: ([.fieldLink RX4 11 "UndoStore$Reach" "bits" "[J"] ++ wsX40)
def wsX1_drawInTheWay_r1 : List Cond := [Cond.fieldLink RX1 21 "UndoStore$Holds" "count" "I", Cond.fieldLink RX1 9 "UndoStore$Holds" "owners" "[I", Cond.methodLink RX1 38 yX5_slotOf, Cond.instanceMethod yX5_slotOf, Cond.selects RX5 yX5_slotOf yX5_slotOf, Cond.initialized RX5, Cond.code yX5_slotOf cX5_slotOf 2 (some .int), Cond.fieldLink RX5 9 "UndoStore$Wishes" "slots" "[I", Cond.methodLink RX1 44 yX5_kindOf, Cond.instanceMethod yX5_kindOf, Cond.selects RX5 yX5_kindOf yX5_kindOf, Cond.code yX5_kindOf cX5_kindOf 2 (some .int), Cond.fieldLink RX5 15 "UndoStore$Wishes" "kinds" "[I", Cond.methodLink RX1 34 yX1_isInTheWay, Cond.instanceMethod yX1_isInTheWay, Cond.selects RX1 yX1_isInTheWay yX1_isInTheWay, Cond.initialized RX1, Cond.code yX1_isInTheWay cX1_isInTheWay 5 (some .boolean), Cond.fieldLink RX1 15 "UndoStore$Holds" "slots" "[I", Cond.fieldLink RX1 18 "UndoStore$Holds" "kinds" "[I", Cond.methodLink RX1 47 yX4_join, Cond.instanceMethod yX4_join, Cond.selects RX4 yX4_join yX4_join, Cond.initialized RX4]
def wsX1_drawInTheWay_r2 : List Cond := [Cond.code yX4_join cX4_join 3 none, Cond.fieldLink RX4 11 "UndoStore$Reach" "bits" "[J"]
def wsX1_drawInTheWay : List Cond := .code yX1_drawInTheWay cX1_drawInTheWay 6 none :: ((wsX1_drawInTheWay_r1 ++ wsX1_drawInTheWay_r2) ++ wsX10 ++ wsX50 ++ wsX40)
def wsX2_init : List Cond := .code yX2_init cX2_init 1 none :: ([.methodLink RX2 3 objectInit, .instanceMethod objectInit, .code objectInit ⟨#[0xb1]⟩ 1 none, .arrayClass .int, .fieldLink RX2 9 "UndoStore$Keys" "known" "[I", .fieldLink RX2 15 "UndoStore$Keys" "count" "I"] ++ wsX20)
def wsX2_count : List Cond := .code yX2_count cX2_count 1 (some .int) :: ([.fieldLink RX2 15 "UndoStore$Keys" "count" "I"] ++ wsX20)
def wsX2_at : List Cond := .code yX2_at cX2_at 2 (some .int) :: ([.fieldLink RX2 9 "UndoStore$Keys" "known" "[I"] ++ wsX20)
def wsX2_find : List Cond := .code yX2_find cX2_find 3 (some .int) :: ([.fieldLink RX2 15 "UndoStore$Keys" "count" "I", .fieldLink RX2 9 "UndoStore$Keys" "known" "[I"] ++ wsX20)
def wsX2_findOrAdd : List Cond := .code yX2_findOrAdd cX2_findOrAdd 3 (some .int) :: ([.fieldLink RX2 15 "UndoStore$Keys" "count" "I", .fieldLink RX2 9 "UndoStore$Keys" "known" "[I", .methodLink RX2 19 yX2_find, .instanceMethod yX2_find, .selects RX2 yX2_find yX2_find, .initialized RX2, .code yX2_find cX2_find 3 (some .int)] ++ wsX20)
def wsX3_init : List Cond := .code yX3_init cX3_init 1 none :: ([.methodLink RX3 3 objectInit, .instanceMethod objectInit, .code objectInit ⟨#[0xb1]⟩ 1 none, .arrayClass .int, .fieldLink RX3 9 "UndoStore$Marks" "owners" "[I", .fieldLink RX3 15 "UndoStore$Marks" "count" "I"] ++ wsX30)
def wsX3_isFull : List Cond := .code yX3_isFull cX3_isFull 1 (some .boolean) :: ([.fieldLink RX3 15 "UndoStore$Marks" "count" "I"] ++ wsX30)
def wsX3_now : List Cond := .code yX3_now cX3_now 1 (some .int) :: ([.fieldLink RX3 15 "UndoStore$Marks" "count" "I"] ++ wsX30)
def wsX3_timeOf : List Cond := .code yX3_timeOf cX3_timeOf 2 (some .int) :: ([])
def wsX3_countOf : List Cond := .code yX3_countOf cX3_countOf 4 (some .int) :: ([.fieldLink RX3 15 "UndoStore$Marks" "count" "I", .fieldLink RX3 9 "UndoStore$Marks" "owners" "[I"] ++ wsX30)
def wsX3_add : List Cond := .code yX3_add cX3_add 3 (some .int) :: ([.fieldLink RX3 9 "UndoStore$Marks" "owners" "[I", .fieldLink RX3 15 "UndoStore$Marks" "count" "I", .methodLink RX3 19 yX3_countOf, .instanceMethod yX3_countOf, .selects RX3 yX3_countOf yX3_countOf, .initialized RX3, .code yX3_countOf cX3_countOf 4 (some .int)] ++ wsX30)
def wsX3_find : List Cond := .code yX3_find cX3_find 5 (some .int) :: ([.fieldLink RX3 15 "UndoStore$Marks" "count" "I", .fieldLink RX3 9 "UndoStore$Marks" "owners" "[I"] ++ wsX30)
def wsX3_dropAfter : List Cond := .code yX3_dropAfter cX3_dropAfter 4 none :: ([.fieldLink RX3 15 "UndoStore$Marks" "count" "I", .fieldLink RX3 9 "UndoStore$Marks" "owners" "[I"] ++ wsX30)
def wsX3_drop : List Cond := .code yX3_drop cX3_drop 2 none :: ([.methodLink RX3 23 yX3_dropAfter, .instanceMethod yX3_dropAfter, .selects RX3 yX3_dropAfter yX3_dropAfter, .initialized RX3, .code yX3_dropAfter cX3_dropAfter 4 none, .fieldLink RX3 15 "UndoStore$Marks" "count" "I", .fieldLink RX3 9 "UndoStore$Marks" "owners" "[I"] ++ wsX30)
def wsX4_init : List Cond := .code yX4_init cX4_init 1 none :: ([.methodLink RX4 5 objectInit, .instanceMethod objectInit, .code objectInit ⟨#[0xb1]⟩ 1 none, .arrayClass .long, .fieldLink RX4 11 "UndoStore$Reach" "bits" "[J"] ++ wsX40)
def wsJ7_fill_d0a16 : List Cond := .code yJ7_fill_d0a16 cJ7_fill_d0a16 5 none :: ([])
def wsX4_clear : List Cond := .code yX4_clear cX4_clear 1 none :: ([.fieldLink RX4 11 "UndoStore$Reach" "bits" "[J", .methodLink RX4 15 yJ7_fill_d0a16, .static yJ7_fill_d0a16, .initialized RJ7, .code yJ7_fill_d0a16 cJ7_fill_d0a16 5 none] ++ wsX40)
def wsX4_leads : List Cond := .code yX4_leads cX4_leads 3 (some .boolean) :: ([.fieldLink RX4 11 "UndoStore$Reach" "bits" "[J"] ++ wsX40)
def wsX4_joinAll : List Cond := .code yX4_joinAll cX4_joinAll 4 none :: ([.fieldLink RX4 11 "UndoStore$Reach" "bits" "[J"] ++ wsX40)
def wsX4_close : List Cond := .code yX4_close cX4_close 4 none :: ([.methodLink RX4 21 yX4_leads, .instanceMethod yX4_leads, .selects RX4 yX4_leads yX4_leads, .initialized RX4, .code yX4_leads cX4_leads 3 (some .boolean), .fieldLink RX4 11 "UndoStore$Reach" "bits" "[J", .methodLink RX4 25 yX4_joinAll, .instanceMethod yX4_joinAll, .selects RX4 yX4_joinAll yX4_joinAll, .code yX4_joinAll cX4_joinAll 4 none] ++ wsX40)
def wsX5_init : List Cond := .code yX5_init cX5_init 1 none :: ([.methodLink RX5 3 objectInit, .instanceMethod objectInit, .code objectInit ⟨#[0xb1]⟩ 1 none, .arrayClass .int, .fieldLink RX5 9 "UndoStore$Wishes" "slots" "[I", .fieldLink RX5 15 "UndoStore$Wishes" "kinds" "[I"] ++ wsX50)
def wsX5_has : List Cond := .code yX5_has cX5_has 2 (some .boolean) :: ([.fieldLink RX5 15 "UndoStore$Wishes" "kinds" "[I"] ++ wsX50)
def wsX5_set : List Cond := .code yX5_set cX5_set 4 none :: ([.fieldLink RX5 9 "UndoStore$Wishes" "slots" "[I", .fieldLink RX5 15 "UndoStore$Wishes" "kinds" "[I"] ++ wsX50)
def wsX5_clear : List Cond := .code yX5_clear cX5_clear 2 none :: ([.fieldLink RX5 15 "UndoStore$Wishes" "kinds" "[I"] ++ wsX50)
def wsX6_init : List Cond := .code yX6_init cX6_init 1 none :: ([.methodLink RX6 3 objectInit, .instanceMethod objectInit, .code objectInit ⟨#[0xb1]⟩ 1 none, .arrayClass .int, .fieldLink RX6 9 "UndoStore$Writes" "owners" "[I", .fieldLink RX6 15 "UndoStore$Writes" "slots" "[I", .fieldLink RX6 18 "UndoStore$Writes" "values" "[I", .arrayClass .boolean, .fieldLink RX6 21 "UndoStore$Writes" "away" "[Z", .fieldLink RX6 25 "UndoStore$Writes" "times" "[I", .fieldLink RX6 28 "UndoStore$Writes" "count" "I", .fieldLink RX6 32 "UndoStore$Writes" "found" "[I", .fieldLink RX6 35 "UndoStore$Writes" "earlier" "[I"] ++ wsX60)
def wsX6_isFull : List Cond := .code yX6_isFull cX6_isFull 1 (some .boolean) :: ([.fieldLink RX6 28 "UndoStore$Writes" "count" "I"] ++ wsX60)
def wsX6_add : List Cond := .code yX6_add cX6_add 6 none :: ([.fieldLink RX6 9 "UndoStore$Writes" "owners" "[I", .fieldLink RX6 28 "UndoStore$Writes" "count" "I", .fieldLink RX6 15 "UndoStore$Writes" "slots" "[I", .fieldLink RX6 18 "UndoStore$Writes" "values" "[I", .fieldLink RX6 21 "UndoStore$Writes" "away" "[Z", .fieldLink RX6 25 "UndoStore$Writes" "times" "[I"] ++ wsX60)
def wsJ7_fill_53178 : List Cond := .code yJ7_fill_53178 cJ7_fill_53178 4 none :: ([])
def wsX6_findSeen : List Cond := .code yX6_findSeen cX6_findSeen 3 none :: ([.fieldLink RX6 32 "UndoStore$Writes" "found" "[I", .fieldLink RX6 28 "UndoStore$Writes" "count" "I", .fieldLink RX6 9 "UndoStore$Writes" "owners" "[I", .fieldLink RX6 15 "UndoStore$Writes" "slots" "[I", .methodLink RX6 38 yJ7_fill_53178, .static yJ7_fill_53178, .initialized RJ7, .code yJ7_fill_53178 cJ7_fill_53178 4 none] ++ wsX60)
def wsX6_hasFound : List Cond := .code yX6_hasFound cX6_hasFound 2 (some .boolean) :: ([.fieldLink RX6 32 "UndoStore$Writes" "found" "[I", .fieldLink RX6 21 "UndoStore$Writes" "away" "[Z"] ++ wsX60)
def wsX6_valueFound : List Cond := .code yX6_valueFound cX6_valueFound 2 (some .long) :: ([.fieldLink RX6 32 "UndoStore$Writes" "found" "[I", .constantLong RX6 44 (1099511627776), .fieldLink RX6 18 "UndoStore$Writes" "values" "[I"] ++ wsX60)
def wsX6_findOwn : List Cond := .code yX6_findOwn cX6_findOwn 4 none :: ([.fieldLink RX6 28 "UndoStore$Writes" "count" "I", .fieldLink RX6 9 "UndoStore$Writes" "owners" "[I", .fieldLink RX6 15 "UndoStore$Writes" "slots" "[I", .methodLink RX6 38 yJ7_fill_53178, .static yJ7_fill_53178, .initialized RJ7, .code yJ7_fill_53178 cJ7_fill_53178 4 none] ++ wsX60)
def wsX6_keysOf : List Cond := .code yX6_keysOf cX6_keysOf 4 (some .int) :: ([.fieldLink RX6 32 "UndoStore$Writes" "found" "[I", .methodLink RX6 46 yX6_findOwn, .instanceMethod yX6_findOwn, .selects RX6 yX6_findOwn yX6_findOwn, .initialized RX6, .code yX6_findOwn cX6_findOwn 4 none, .fieldLink RX6 28 "UndoStore$Writes" "count" "I", .fieldLink RX6 9 "UndoStore$Writes" "owners" "[I", .fieldLink RX6 15 "UndoStore$Writes" "slots" "[I", .methodLink RX6 38 yJ7_fill_53178, .static yJ7_fill_53178, .initialized RJ7, .code yJ7_fill_53178 cJ7_fill_53178 4 none] ++ wsX60)
def wsX6_dropFrom : List Cond := .code yX6_dropFrom cX6_dropFrom 4 none :: ([.fieldLink RX6 28 "UndoStore$Writes" "count" "I", .fieldLink RX6 9 "UndoStore$Writes" "owners" "[I", .fieldLink RX6 25 "UndoStore$Writes" "times" "[I"] ++ wsX60)
def wsX6_sayTheSame : List Cond := .code yX6_sayTheSame cX6_sayTheSame 3 (some .boolean) :: ([.fieldLink RX6 21 "UndoStore$Writes" "away" "[Z", .fieldLink RX6 18 "UndoStore$Writes" "values" "[I"] ++ wsX60)
def wsX6_undo_r1 : List Cond := [Cond.fieldLink RX6 32 "UndoStore$Writes" "found" "[I", Cond.fieldLink RX6 35 "UndoStore$Writes" "earlier" "[I", Cond.methodLink RX6 46 yX6_findOwn, Cond.instanceMethod yX6_findOwn, Cond.selects RX6 yX6_findOwn yX6_findOwn, Cond.initialized RX6, Cond.code yX6_findOwn cX6_findOwn 4 none, Cond.fieldLink RX6 28 "UndoStore$Writes" "count" "I", Cond.fieldLink RX6 9 "UndoStore$Writes" "owners" "[I", Cond.fieldLink RX6 15 "UndoStore$Writes" "slots" "[I", Cond.methodLink RX6 38 yJ7_fill_53178, Cond.static yJ7_fill_53178, Cond.initialized RJ7, Cond.code yJ7_fill_53178 cJ7_fill_53178 4 none, Cond.methodLink RX6 50 yX6_dropFrom, Cond.instanceMethod yX6_dropFrom, Cond.selects RX6 yX6_dropFrom yX6_dropFrom, Cond.code yX6_dropFrom cX6_dropFrom 4 none, Cond.fieldLink RX6 25 "UndoStore$Writes" "times" "[I", Cond.methodLink RX6 54 yX6_sayTheSame, Cond.instanceMethod yX6_sayTheSame, Cond.selects RX6 yX6_sayTheSame yX6_sayTheSame, Cond.code yX6_sayTheSame cX6_sayTheSame 3 (some .boolean), Cond.fieldLink RX6 21 "UndoStore$Writes" "away" "[Z"]
def wsX6_undo_r2 : List Cond := [Cond.fieldLink RX6 18 "UndoStore$Writes" "values" "[I"]
def wsX6_undo : List Cond := .code yX6_undo cX6_undo 5 (some .int) :: ((wsX6_undo_r1 ++ wsX6_undo_r2) ++ wsX60)
def wsX6_handOver : List Cond := .code yX6_handOver cX6_handOver 5 none :: ([.fieldLink RX6 28 "UndoStore$Writes" "count" "I", .fieldLink RX6 9 "UndoStore$Writes" "owners" "[I", .fieldLink RX6 25 "UndoStore$Writes" "times" "[I"] ++ wsX60)
def wsX6_drop : List Cond := .code yX6_drop cX6_drop 2 none :: ([.methodLink RX6 50 yX6_dropFrom, .instanceMethod yX6_dropFrom, .selects RX6 yX6_dropFrom yX6_dropFrom, .initialized RX6, .code yX6_dropFrom cX6_dropFrom 4 none, .fieldLink RX6 28 "UndoStore$Writes" "count" "I", .fieldLink RX6 9 "UndoStore$Writes" "owners" "[I", .fieldLink RX6 25 "UndoStore$Writes" "times" "[I"] ++ wsX60)
def wsX7_init_r1 : List Cond := [Cond.methodLink RX7 1 objectInit, Cond.instanceMethod objectInit, Cond.code objectInit ⟨#[0xb1]⟩ 1 none, Cond.classLink RX7 7 RX0, Cond.instantiable RX0 4, Cond.initialized RX0, Cond.fieldLink RX7 10 "UndoStore" "family" "LUndoStore$Family;", Cond.classLink RX7 16 RX2, Cond.instantiable RX2 2, Cond.initialized RX2, Cond.fieldLink RX7 19 "UndoStore" "keys" "LUndoStore$Keys;", Cond.classLink RX7 23 RX6, Cond.instantiable RX6 8, Cond.initialized RX6, Cond.fieldLink RX7 26 "UndoStore" "writes" "LUndoStore$Writes;", Cond.classLink RX7 30 RX1, Cond.instantiable RX1 4, Cond.initialized RX1, Cond.fieldLink RX7 33 "UndoStore" "holds" "LUndoStore$Holds;", Cond.classLink RX7 37 RX3, Cond.instantiable RX3 2, Cond.initialized RX3, Cond.fieldLink RX7 40 "UndoStore" "marks" "LUndoStore$Marks;", Cond.classLink RX7 44 RX5]
def wsX7_init_r2 : List Cond := [Cond.instantiable RX5 2, Cond.initialized RX5, Cond.fieldLink RX7 47 "UndoStore" "wishes" "LUndoStore$Wishes;", Cond.classLink RX7 51 RX4, Cond.instantiable RX4 1, Cond.initialized RX4, Cond.fieldLink RX7 54 "UndoStore" "reach" "LUndoStore$Reach;", Cond.instanceMethod yX0_init, Cond.code yX0_init cX0_init 1 none, Cond.methodLink RX0 3 objectInit, Cond.arrayClass .int, Cond.fieldLink RX0 9 "UndoStore$Family" "parents" "[I", Cond.fieldLink RX0 15 "UndoStore$Family" "states" "[I", Cond.arrayClass .boolean, Cond.fieldLink RX0 18 "UndoStore$Family" "line" "[Z", Cond.fieldLink RX0 22 "UndoStore$Family" "opened" "I", Cond.instanceMethod yX2_init, Cond.code yX2_init cX2_init 1 none, Cond.methodLink RX2 3 objectInit, Cond.fieldLink RX2 9 "UndoStore$Keys" "known" "[I", Cond.fieldLink RX2 15 "UndoStore$Keys" "count" "I", Cond.instanceMethod yX6_init, Cond.code yX6_init cX6_init 1 none, Cond.methodLink RX6 3 objectInit]
def wsX7_init_r3 : List Cond := [Cond.fieldLink RX6 9 "UndoStore$Writes" "owners" "[I", Cond.fieldLink RX6 15 "UndoStore$Writes" "slots" "[I", Cond.fieldLink RX6 18 "UndoStore$Writes" "values" "[I", Cond.fieldLink RX6 21 "UndoStore$Writes" "away" "[Z", Cond.fieldLink RX6 25 "UndoStore$Writes" "times" "[I", Cond.fieldLink RX6 28 "UndoStore$Writes" "count" "I", Cond.fieldLink RX6 32 "UndoStore$Writes" "found" "[I", Cond.fieldLink RX6 35 "UndoStore$Writes" "earlier" "[I", Cond.instanceMethod yX1_init, Cond.code yX1_init cX1_init 1 none, Cond.methodLink RX1 3 objectInit, Cond.fieldLink RX1 9 "UndoStore$Holds" "owners" "[I", Cond.fieldLink RX1 15 "UndoStore$Holds" "slots" "[I", Cond.fieldLink RX1 18 "UndoStore$Holds" "kinds" "[I", Cond.fieldLink RX1 21 "UndoStore$Holds" "count" "I", Cond.instanceMethod yX3_init, Cond.code yX3_init cX3_init 1 none, Cond.methodLink RX3 3 objectInit, Cond.fieldLink RX3 9 "UndoStore$Marks" "owners" "[I", Cond.fieldLink RX3 15 "UndoStore$Marks" "count" "I", Cond.instanceMethod yX5_init, Cond.code yX5_init cX5_init 1 none, Cond.methodLink RX5 3 objectInit, Cond.fieldLink RX5 9 "UndoStore$Wishes" "slots" "[I"]
def wsX7_init_r4 : List Cond := [Cond.fieldLink RX5 15 "UndoStore$Wishes" "kinds" "[I", Cond.instanceMethod yX4_init, Cond.code yX4_init cX4_init 1 none, Cond.methodLink RX4 5 objectInit, Cond.arrayClass .long, Cond.fieldLink RX4 11 "UndoStore$Reach" "bits" "[J"]
def wsX7_init : List Cond := .code yX7_init cX7_init 1 none :: ((wsX7_init_r1 ++ (wsX7_init_r2 ++ (wsX7_init_r3 ++ wsX7_init_r4))) ++ wsX00 ++ wsX70 ++ wsX20 ++ wsX60 ++ wsX10 ++ wsX30 ++ wsX50 ++ wsX40)
def wsX7_open_r1 : List Cond := [Cond.fieldLink RX7 10 "UndoStore" "family" "LUndoStore$Family;", Cond.methodLink RX7 58 yX0_canBeAsked, Cond.instanceMethod yX0_canBeAsked, Cond.selects RX0 yX0_canBeAsked yX0_canBeAsked, Cond.initialized RX0, Cond.code yX0_canBeAsked cX0_canBeAsked 2 (some .boolean), Cond.methodLink RX0 30 yX0_isActive, Cond.instanceMethod yX0_isActive, Cond.selects RX0 yX0_isActive yX0_isActive, Cond.code yX0_isActive cX0_isActive 2 (some .boolean), Cond.fieldLink RX0 15 "UndoStore$Family" "states" "[I", Cond.methodLink RX0 26 yX0_exists, Cond.instanceMethod yX0_exists, Cond.selects RX0 yX0_exists yX0_exists, Cond.code yX0_exists cX0_exists 2 (some .boolean), Cond.fieldLink RX0 22 "UndoStore$Family" "opened" "I", Cond.methodLink RX7 62 yX0_isFull, Cond.instanceMethod yX0_isFull, Cond.selects RX0 yX0_isFull yX0_isFull, Cond.code yX0_isFull cX0_isFull 1 (some .boolean), Cond.methodLink RX7 66 yX0_add, Cond.instanceMethod yX0_add, Cond.selects RX0 yX0_add yX0_add, Cond.code yX0_add cX0_add 2 (some .int)]
def wsX7_open_r2 : List Cond := [Cond.fieldLink RX0 9 "UndoStore$Family" "parents" "[I"]
def wsX7_open : List Cond := .code yX7_open cX7_open 2 (some .int) :: ((wsX7_open_r1 ++ wsX7_open_r2) ++ wsX70 ++ wsX00)
def wsX7_leastInTheWay_r1 : List Cond := [Cond.fieldLink RX7 10 "UndoStore" "family" "LUndoStore$Family;", Cond.fieldLink RX7 33 "UndoStore" "holds" "LUndoStore$Holds;", Cond.methodLink RX7 215 yX0_trace, Cond.instanceMethod yX0_trace, Cond.selects RX0 yX0_trace yX0_trace, Cond.initialized RX0, Cond.code yX0_trace cX0_trace 3 none, Cond.fieldLink RX0 22 "UndoStore$Family" "opened" "I", Cond.fieldLink RX0 18 "UndoStore$Family" "line" "[Z", Cond.fieldLink RX0 9 "UndoStore$Family" "parents" "[I", Cond.methodLink RX7 218 yX0_line, Cond.instanceMethod yX0_line, Cond.selects RX0 yX0_line yX0_line, Cond.code yX0_line cX0_line 1 (some (.array .boolean)), Cond.methodLink RX7 222 yX1_leastInTheWay, Cond.instanceMethod yX1_leastInTheWay, Cond.selects RX1 yX1_leastInTheWay yX1_leastInTheWay, Cond.initialized RX1, Cond.code yX1_leastInTheWay cX1_leastInTheWay 6 (some .int), Cond.fieldLink RX1 21 "UndoStore$Holds" "count" "I", Cond.fieldLink RX1 9 "UndoStore$Holds" "owners" "[I", Cond.methodLink RX1 34 yX1_isInTheWay, Cond.instanceMethod yX1_isInTheWay, Cond.selects RX1 yX1_isInTheWay yX1_isInTheWay]
def wsX7_leastInTheWay_r2 : List Cond := [Cond.code yX1_isInTheWay cX1_isInTheWay 5 (some .boolean), Cond.fieldLink RX1 15 "UndoStore$Holds" "slots" "[I", Cond.fieldLink RX1 18 "UndoStore$Holds" "kinds" "[I"]
def wsX7_leastInTheWay : List Cond := .code yX7_leastInTheWay cX7_leastInTheWay 4 (some .int) :: ((wsX7_leastInTheWay_r1 ++ wsX7_leastInTheWay_r2) ++ wsX70 ++ wsX00 ++ wsX10)
def wsX7_mustWait_r1 : List Cond := [Cond.fieldLink RX7 47 "UndoStore" "wishes" "LUndoStore$Wishes;", Cond.methodLink RX7 158 yX7_leastInTheWay, Cond.instanceMethod yX7_leastInTheWay, Cond.selects RX7 yX7_leastInTheWay yX7_leastInTheWay, Cond.initialized RX7, Cond.code yX7_leastInTheWay cX7_leastInTheWay 4 (some .int), Cond.fieldLink RX7 10 "UndoStore" "family" "LUndoStore$Family;", Cond.fieldLink RX7 33 "UndoStore" "holds" "LUndoStore$Holds;", Cond.methodLink RX7 215 yX0_trace, Cond.instanceMethod yX0_trace, Cond.selects RX0 yX0_trace yX0_trace, Cond.initialized RX0, Cond.code yX0_trace cX0_trace 3 none, Cond.fieldLink RX0 22 "UndoStore$Family" "opened" "I", Cond.fieldLink RX0 18 "UndoStore$Family" "line" "[Z", Cond.fieldLink RX0 9 "UndoStore$Family" "parents" "[I", Cond.methodLink RX7 218 yX0_line, Cond.instanceMethod yX0_line, Cond.selects RX0 yX0_line yX0_line, Cond.code yX0_line cX0_line 1 (some (.array .boolean)), Cond.methodLink RX7 222 yX1_leastInTheWay, Cond.instanceMethod yX1_leastInTheWay, Cond.selects RX1 yX1_leastInTheWay yX1_leastInTheWay, Cond.initialized RX1]
def wsX7_mustWait_r2 : List Cond := [Cond.code yX1_leastInTheWay cX1_leastInTheWay 6 (some .int), Cond.fieldLink RX1 21 "UndoStore$Holds" "count" "I", Cond.fieldLink RX1 9 "UndoStore$Holds" "owners" "[I", Cond.methodLink RX1 34 yX1_isInTheWay, Cond.instanceMethod yX1_isInTheWay, Cond.selects RX1 yX1_isInTheWay yX1_isInTheWay, Cond.code yX1_isInTheWay cX1_isInTheWay 5 (some .boolean), Cond.fieldLink RX1 15 "UndoStore$Holds" "slots" "[I", Cond.fieldLink RX1 18 "UndoStore$Holds" "kinds" "[I", Cond.methodLink RX7 209 yX5_clear, Cond.instanceMethod yX5_clear, Cond.selects RX5 yX5_clear yX5_clear, Cond.initialized RX5, Cond.code yX5_clear cX5_clear 2 none, Cond.fieldLink RX5 15 "UndoStore$Wishes" "kinds" "[I", Cond.methodLink RX7 212 yX5_set, Cond.instanceMethod yX5_set, Cond.selects RX5 yX5_set yX5_set, Cond.code yX5_set cX5_set 4 none, Cond.fieldLink RX5 9 "UndoStore$Wishes" "slots" "[I"]
def wsX7_mustWait : List Cond := .code yX7_mustWait cX7_mustWait 4 (some .boolean) :: ((wsX7_mustWait_r1 ++ wsX7_mustWait_r2) ++ wsX70 ++ wsX00 ++ wsX10 ++ wsX50)
def wsX7_look_r1 : List Cond := [Cond.fieldLink RX7 10 "UndoStore" "family" "LUndoStore$Family;", Cond.fieldLink RX7 26 "UndoStore" "writes" "LUndoStore$Writes;", Cond.methodLink RX7 215 yX0_trace, Cond.instanceMethod yX0_trace, Cond.selects RX0 yX0_trace yX0_trace, Cond.initialized RX0, Cond.code yX0_trace cX0_trace 3 none, Cond.fieldLink RX0 22 "UndoStore$Family" "opened" "I", Cond.fieldLink RX0 18 "UndoStore$Family" "line" "[Z", Cond.fieldLink RX0 9 "UndoStore$Family" "parents" "[I", Cond.methodLink RX7 218 yX0_line, Cond.instanceMethod yX0_line, Cond.selects RX0 yX0_line yX0_line, Cond.code yX0_line cX0_line 1 (some (.array .boolean)), Cond.methodLink RX7 225 yX6_findSeen, Cond.instanceMethod yX6_findSeen, Cond.selects RX6 yX6_findSeen yX6_findSeen, Cond.initialized RX6, Cond.code yX6_findSeen cX6_findSeen 3 none, Cond.fieldLink RX6 32 "UndoStore$Writes" "found" "[I", Cond.fieldLink RX6 28 "UndoStore$Writes" "count" "I", Cond.fieldLink RX6 9 "UndoStore$Writes" "owners" "[I", Cond.fieldLink RX6 15 "UndoStore$Writes" "slots" "[I", Cond.methodLink RX6 38 yJ7_fill_53178]
def wsX7_look_r2 : List Cond := [Cond.static yJ7_fill_53178, Cond.initialized RJ7, Cond.code yJ7_fill_53178 cJ7_fill_53178 4 none]
def wsX7_look : List Cond := .code yX7_look cX7_look 2 none :: ((wsX7_look_r1 ++ wsX7_look_r2) ++ wsX70 ++ wsX00 ++ wsX60)
def wsX7_valueSeen_r1 : List Cond := [Cond.fieldLink RX7 19 "UndoStore" "keys" "LUndoStore$Keys;", Cond.constantLong RX7 190 (1099511627776), Cond.fieldLink RX7 26 "UndoStore" "writes" "LUndoStore$Writes;", Cond.methodLink RX7 153 yX2_find, Cond.instanceMethod yX2_find, Cond.selects RX2 yX2_find yX2_find, Cond.initialized RX2, Cond.code yX2_find cX2_find 3 (some .int), Cond.fieldLink RX2 15 "UndoStore$Keys" "count" "I", Cond.fieldLink RX2 9 "UndoStore$Keys" "known" "[I", Cond.methodLink RX7 181 yX7_look, Cond.instanceMethod yX7_look, Cond.selects RX7 yX7_look yX7_look, Cond.initialized RX7, Cond.code yX7_look cX7_look 2 none, Cond.fieldLink RX7 10 "UndoStore" "family" "LUndoStore$Family;", Cond.methodLink RX7 215 yX0_trace, Cond.instanceMethod yX0_trace, Cond.selects RX0 yX0_trace yX0_trace, Cond.initialized RX0, Cond.code yX0_trace cX0_trace 3 none, Cond.fieldLink RX0 22 "UndoStore$Family" "opened" "I", Cond.fieldLink RX0 18 "UndoStore$Family" "line" "[Z", Cond.fieldLink RX0 9 "UndoStore$Family" "parents" "[I"]
def wsX7_valueSeen_r2 : List Cond := [Cond.methodLink RX7 218 yX0_line, Cond.instanceMethod yX0_line, Cond.selects RX0 yX0_line yX0_line, Cond.code yX0_line cX0_line 1 (some (.array .boolean)), Cond.methodLink RX7 225 yX6_findSeen, Cond.instanceMethod yX6_findSeen, Cond.selects RX6 yX6_findSeen yX6_findSeen, Cond.initialized RX6, Cond.code yX6_findSeen cX6_findSeen 3 none, Cond.fieldLink RX6 32 "UndoStore$Writes" "found" "[I", Cond.fieldLink RX6 28 "UndoStore$Writes" "count" "I", Cond.fieldLink RX6 9 "UndoStore$Writes" "owners" "[I", Cond.fieldLink RX6 15 "UndoStore$Writes" "slots" "[I", Cond.methodLink RX6 38 yJ7_fill_53178, Cond.static yJ7_fill_53178, Cond.initialized RJ7, Cond.code yJ7_fill_53178 cJ7_fill_53178 4 none, Cond.methodLink RX7 187 yX6_hasFound, Cond.instanceMethod yX6_hasFound, Cond.selects RX6 yX6_hasFound yX6_hasFound, Cond.code yX6_hasFound cX6_hasFound 2 (some .boolean), Cond.fieldLink RX6 21 "UndoStore$Writes" "away" "[Z", Cond.methodLink RX7 201 yX6_valueFound, Cond.instanceMethod yX6_valueFound]
def wsX7_valueSeen_r3 : List Cond := [Cond.selects RX6 yX6_valueFound yX6_valueFound, Cond.code yX6_valueFound cX6_valueFound 2 (some .long), Cond.constantLong RX6 44 (1099511627776), Cond.fieldLink RX6 18 "UndoStore$Writes" "values" "[I"]
def wsX7_valueSeen : List Cond := .code yX7_valueSeen cX7_valueSeen 4 (some .long) :: ((wsX7_valueSeen_r1 ++ (wsX7_valueSeen_r2 ++ wsX7_valueSeen_r3)) ++ wsX70 ++ wsX20 ++ wsX00 ++ wsX60)
def wsX7_get_r1 : List Cond := [Cond.fieldLink RX7 10 "UndoStore" "family" "LUndoStore$Family;", Cond.constantLong RX7 70 (4398046511104), Cond.fieldLink RX7 19 "UndoStore" "keys" "LUndoStore$Keys;", Cond.fieldLink RX7 33 "UndoStore" "holds" "LUndoStore$Holds;", Cond.constantLong RX7 80 (2199023255552), Cond.methodLink RX7 58 yX0_canBeAsked, Cond.instanceMethod yX0_canBeAsked, Cond.selects RX0 yX0_canBeAsked yX0_canBeAsked, Cond.initialized RX0, Cond.code yX0_canBeAsked cX0_canBeAsked 2 (some .boolean), Cond.methodLink RX0 30 yX0_isActive, Cond.instanceMethod yX0_isActive, Cond.selects RX0 yX0_isActive yX0_isActive, Cond.code yX0_isActive cX0_isActive 2 (some .boolean), Cond.fieldLink RX0 15 "UndoStore$Family" "states" "[I", Cond.methodLink RX0 26 yX0_exists, Cond.instanceMethod yX0_exists, Cond.selects RX0 yX0_exists yX0_exists, Cond.code yX0_exists cX0_exists 2 (some .boolean), Cond.fieldLink RX0 22 "UndoStore$Family" "opened" "I", Cond.methodLink RX7 72 yX2_findOrAdd, Cond.instanceMethod yX2_findOrAdd, Cond.selects RX2 yX2_findOrAdd yX2_findOrAdd, Cond.initialized RX2]
def wsX7_get_r2 : List Cond := [Cond.code yX2_findOrAdd cX2_findOrAdd 3 (some .int), Cond.fieldLink RX2 15 "UndoStore$Keys" "count" "I", Cond.fieldLink RX2 9 "UndoStore$Keys" "known" "[I", Cond.methodLink RX2 19 yX2_find, Cond.instanceMethod yX2_find, Cond.selects RX2 yX2_find yX2_find, Cond.code yX2_find cX2_find 3 (some .int), Cond.methodLink RX7 75 yX1_isFull, Cond.instanceMethod yX1_isFull, Cond.selects RX1 yX1_isFull yX1_isFull, Cond.initialized RX1, Cond.code yX1_isFull cX1_isFull 1 (some .boolean), Cond.fieldLink RX1 21 "UndoStore$Holds" "count" "I", Cond.methodLink RX7 76 yX7_mustWait, Cond.instanceMethod yX7_mustWait, Cond.selects RX7 yX7_mustWait yX7_mustWait, Cond.initialized RX7, Cond.code yX7_mustWait cX7_mustWait 4 (some .boolean), Cond.fieldLink RX7 47 "UndoStore" "wishes" "LUndoStore$Wishes;", Cond.methodLink RX7 158 yX7_leastInTheWay, Cond.instanceMethod yX7_leastInTheWay, Cond.selects RX7 yX7_leastInTheWay yX7_leastInTheWay, Cond.code yX7_leastInTheWay cX7_leastInTheWay 4 (some .int), Cond.methodLink RX7 215 yX0_trace]
def wsX7_get_r3 : List Cond := [Cond.instanceMethod yX0_trace, Cond.selects RX0 yX0_trace yX0_trace, Cond.code yX0_trace cX0_trace 3 none, Cond.fieldLink RX0 18 "UndoStore$Family" "line" "[Z", Cond.fieldLink RX0 9 "UndoStore$Family" "parents" "[I", Cond.methodLink RX7 218 yX0_line, Cond.instanceMethod yX0_line, Cond.selects RX0 yX0_line yX0_line, Cond.code yX0_line cX0_line 1 (some (.array .boolean)), Cond.methodLink RX7 222 yX1_leastInTheWay, Cond.instanceMethod yX1_leastInTheWay, Cond.selects RX1 yX1_leastInTheWay yX1_leastInTheWay, Cond.code yX1_leastInTheWay cX1_leastInTheWay 6 (some .int), Cond.fieldLink RX1 9 "UndoStore$Holds" "owners" "[I", Cond.methodLink RX1 34 yX1_isInTheWay, Cond.instanceMethod yX1_isInTheWay, Cond.selects RX1 yX1_isInTheWay yX1_isInTheWay, Cond.code yX1_isInTheWay cX1_isInTheWay 5 (some .boolean), Cond.fieldLink RX1 15 "UndoStore$Holds" "slots" "[I", Cond.fieldLink RX1 18 "UndoStore$Holds" "kinds" "[I", Cond.methodLink RX7 209 yX5_clear, Cond.instanceMethod yX5_clear, Cond.selects RX5 yX5_clear yX5_clear, Cond.initialized RX5]
def wsX7_get_r4 : List Cond := [Cond.code yX5_clear cX5_clear 2 none, Cond.fieldLink RX5 15 "UndoStore$Wishes" "kinds" "[I", Cond.methodLink RX7 212 yX5_set, Cond.instanceMethod yX5_set, Cond.selects RX5 yX5_set yX5_set, Cond.code yX5_set cX5_set 4 none, Cond.fieldLink RX5 9 "UndoStore$Wishes" "slots" "[I", Cond.methodLink RX7 82 yX1_add, Cond.instanceMethod yX1_add, Cond.selects RX1 yX1_add yX1_add, Cond.code yX1_add cX1_add 5 none, Cond.methodLink RX1 29 Lib.Math.max.name, Cond.static Lib.Math.max.name, Cond.initialized "java/lang/Math", Cond.code Lib.Math.max.name Lib.Math.max.code 2 (some .int), Cond.methodLink RX1 25 yX1_find, Cond.instanceMethod yX1_find, Cond.selects RX1 yX1_find yX1_find, Cond.code yX1_find cX1_find 4 (some .int), Cond.methodLink RX7 85 yX7_valueSeen, Cond.instanceMethod yX7_valueSeen, Cond.selects RX7 yX7_valueSeen yX7_valueSeen, Cond.code yX7_valueSeen cX7_valueSeen 4 (some .long), Cond.constantLong RX7 190 (1099511627776)]
def wsX7_get_r5 : List Cond := [Cond.fieldLink RX7 26 "UndoStore" "writes" "LUndoStore$Writes;", Cond.methodLink RX7 153 yX2_find, Cond.methodLink RX7 181 yX7_look, Cond.instanceMethod yX7_look, Cond.selects RX7 yX7_look yX7_look, Cond.code yX7_look cX7_look 2 none, Cond.methodLink RX7 225 yX6_findSeen, Cond.instanceMethod yX6_findSeen, Cond.selects RX6 yX6_findSeen yX6_findSeen, Cond.initialized RX6, Cond.code yX6_findSeen cX6_findSeen 3 none, Cond.fieldLink RX6 32 "UndoStore$Writes" "found" "[I", Cond.fieldLink RX6 28 "UndoStore$Writes" "count" "I", Cond.fieldLink RX6 9 "UndoStore$Writes" "owners" "[I", Cond.fieldLink RX6 15 "UndoStore$Writes" "slots" "[I", Cond.methodLink RX6 38 yJ7_fill_53178, Cond.static yJ7_fill_53178, Cond.initialized RJ7, Cond.code yJ7_fill_53178 cJ7_fill_53178 4 none, Cond.methodLink RX7 187 yX6_hasFound, Cond.instanceMethod yX6_hasFound, Cond.selects RX6 yX6_hasFound yX6_hasFound, Cond.code yX6_hasFound cX6_hasFound 2 (some .boolean), Cond.fieldLink RX6 21 "UndoStore$Writes" "away" "[Z"]
def wsX7_get_r6 : List Cond := [Cond.methodLink RX7 201 yX6_valueFound, Cond.instanceMethod yX6_valueFound, Cond.selects RX6 yX6_valueFound yX6_valueFound, Cond.code yX6_valueFound cX6_valueFound 2 (some .long), Cond.constantLong RX6 44 (1099511627776), Cond.fieldLink RX6 18 "UndoStore$Writes" "values" "[I"]
def wsX7_get : List Cond := .code yX7_get cX7_get 4 (some .long) :: ((wsX7_get_r1 ++ (wsX7_get_r2 ++ (wsX7_get_r3 ++ (wsX7_get_r4 ++ (wsX7_get_r5 ++ wsX7_get_r6))))) ++ wsX70 ++ wsX00 ++ wsX20 ++ wsX10 ++ wsX50 ++ wsX60)
def wsX7_change_r1 : List Cond := [Cond.fieldLink RX7 10 "UndoStore" "family" "LUndoStore$Family;", Cond.fieldLink RX7 19 "UndoStore" "keys" "LUndoStore$Keys;", Cond.fieldLink RX7 33 "UndoStore" "holds" "LUndoStore$Holds;", Cond.fieldLink RX7 26 "UndoStore" "writes" "LUndoStore$Writes;", Cond.constantLong RX7 190 (1099511627776), Cond.fieldLink RX7 40 "UndoStore" "marks" "LUndoStore$Marks;", Cond.methodLink RX7 93 yX0_isActive, Cond.instanceMethod yX0_isActive, Cond.selects RX0 yX0_isActive yX0_isActive, Cond.initialized RX0, Cond.code yX0_isActive cX0_isActive 2 (some .boolean), Cond.fieldLink RX0 15 "UndoStore$Family" "states" "[I", Cond.methodLink RX0 26 yX0_exists, Cond.instanceMethod yX0_exists, Cond.selects RX0 yX0_exists yX0_exists, Cond.code yX0_exists cX0_exists 2 (some .boolean), Cond.fieldLink RX0 22 "UndoStore$Family" "opened" "I", Cond.methodLink RX7 72 yX2_findOrAdd, Cond.instanceMethod yX2_findOrAdd, Cond.selects RX2 yX2_findOrAdd yX2_findOrAdd, Cond.initialized RX2, Cond.code yX2_findOrAdd cX2_findOrAdd 3 (some .int), Cond.fieldLink RX2 15 "UndoStore$Keys" "count" "I", Cond.fieldLink RX2 9 "UndoStore$Keys" "known" "[I"]
def wsX7_change_r2 : List Cond := [Cond.methodLink RX2 19 yX2_find, Cond.instanceMethod yX2_find, Cond.selects RX2 yX2_find yX2_find, Cond.code yX2_find cX2_find 3 (some .int), Cond.methodLink RX7 75 yX1_isFull, Cond.instanceMethod yX1_isFull, Cond.selects RX1 yX1_isFull yX1_isFull, Cond.initialized RX1, Cond.code yX1_isFull cX1_isFull 1 (some .boolean), Cond.fieldLink RX1 21 "UndoStore$Holds" "count" "I", Cond.methodLink RX7 205 yX6_isFull, Cond.instanceMethod yX6_isFull, Cond.selects RX6 yX6_isFull yX6_isFull, Cond.initialized RX6, Cond.code yX6_isFull cX6_isFull 1 (some .boolean), Cond.fieldLink RX6 28 "UndoStore$Writes" "count" "I", Cond.methodLink RX7 76 yX7_mustWait, Cond.instanceMethod yX7_mustWait, Cond.selects RX7 yX7_mustWait yX7_mustWait, Cond.initialized RX7, Cond.code yX7_mustWait cX7_mustWait 4 (some .boolean), Cond.fieldLink RX7 47 "UndoStore" "wishes" "LUndoStore$Wishes;", Cond.methodLink RX7 158 yX7_leastInTheWay, Cond.instanceMethod yX7_leastInTheWay]
def wsX7_change_r3 : List Cond := [Cond.selects RX7 yX7_leastInTheWay yX7_leastInTheWay, Cond.code yX7_leastInTheWay cX7_leastInTheWay 4 (some .int), Cond.methodLink RX7 215 yX0_trace, Cond.instanceMethod yX0_trace, Cond.selects RX0 yX0_trace yX0_trace, Cond.code yX0_trace cX0_trace 3 none, Cond.fieldLink RX0 18 "UndoStore$Family" "line" "[Z", Cond.fieldLink RX0 9 "UndoStore$Family" "parents" "[I", Cond.methodLink RX7 218 yX0_line, Cond.instanceMethod yX0_line, Cond.selects RX0 yX0_line yX0_line, Cond.code yX0_line cX0_line 1 (some (.array .boolean)), Cond.methodLink RX7 222 yX1_leastInTheWay, Cond.instanceMethod yX1_leastInTheWay, Cond.selects RX1 yX1_leastInTheWay yX1_leastInTheWay, Cond.code yX1_leastInTheWay cX1_leastInTheWay 6 (some .int), Cond.fieldLink RX1 9 "UndoStore$Holds" "owners" "[I", Cond.methodLink RX1 34 yX1_isInTheWay, Cond.instanceMethod yX1_isInTheWay, Cond.selects RX1 yX1_isInTheWay yX1_isInTheWay, Cond.code yX1_isInTheWay cX1_isInTheWay 5 (some .boolean), Cond.fieldLink RX1 15 "UndoStore$Holds" "slots" "[I", Cond.fieldLink RX1 18 "UndoStore$Holds" "kinds" "[I", Cond.methodLink RX7 209 yX5_clear]
def wsX7_change_r4 : List Cond := [Cond.instanceMethod yX5_clear, Cond.selects RX5 yX5_clear yX5_clear, Cond.initialized RX5, Cond.code yX5_clear cX5_clear 2 none, Cond.fieldLink RX5 15 "UndoStore$Wishes" "kinds" "[I", Cond.methodLink RX7 212 yX5_set, Cond.instanceMethod yX5_set, Cond.selects RX5 yX5_set yX5_set, Cond.code yX5_set cX5_set 4 none, Cond.fieldLink RX5 9 "UndoStore$Wishes" "slots" "[I", Cond.methodLink RX7 85 yX7_valueSeen, Cond.instanceMethod yX7_valueSeen, Cond.selects RX7 yX7_valueSeen yX7_valueSeen, Cond.code yX7_valueSeen cX7_valueSeen 4 (some .long), Cond.methodLink RX7 153 yX2_find, Cond.methodLink RX7 181 yX7_look, Cond.instanceMethod yX7_look, Cond.selects RX7 yX7_look yX7_look, Cond.code yX7_look cX7_look 2 none, Cond.methodLink RX7 225 yX6_findSeen, Cond.instanceMethod yX6_findSeen, Cond.selects RX6 yX6_findSeen yX6_findSeen, Cond.code yX6_findSeen cX6_findSeen 3 none, Cond.fieldLink RX6 32 "UndoStore$Writes" "found" "[I"]
def wsX7_change_r5 : List Cond := [Cond.fieldLink RX6 9 "UndoStore$Writes" "owners" "[I", Cond.fieldLink RX6 15 "UndoStore$Writes" "slots" "[I", Cond.methodLink RX6 38 yJ7_fill_53178, Cond.static yJ7_fill_53178, Cond.initialized RJ7, Cond.code yJ7_fill_53178 cJ7_fill_53178 4 none, Cond.methodLink RX7 187 yX6_hasFound, Cond.instanceMethod yX6_hasFound, Cond.selects RX6 yX6_hasFound yX6_hasFound, Cond.code yX6_hasFound cX6_hasFound 2 (some .boolean), Cond.fieldLink RX6 21 "UndoStore$Writes" "away" "[Z", Cond.methodLink RX7 201 yX6_valueFound, Cond.instanceMethod yX6_valueFound, Cond.selects RX6 yX6_valueFound yX6_valueFound, Cond.code yX6_valueFound cX6_valueFound 2 (some .long), Cond.constantLong RX6 44 (1099511627776), Cond.fieldLink RX6 18 "UndoStore$Writes" "values" "[I", Cond.methodLink RX7 82 yX1_add, Cond.instanceMethod yX1_add, Cond.selects RX1 yX1_add yX1_add, Cond.code yX1_add cX1_add 5 none, Cond.methodLink RX1 29 Lib.Math.max.name, Cond.static Lib.Math.max.name, Cond.initialized "java/lang/Math"]
def wsX7_change_r6 : List Cond := [Cond.code Lib.Math.max.name Lib.Math.max.code 2 (some .int), Cond.methodLink RX1 25 yX1_find, Cond.instanceMethod yX1_find, Cond.selects RX1 yX1_find yX1_find, Cond.code yX1_find cX1_find 4 (some .int), Cond.methodLink RX7 121 yX3_now, Cond.instanceMethod yX3_now, Cond.selects RX3 yX3_now yX3_now, Cond.initialized RX3, Cond.code yX3_now cX3_now 1 (some .int), Cond.fieldLink RX3 15 "UndoStore$Marks" "count" "I", Cond.methodLink RX7 206 yX6_add, Cond.instanceMethod yX6_add, Cond.selects RX6 yX6_add yX6_add, Cond.code yX6_add cX6_add 6 none, Cond.fieldLink RX6 25 "UndoStore$Writes" "times" "[I"]
def wsX7_change : List Cond := .code yX7_change cX7_change 7 (some .int) :: ((wsX7_change_r1 ++ (wsX7_change_r2 ++ (wsX7_change_r3 ++ (wsX7_change_r4 ++ (wsX7_change_r5 ++ wsX7_change_r6))))) ++ wsX70 ++ wsX00 ++ wsX20 ++ wsX10 ++ wsX60 ++ wsX50 ++ wsX30)
def wsX7_put_r1 : List Cond := [Cond.methodLink RX7 89 yX7_change, Cond.instanceMethod yX7_change, Cond.selects RX7 yX7_change yX7_change, Cond.initialized RX7, Cond.code yX7_change cX7_change 7 (some .int), Cond.fieldLink RX7 10 "UndoStore" "family" "LUndoStore$Family;", Cond.fieldLink RX7 19 "UndoStore" "keys" "LUndoStore$Keys;", Cond.fieldLink RX7 33 "UndoStore" "holds" "LUndoStore$Holds;", Cond.fieldLink RX7 26 "UndoStore" "writes" "LUndoStore$Writes;", Cond.constantLong RX7 190 (1099511627776), Cond.fieldLink RX7 40 "UndoStore" "marks" "LUndoStore$Marks;", Cond.methodLink RX7 93 yX0_isActive, Cond.instanceMethod yX0_isActive, Cond.selects RX0 yX0_isActive yX0_isActive, Cond.initialized RX0, Cond.code yX0_isActive cX0_isActive 2 (some .boolean), Cond.fieldLink RX0 15 "UndoStore$Family" "states" "[I", Cond.methodLink RX0 26 yX0_exists, Cond.instanceMethod yX0_exists, Cond.selects RX0 yX0_exists yX0_exists, Cond.code yX0_exists cX0_exists 2 (some .boolean), Cond.fieldLink RX0 22 "UndoStore$Family" "opened" "I", Cond.methodLink RX7 72 yX2_findOrAdd, Cond.instanceMethod yX2_findOrAdd]
def wsX7_put_r2 : List Cond := [Cond.selects RX2 yX2_findOrAdd yX2_findOrAdd, Cond.initialized RX2, Cond.code yX2_findOrAdd cX2_findOrAdd 3 (some .int), Cond.fieldLink RX2 15 "UndoStore$Keys" "count" "I", Cond.fieldLink RX2 9 "UndoStore$Keys" "known" "[I", Cond.methodLink RX2 19 yX2_find, Cond.instanceMethod yX2_find, Cond.selects RX2 yX2_find yX2_find, Cond.code yX2_find cX2_find 3 (some .int), Cond.methodLink RX7 75 yX1_isFull, Cond.instanceMethod yX1_isFull, Cond.selects RX1 yX1_isFull yX1_isFull, Cond.initialized RX1, Cond.code yX1_isFull cX1_isFull 1 (some .boolean), Cond.fieldLink RX1 21 "UndoStore$Holds" "count" "I", Cond.methodLink RX7 205 yX6_isFull, Cond.instanceMethod yX6_isFull, Cond.selects RX6 yX6_isFull yX6_isFull, Cond.initialized RX6, Cond.code yX6_isFull cX6_isFull 1 (some .boolean), Cond.fieldLink RX6 28 "UndoStore$Writes" "count" "I", Cond.methodLink RX7 76 yX7_mustWait, Cond.instanceMethod yX7_mustWait, Cond.selects RX7 yX7_mustWait yX7_mustWait]
def wsX7_put_r3 : List Cond := [Cond.code yX7_mustWait cX7_mustWait 4 (some .boolean), Cond.fieldLink RX7 47 "UndoStore" "wishes" "LUndoStore$Wishes;", Cond.methodLink RX7 158 yX7_leastInTheWay, Cond.instanceMethod yX7_leastInTheWay, Cond.selects RX7 yX7_leastInTheWay yX7_leastInTheWay, Cond.code yX7_leastInTheWay cX7_leastInTheWay 4 (some .int), Cond.methodLink RX7 215 yX0_trace, Cond.instanceMethod yX0_trace, Cond.selects RX0 yX0_trace yX0_trace, Cond.code yX0_trace cX0_trace 3 none, Cond.fieldLink RX0 18 "UndoStore$Family" "line" "[Z", Cond.fieldLink RX0 9 "UndoStore$Family" "parents" "[I", Cond.methodLink RX7 218 yX0_line, Cond.instanceMethod yX0_line, Cond.selects RX0 yX0_line yX0_line, Cond.code yX0_line cX0_line 1 (some (.array .boolean)), Cond.methodLink RX7 222 yX1_leastInTheWay, Cond.instanceMethod yX1_leastInTheWay, Cond.selects RX1 yX1_leastInTheWay yX1_leastInTheWay, Cond.code yX1_leastInTheWay cX1_leastInTheWay 6 (some .int), Cond.fieldLink RX1 9 "UndoStore$Holds" "owners" "[I", Cond.methodLink RX1 34 yX1_isInTheWay, Cond.instanceMethod yX1_isInTheWay, Cond.selects RX1 yX1_isInTheWay yX1_isInTheWay]
def wsX7_put_r4 : List Cond := [Cond.code yX1_isInTheWay cX1_isInTheWay 5 (some .boolean), Cond.fieldLink RX1 15 "UndoStore$Holds" "slots" "[I", Cond.fieldLink RX1 18 "UndoStore$Holds" "kinds" "[I", Cond.methodLink RX7 209 yX5_clear, Cond.instanceMethod yX5_clear, Cond.selects RX5 yX5_clear yX5_clear, Cond.initialized RX5, Cond.code yX5_clear cX5_clear 2 none, Cond.fieldLink RX5 15 "UndoStore$Wishes" "kinds" "[I", Cond.methodLink RX7 212 yX5_set, Cond.instanceMethod yX5_set, Cond.selects RX5 yX5_set yX5_set, Cond.code yX5_set cX5_set 4 none, Cond.fieldLink RX5 9 "UndoStore$Wishes" "slots" "[I", Cond.methodLink RX7 85 yX7_valueSeen, Cond.instanceMethod yX7_valueSeen, Cond.selects RX7 yX7_valueSeen yX7_valueSeen, Cond.code yX7_valueSeen cX7_valueSeen 4 (some .long), Cond.methodLink RX7 153 yX2_find, Cond.methodLink RX7 181 yX7_look, Cond.instanceMethod yX7_look, Cond.selects RX7 yX7_look yX7_look, Cond.code yX7_look cX7_look 2 none, Cond.methodLink RX7 225 yX6_findSeen]
def wsX7_put_r5 : List Cond := [Cond.instanceMethod yX6_findSeen, Cond.selects RX6 yX6_findSeen yX6_findSeen, Cond.code yX6_findSeen cX6_findSeen 3 none, Cond.fieldLink RX6 32 "UndoStore$Writes" "found" "[I", Cond.fieldLink RX6 9 "UndoStore$Writes" "owners" "[I", Cond.fieldLink RX6 15 "UndoStore$Writes" "slots" "[I", Cond.methodLink RX6 38 yJ7_fill_53178, Cond.static yJ7_fill_53178, Cond.initialized RJ7, Cond.code yJ7_fill_53178 cJ7_fill_53178 4 none, Cond.methodLink RX7 187 yX6_hasFound, Cond.instanceMethod yX6_hasFound, Cond.selects RX6 yX6_hasFound yX6_hasFound, Cond.code yX6_hasFound cX6_hasFound 2 (some .boolean), Cond.fieldLink RX6 21 "UndoStore$Writes" "away" "[Z", Cond.methodLink RX7 201 yX6_valueFound, Cond.instanceMethod yX6_valueFound, Cond.selects RX6 yX6_valueFound yX6_valueFound, Cond.code yX6_valueFound cX6_valueFound 2 (some .long), Cond.constantLong RX6 44 (1099511627776), Cond.fieldLink RX6 18 "UndoStore$Writes" "values" "[I", Cond.methodLink RX7 82 yX1_add, Cond.instanceMethod yX1_add, Cond.selects RX1 yX1_add yX1_add]
def wsX7_put_r6 : List Cond := [Cond.code yX1_add cX1_add 5 none, Cond.methodLink RX1 29 Lib.Math.max.name, Cond.static Lib.Math.max.name, Cond.initialized "java/lang/Math", Cond.code Lib.Math.max.name Lib.Math.max.code 2 (some .int), Cond.methodLink RX1 25 yX1_find, Cond.instanceMethod yX1_find, Cond.selects RX1 yX1_find yX1_find, Cond.code yX1_find cX1_find 4 (some .int), Cond.methodLink RX7 121 yX3_now, Cond.instanceMethod yX3_now, Cond.selects RX3 yX3_now yX3_now, Cond.initialized RX3, Cond.code yX3_now cX3_now 1 (some .int), Cond.fieldLink RX3 15 "UndoStore$Marks" "count" "I", Cond.methodLink RX7 206 yX6_add, Cond.instanceMethod yX6_add, Cond.selects RX6 yX6_add yX6_add, Cond.code yX6_add cX6_add 6 none, Cond.fieldLink RX6 25 "UndoStore$Writes" "times" "[I"]
def wsX7_put : List Cond := .code yX7_put cX7_put 4 (some .int) :: ((wsX7_put_r1 ++ (wsX7_put_r2 ++ (wsX7_put_r3 ++ (wsX7_put_r4 ++ (wsX7_put_r5 ++ wsX7_put_r6))))) ++ wsX70 ++ wsX00 ++ wsX20 ++ wsX10 ++ wsX60 ++ wsX50 ++ wsX30)
def wsX7_take_r1 : List Cond := [Cond.methodLink RX7 89 yX7_change, Cond.instanceMethod yX7_change, Cond.selects RX7 yX7_change yX7_change, Cond.initialized RX7, Cond.code yX7_change cX7_change 7 (some .int), Cond.fieldLink RX7 10 "UndoStore" "family" "LUndoStore$Family;", Cond.fieldLink RX7 19 "UndoStore" "keys" "LUndoStore$Keys;", Cond.fieldLink RX7 33 "UndoStore" "holds" "LUndoStore$Holds;", Cond.fieldLink RX7 26 "UndoStore" "writes" "LUndoStore$Writes;", Cond.constantLong RX7 190 (1099511627776), Cond.fieldLink RX7 40 "UndoStore" "marks" "LUndoStore$Marks;", Cond.methodLink RX7 93 yX0_isActive, Cond.instanceMethod yX0_isActive, Cond.selects RX0 yX0_isActive yX0_isActive, Cond.initialized RX0, Cond.code yX0_isActive cX0_isActive 2 (some .boolean), Cond.fieldLink RX0 15 "UndoStore$Family" "states" "[I", Cond.methodLink RX0 26 yX0_exists, Cond.instanceMethod yX0_exists, Cond.selects RX0 yX0_exists yX0_exists, Cond.code yX0_exists cX0_exists 2 (some .boolean), Cond.fieldLink RX0 22 "UndoStore$Family" "opened" "I", Cond.methodLink RX7 72 yX2_findOrAdd, Cond.instanceMethod yX2_findOrAdd]
def wsX7_take_r2 : List Cond := [Cond.selects RX2 yX2_findOrAdd yX2_findOrAdd, Cond.initialized RX2, Cond.code yX2_findOrAdd cX2_findOrAdd 3 (some .int), Cond.fieldLink RX2 15 "UndoStore$Keys" "count" "I", Cond.fieldLink RX2 9 "UndoStore$Keys" "known" "[I", Cond.methodLink RX2 19 yX2_find, Cond.instanceMethod yX2_find, Cond.selects RX2 yX2_find yX2_find, Cond.code yX2_find cX2_find 3 (some .int), Cond.methodLink RX7 75 yX1_isFull, Cond.instanceMethod yX1_isFull, Cond.selects RX1 yX1_isFull yX1_isFull, Cond.initialized RX1, Cond.code yX1_isFull cX1_isFull 1 (some .boolean), Cond.fieldLink RX1 21 "UndoStore$Holds" "count" "I", Cond.methodLink RX7 205 yX6_isFull, Cond.instanceMethod yX6_isFull, Cond.selects RX6 yX6_isFull yX6_isFull, Cond.initialized RX6, Cond.code yX6_isFull cX6_isFull 1 (some .boolean), Cond.fieldLink RX6 28 "UndoStore$Writes" "count" "I", Cond.methodLink RX7 76 yX7_mustWait, Cond.instanceMethod yX7_mustWait, Cond.selects RX7 yX7_mustWait yX7_mustWait]
def wsX7_take_r3 : List Cond := [Cond.code yX7_mustWait cX7_mustWait 4 (some .boolean), Cond.fieldLink RX7 47 "UndoStore" "wishes" "LUndoStore$Wishes;", Cond.methodLink RX7 158 yX7_leastInTheWay, Cond.instanceMethod yX7_leastInTheWay, Cond.selects RX7 yX7_leastInTheWay yX7_leastInTheWay, Cond.code yX7_leastInTheWay cX7_leastInTheWay 4 (some .int), Cond.methodLink RX7 215 yX0_trace, Cond.instanceMethod yX0_trace, Cond.selects RX0 yX0_trace yX0_trace, Cond.code yX0_trace cX0_trace 3 none, Cond.fieldLink RX0 18 "UndoStore$Family" "line" "[Z", Cond.fieldLink RX0 9 "UndoStore$Family" "parents" "[I", Cond.methodLink RX7 218 yX0_line, Cond.instanceMethod yX0_line, Cond.selects RX0 yX0_line yX0_line, Cond.code yX0_line cX0_line 1 (some (.array .boolean)), Cond.methodLink RX7 222 yX1_leastInTheWay, Cond.instanceMethod yX1_leastInTheWay, Cond.selects RX1 yX1_leastInTheWay yX1_leastInTheWay, Cond.code yX1_leastInTheWay cX1_leastInTheWay 6 (some .int), Cond.fieldLink RX1 9 "UndoStore$Holds" "owners" "[I", Cond.methodLink RX1 34 yX1_isInTheWay, Cond.instanceMethod yX1_isInTheWay, Cond.selects RX1 yX1_isInTheWay yX1_isInTheWay]
def wsX7_take_r4 : List Cond := [Cond.code yX1_isInTheWay cX1_isInTheWay 5 (some .boolean), Cond.fieldLink RX1 15 "UndoStore$Holds" "slots" "[I", Cond.fieldLink RX1 18 "UndoStore$Holds" "kinds" "[I", Cond.methodLink RX7 209 yX5_clear, Cond.instanceMethod yX5_clear, Cond.selects RX5 yX5_clear yX5_clear, Cond.initialized RX5, Cond.code yX5_clear cX5_clear 2 none, Cond.fieldLink RX5 15 "UndoStore$Wishes" "kinds" "[I", Cond.methodLink RX7 212 yX5_set, Cond.instanceMethod yX5_set, Cond.selects RX5 yX5_set yX5_set, Cond.code yX5_set cX5_set 4 none, Cond.fieldLink RX5 9 "UndoStore$Wishes" "slots" "[I", Cond.methodLink RX7 85 yX7_valueSeen, Cond.instanceMethod yX7_valueSeen, Cond.selects RX7 yX7_valueSeen yX7_valueSeen, Cond.code yX7_valueSeen cX7_valueSeen 4 (some .long), Cond.methodLink RX7 153 yX2_find, Cond.methodLink RX7 181 yX7_look, Cond.instanceMethod yX7_look, Cond.selects RX7 yX7_look yX7_look, Cond.code yX7_look cX7_look 2 none, Cond.methodLink RX7 225 yX6_findSeen]
def wsX7_take_r5 : List Cond := [Cond.instanceMethod yX6_findSeen, Cond.selects RX6 yX6_findSeen yX6_findSeen, Cond.code yX6_findSeen cX6_findSeen 3 none, Cond.fieldLink RX6 32 "UndoStore$Writes" "found" "[I", Cond.fieldLink RX6 9 "UndoStore$Writes" "owners" "[I", Cond.fieldLink RX6 15 "UndoStore$Writes" "slots" "[I", Cond.methodLink RX6 38 yJ7_fill_53178, Cond.static yJ7_fill_53178, Cond.initialized RJ7, Cond.code yJ7_fill_53178 cJ7_fill_53178 4 none, Cond.methodLink RX7 187 yX6_hasFound, Cond.instanceMethod yX6_hasFound, Cond.selects RX6 yX6_hasFound yX6_hasFound, Cond.code yX6_hasFound cX6_hasFound 2 (some .boolean), Cond.fieldLink RX6 21 "UndoStore$Writes" "away" "[Z", Cond.methodLink RX7 201 yX6_valueFound, Cond.instanceMethod yX6_valueFound, Cond.selects RX6 yX6_valueFound yX6_valueFound, Cond.code yX6_valueFound cX6_valueFound 2 (some .long), Cond.constantLong RX6 44 (1099511627776), Cond.fieldLink RX6 18 "UndoStore$Writes" "values" "[I", Cond.methodLink RX7 82 yX1_add, Cond.instanceMethod yX1_add, Cond.selects RX1 yX1_add yX1_add]
def wsX7_take_r6 : List Cond := [Cond.code yX1_add cX1_add 5 none, Cond.methodLink RX1 29 Lib.Math.max.name, Cond.static Lib.Math.max.name, Cond.initialized "java/lang/Math", Cond.code Lib.Math.max.name Lib.Math.max.code 2 (some .int), Cond.methodLink RX1 25 yX1_find, Cond.instanceMethod yX1_find, Cond.selects RX1 yX1_find yX1_find, Cond.code yX1_find cX1_find 4 (some .int), Cond.methodLink RX7 121 yX3_now, Cond.instanceMethod yX3_now, Cond.selects RX3 yX3_now yX3_now, Cond.initialized RX3, Cond.code yX3_now cX3_now 1 (some .int), Cond.fieldLink RX3 15 "UndoStore$Marks" "count" "I", Cond.methodLink RX7 206 yX6_add, Cond.instanceMethod yX6_add, Cond.selects RX6 yX6_add yX6_add, Cond.code yX6_add cX6_add 6 none, Cond.fieldLink RX6 25 "UndoStore$Writes" "times" "[I"]
def wsX7_take : List Cond := .code yX7_take cX7_take 3 (some .int) :: ((wsX7_take_r1 ++ (wsX7_take_r2 ++ (wsX7_take_r3 ++ (wsX7_take_r4 ++ (wsX7_take_r5 ++ wsX7_take_r6))))) ++ wsX70 ++ wsX00 ++ wsX20 ++ wsX10 ++ wsX60 ++ wsX50 ++ wsX30)
def wsX7_mark_r1 : List Cond := [Cond.fieldLink RX7 10 "UndoStore" "family" "LUndoStore$Family;", Cond.fieldLink RX7 40 "UndoStore" "marks" "LUndoStore$Marks;", Cond.methodLink RX7 93 yX0_isActive, Cond.instanceMethod yX0_isActive, Cond.selects RX0 yX0_isActive yX0_isActive, Cond.initialized RX0, Cond.code yX0_isActive cX0_isActive 2 (some .boolean), Cond.fieldLink RX0 15 "UndoStore$Family" "states" "[I", Cond.methodLink RX0 26 yX0_exists, Cond.instanceMethod yX0_exists, Cond.selects RX0 yX0_exists yX0_exists, Cond.code yX0_exists cX0_exists 2 (some .boolean), Cond.fieldLink RX0 22 "UndoStore$Family" "opened" "I", Cond.methodLink RX7 96 yX3_isFull, Cond.instanceMethod yX3_isFull, Cond.selects RX3 yX3_isFull yX3_isFull, Cond.initialized RX3, Cond.code yX3_isFull cX3_isFull 1 (some .boolean), Cond.fieldLink RX3 15 "UndoStore$Marks" "count" "I", Cond.methodLink RX7 97 yX3_add, Cond.instanceMethod yX3_add, Cond.selects RX3 yX3_add yX3_add, Cond.code yX3_add cX3_add 3 (some .int), Cond.fieldLink RX3 9 "UndoStore$Marks" "owners" "[I"]
def wsX7_mark_r2 : List Cond := [Cond.methodLink RX3 19 yX3_countOf, Cond.instanceMethod yX3_countOf, Cond.selects RX3 yX3_countOf yX3_countOf, Cond.code yX3_countOf cX3_countOf 4 (some .int)]
def wsX7_mark : List Cond := .code yX7_mark cX7_mark 2 (some .int) :: ((wsX7_mark_r1 ++ wsX7_mark_r2) ++ wsX70 ++ wsX00 ++ wsX30)
def wsX7_canEndOrGoBack : List Cond := .code yX7_canEndOrGoBack cX7_canEndOrGoBack 2 (some .boolean) :: ([.fieldLink RX7 10 "UndoStore" "family" "LUndoStore$Family;", .methodLink RX7 93 yX0_isActive, .instanceMethod yX0_isActive, .selects RX0 yX0_isActive yX0_isActive, .initialized RX0, .code yX0_isActive cX0_isActive 2 (some .boolean), .fieldLink RX0 15 "UndoStore$Family" "states" "[I", .methodLink RX0 26 yX0_exists, .instanceMethod yX0_exists, .selects RX0 yX0_exists yX0_exists, .code yX0_exists cX0_exists 2 (some .boolean), .fieldLink RX0 22 "UndoStore$Family" "opened" "I", .methodLink RX7 145 yX0_activeChildrenOf, .instanceMethod yX0_activeChildrenOf, .selects RX0 yX0_activeChildrenOf yX0_activeChildrenOf, .code yX0_activeChildrenOf cX0_activeChildrenOf 4 (some .int), .fieldLink RX0 9 "UndoStore$Family" "parents" "[I"] ++ wsX70 ++ wsX00)
def wsX7_back_r1 : List Cond := [Cond.fieldLink RX7 40 "UndoStore" "marks" "LUndoStore$Marks;", Cond.fieldLink RX7 26 "UndoStore" "writes" "LUndoStore$Writes;", Cond.methodLink RX7 98 yX7_canEndOrGoBack, Cond.instanceMethod yX7_canEndOrGoBack, Cond.selects RX7 yX7_canEndOrGoBack yX7_canEndOrGoBack, Cond.initialized RX7, Cond.code yX7_canEndOrGoBack cX7_canEndOrGoBack 2 (some .boolean), Cond.fieldLink RX7 10 "UndoStore" "family" "LUndoStore$Family;", Cond.methodLink RX7 93 yX0_isActive, Cond.instanceMethod yX0_isActive, Cond.selects RX0 yX0_isActive yX0_isActive, Cond.initialized RX0, Cond.code yX0_isActive cX0_isActive 2 (some .boolean), Cond.fieldLink RX0 15 "UndoStore$Family" "states" "[I", Cond.methodLink RX0 26 yX0_exists, Cond.instanceMethod yX0_exists, Cond.selects RX0 yX0_exists yX0_exists, Cond.code yX0_exists cX0_exists 2 (some .boolean), Cond.fieldLink RX0 22 "UndoStore$Family" "opened" "I", Cond.methodLink RX7 145 yX0_activeChildrenOf, Cond.instanceMethod yX0_activeChildrenOf, Cond.selects RX0 yX0_activeChildrenOf yX0_activeChildrenOf, Cond.code yX0_activeChildrenOf cX0_activeChildrenOf 4 (some .int), Cond.fieldLink RX0 9 "UndoStore$Family" "parents" "[I"]
def wsX7_back_r2 : List Cond := [Cond.methodLink RX7 101 yX3_find, Cond.instanceMethod yX3_find, Cond.selects RX3 yX3_find yX3_find, Cond.initialized RX3, Cond.code yX3_find cX3_find 5 (some .int), Cond.fieldLink RX3 15 "UndoStore$Marks" "count" "I", Cond.fieldLink RX3 9 "UndoStore$Marks" "owners" "[I", Cond.methodLink RX7 105 yX3_dropAfter, Cond.instanceMethod yX3_dropAfter, Cond.selects RX3 yX3_dropAfter yX3_dropAfter, Cond.code yX3_dropAfter cX3_dropAfter 4 none, Cond.methodLink RX7 109 yX3_timeOf, Cond.instanceMethod yX3_timeOf, Cond.selects RX3 yX3_timeOf yX3_timeOf, Cond.code yX3_timeOf cX3_timeOf 2 (some .int), Cond.methodLink RX7 112 yX6_undo, Cond.instanceMethod yX6_undo, Cond.selects RX6 yX6_undo yX6_undo, Cond.initialized RX6, Cond.code yX6_undo cX6_undo 5 (some .int), Cond.fieldLink RX6 32 "UndoStore$Writes" "found" "[I", Cond.fieldLink RX6 35 "UndoStore$Writes" "earlier" "[I", Cond.methodLink RX6 46 yX6_findOwn, Cond.instanceMethod yX6_findOwn]
def wsX7_back_r3 : List Cond := [Cond.selects RX6 yX6_findOwn yX6_findOwn, Cond.code yX6_findOwn cX6_findOwn 4 none, Cond.fieldLink RX6 28 "UndoStore$Writes" "count" "I", Cond.fieldLink RX6 9 "UndoStore$Writes" "owners" "[I", Cond.fieldLink RX6 15 "UndoStore$Writes" "slots" "[I", Cond.methodLink RX6 38 yJ7_fill_53178, Cond.static yJ7_fill_53178, Cond.initialized RJ7, Cond.code yJ7_fill_53178 cJ7_fill_53178 4 none, Cond.methodLink RX6 50 yX6_dropFrom, Cond.instanceMethod yX6_dropFrom, Cond.selects RX6 yX6_dropFrom yX6_dropFrom, Cond.code yX6_dropFrom cX6_dropFrom 4 none, Cond.fieldLink RX6 25 "UndoStore$Writes" "times" "[I", Cond.methodLink RX6 54 yX6_sayTheSame, Cond.instanceMethod yX6_sayTheSame, Cond.selects RX6 yX6_sayTheSame yX6_sayTheSame, Cond.code yX6_sayTheSame cX6_sayTheSame 3 (some .boolean), Cond.fieldLink RX6 21 "UndoStore$Writes" "away" "[Z", Cond.fieldLink RX6 18 "UndoStore$Writes" "values" "[I"]
def wsX7_back : List Cond := .code yX7_back cX7_back 4 (some .int) :: ((wsX7_back_r1 ++ (wsX7_back_r2 ++ wsX7_back_r3)) ++ wsX70 ++ wsX00 ++ wsX30 ++ wsX60)
def wsX7_end_r1 : List Cond := [Cond.fieldLink RX7 10 "UndoStore" "family" "LUndoStore$Family;", Cond.fieldLink RX7 26 "UndoStore" "writes" "LUndoStore$Writes;", Cond.fieldLink RX7 33 "UndoStore" "holds" "LUndoStore$Holds;", Cond.fieldLink RX7 40 "UndoStore" "marks" "LUndoStore$Marks;", Cond.fieldLink RX7 47 "UndoStore" "wishes" "LUndoStore$Wishes;", Cond.methodLink RX7 229 yX0_end, Cond.instanceMethod yX0_end, Cond.selects RX0 yX0_end yX0_end, Cond.initialized RX0, Cond.code yX0_end cX0_end 3 none, Cond.fieldLink RX0 15 "UndoStore$Family" "states" "[I", Cond.methodLink RX7 230 yX6_drop, Cond.instanceMethod yX6_drop, Cond.selects RX6 yX6_drop yX6_drop, Cond.initialized RX6, Cond.code yX6_drop cX6_drop 2 none, Cond.methodLink RX6 50 yX6_dropFrom, Cond.instanceMethod yX6_dropFrom, Cond.selects RX6 yX6_dropFrom yX6_dropFrom, Cond.code yX6_dropFrom cX6_dropFrom 4 none, Cond.fieldLink RX6 28 "UndoStore$Writes" "count" "I", Cond.fieldLink RX6 9 "UndoStore$Writes" "owners" "[I", Cond.fieldLink RX6 25 "UndoStore$Writes" "times" "[I", Cond.methodLink RX7 233 yX1_drop]
def wsX7_end_r2 : List Cond := [Cond.instanceMethod yX1_drop, Cond.selects RX1 yX1_drop yX1_drop, Cond.initialized RX1, Cond.code yX1_drop cX1_drop 3 none, Cond.fieldLink RX1 21 "UndoStore$Holds" "count" "I", Cond.fieldLink RX1 9 "UndoStore$Holds" "owners" "[I", Cond.methodLink RX7 234 yX3_drop, Cond.instanceMethod yX3_drop, Cond.selects RX3 yX3_drop yX3_drop, Cond.initialized RX3, Cond.code yX3_drop cX3_drop 2 none, Cond.methodLink RX3 23 yX3_dropAfter, Cond.instanceMethod yX3_dropAfter, Cond.selects RX3 yX3_dropAfter yX3_dropAfter, Cond.code yX3_dropAfter cX3_dropAfter 4 none, Cond.fieldLink RX3 15 "UndoStore$Marks" "count" "I", Cond.fieldLink RX3 9 "UndoStore$Marks" "owners" "[I", Cond.methodLink RX7 209 yX5_clear, Cond.instanceMethod yX5_clear, Cond.selects RX5 yX5_clear yX5_clear, Cond.initialized RX5, Cond.code yX5_clear cX5_clear 2 none, Cond.fieldLink RX5 15 "UndoStore$Wishes" "kinds" "[I"]
def wsX7_end : List Cond := .code yX7_end cX7_end 3 none :: ((wsX7_end_r1 ++ wsX7_end_r2) ++ wsX70 ++ wsX00 ++ wsX60 ++ wsX10 ++ wsX30 ++ wsX50)
def wsX7_commit_r1 : List Cond := [Cond.fieldLink RX7 26 "UndoStore" "writes" "LUndoStore$Writes;", Cond.fieldLink RX7 10 "UndoStore" "family" "LUndoStore$Family;", Cond.fieldLink RX7 40 "UndoStore" "marks" "LUndoStore$Marks;", Cond.fieldLink RX7 33 "UndoStore" "holds" "LUndoStore$Holds;", Cond.methodLink RX7 98 yX7_canEndOrGoBack, Cond.instanceMethod yX7_canEndOrGoBack, Cond.selects RX7 yX7_canEndOrGoBack yX7_canEndOrGoBack, Cond.initialized RX7, Cond.code yX7_canEndOrGoBack cX7_canEndOrGoBack 2 (some .boolean), Cond.methodLink RX7 93 yX0_isActive, Cond.instanceMethod yX0_isActive, Cond.selects RX0 yX0_isActive yX0_isActive, Cond.initialized RX0, Cond.code yX0_isActive cX0_isActive 2 (some .boolean), Cond.fieldLink RX0 15 "UndoStore$Family" "states" "[I", Cond.methodLink RX0 26 yX0_exists, Cond.instanceMethod yX0_exists, Cond.selects RX0 yX0_exists yX0_exists, Cond.code yX0_exists cX0_exists 2 (some .boolean), Cond.fieldLink RX0 22 "UndoStore$Family" "opened" "I", Cond.methodLink RX7 145 yX0_activeChildrenOf, Cond.instanceMethod yX0_activeChildrenOf, Cond.selects RX0 yX0_activeChildrenOf yX0_activeChildrenOf, Cond.code yX0_activeChildrenOf cX0_activeChildrenOf 4 (some .int)]
def wsX7_commit_r2 : List Cond := [Cond.fieldLink RX0 9 "UndoStore$Family" "parents" "[I", Cond.methodLink RX7 115 yX6_keysOf, Cond.instanceMethod yX6_keysOf, Cond.selects RX6 yX6_keysOf yX6_keysOf, Cond.initialized RX6, Cond.code yX6_keysOf cX6_keysOf 4 (some .int), Cond.fieldLink RX6 32 "UndoStore$Writes" "found" "[I", Cond.methodLink RX6 46 yX6_findOwn, Cond.instanceMethod yX6_findOwn, Cond.selects RX6 yX6_findOwn yX6_findOwn, Cond.code yX6_findOwn cX6_findOwn 4 none, Cond.fieldLink RX6 28 "UndoStore$Writes" "count" "I", Cond.fieldLink RX6 9 "UndoStore$Writes" "owners" "[I", Cond.fieldLink RX6 15 "UndoStore$Writes" "slots" "[I", Cond.methodLink RX6 38 yJ7_fill_53178, Cond.static yJ7_fill_53178, Cond.initialized RJ7, Cond.code yJ7_fill_53178 cJ7_fill_53178 4 none, Cond.methodLink RX7 118 yX0_parentOf, Cond.instanceMethod yX0_parentOf, Cond.selects RX0 yX0_parentOf yX0_parentOf, Cond.code yX0_parentOf cX0_parentOf 2 (some .int), Cond.methodLink RX7 121 yX3_now, Cond.instanceMethod yX3_now]
def wsX7_commit_r3 : List Cond := [Cond.selects RX3 yX3_now yX3_now, Cond.initialized RX3, Cond.code yX3_now cX3_now 1 (some .int), Cond.fieldLink RX3 15 "UndoStore$Marks" "count" "I", Cond.methodLink RX7 125 yX6_handOver, Cond.instanceMethod yX6_handOver, Cond.selects RX6 yX6_handOver yX6_handOver, Cond.code yX6_handOver cX6_handOver 5 none, Cond.fieldLink RX6 25 "UndoStore$Writes" "times" "[I", Cond.methodLink RX7 128 yX1_handOver, Cond.instanceMethod yX1_handOver, Cond.selects RX1 yX1_handOver yX1_handOver, Cond.initialized RX1, Cond.code yX1_handOver cX1_handOver 5 none, Cond.fieldLink RX1 21 "UndoStore$Holds" "count" "I", Cond.fieldLink RX1 9 "UndoStore$Holds" "owners" "[I", Cond.fieldLink RX1 15 "UndoStore$Holds" "slots" "[I", Cond.fieldLink RX1 18 "UndoStore$Holds" "kinds" "[I", Cond.methodLink RX1 29 Lib.Math.max.name, Cond.static Lib.Math.max.name, Cond.initialized "java/lang/Math", Cond.code Lib.Math.max.name Lib.Math.max.code 2 (some .int), Cond.methodLink RX1 25 yX1_find, Cond.instanceMethod yX1_find]
def wsX7_commit_r4 : List Cond := [Cond.selects RX1 yX1_find yX1_find, Cond.code yX1_find cX1_find 4 (some .int), Cond.methodLink RX7 130 yX7_end, Cond.instanceMethod yX7_end, Cond.selects RX7 yX7_end yX7_end, Cond.code yX7_end cX7_end 3 none, Cond.fieldLink RX7 47 "UndoStore" "wishes" "LUndoStore$Wishes;", Cond.methodLink RX7 229 yX0_end, Cond.instanceMethod yX0_end, Cond.selects RX0 yX0_end yX0_end, Cond.code yX0_end cX0_end 3 none, Cond.methodLink RX7 230 yX6_drop, Cond.instanceMethod yX6_drop, Cond.selects RX6 yX6_drop yX6_drop, Cond.code yX6_drop cX6_drop 2 none, Cond.methodLink RX6 50 yX6_dropFrom, Cond.instanceMethod yX6_dropFrom, Cond.selects RX6 yX6_dropFrom yX6_dropFrom, Cond.code yX6_dropFrom cX6_dropFrom 4 none, Cond.methodLink RX7 233 yX1_drop, Cond.instanceMethod yX1_drop, Cond.selects RX1 yX1_drop yX1_drop, Cond.code yX1_drop cX1_drop 3 none, Cond.methodLink RX7 234 yX3_drop]
def wsX7_commit_r5 : List Cond := [Cond.instanceMethod yX3_drop, Cond.selects RX3 yX3_drop yX3_drop, Cond.code yX3_drop cX3_drop 2 none, Cond.methodLink RX3 23 yX3_dropAfter, Cond.instanceMethod yX3_dropAfter, Cond.selects RX3 yX3_dropAfter yX3_dropAfter, Cond.code yX3_dropAfter cX3_dropAfter 4 none, Cond.fieldLink RX3 9 "UndoStore$Marks" "owners" "[I", Cond.methodLink RX7 209 yX5_clear, Cond.instanceMethod yX5_clear, Cond.selects RX5 yX5_clear yX5_clear, Cond.initialized RX5, Cond.code yX5_clear cX5_clear 2 none, Cond.fieldLink RX5 15 "UndoStore$Wishes" "kinds" "[I"]
def wsX7_commit : List Cond := .code yX7_commit cX7_commit 4 (some .int) :: ((wsX7_commit_r1 ++ (wsX7_commit_r2 ++ (wsX7_commit_r3 ++ (wsX7_commit_r4 ++ wsX7_commit_r5)))) ++ wsX70 ++ wsX00 ++ wsX60 ++ wsX30 ++ wsX10 ++ wsX50)
def wsX7_abort_r1 : List Cond := [Cond.fieldLink RX7 10 "UndoStore" "family" "LUndoStore$Family;", Cond.methodLink RX7 93 yX0_isActive, Cond.instanceMethod yX0_isActive, Cond.selects RX0 yX0_isActive yX0_isActive, Cond.initialized RX0, Cond.code yX0_isActive cX0_isActive 2 (some .boolean), Cond.fieldLink RX0 15 "UndoStore$Family" "states" "[I", Cond.methodLink RX0 26 yX0_exists, Cond.instanceMethod yX0_exists, Cond.selects RX0 yX0_exists yX0_exists, Cond.code yX0_exists cX0_exists 2 (some .boolean), Cond.fieldLink RX0 22 "UndoStore$Family" "opened" "I", Cond.methodLink RX7 130 yX7_end, Cond.instanceMethod yX7_end, Cond.selects RX7 yX7_end yX7_end, Cond.initialized RX7, Cond.code yX7_end cX7_end 3 none, Cond.fieldLink RX7 26 "UndoStore" "writes" "LUndoStore$Writes;", Cond.fieldLink RX7 33 "UndoStore" "holds" "LUndoStore$Holds;", Cond.fieldLink RX7 40 "UndoStore" "marks" "LUndoStore$Marks;", Cond.fieldLink RX7 47 "UndoStore" "wishes" "LUndoStore$Wishes;", Cond.methodLink RX7 229 yX0_end, Cond.instanceMethod yX0_end, Cond.selects RX0 yX0_end yX0_end]
def wsX7_abort_r2 : List Cond := [Cond.code yX0_end cX0_end 3 none, Cond.methodLink RX7 230 yX6_drop, Cond.instanceMethod yX6_drop, Cond.selects RX6 yX6_drop yX6_drop, Cond.initialized RX6, Cond.code yX6_drop cX6_drop 2 none, Cond.methodLink RX6 50 yX6_dropFrom, Cond.instanceMethod yX6_dropFrom, Cond.selects RX6 yX6_dropFrom yX6_dropFrom, Cond.code yX6_dropFrom cX6_dropFrom 4 none, Cond.fieldLink RX6 28 "UndoStore$Writes" "count" "I", Cond.fieldLink RX6 9 "UndoStore$Writes" "owners" "[I", Cond.fieldLink RX6 25 "UndoStore$Writes" "times" "[I", Cond.methodLink RX7 233 yX1_drop, Cond.instanceMethod yX1_drop, Cond.selects RX1 yX1_drop yX1_drop, Cond.initialized RX1, Cond.code yX1_drop cX1_drop 3 none, Cond.fieldLink RX1 21 "UndoStore$Holds" "count" "I", Cond.fieldLink RX1 9 "UndoStore$Holds" "owners" "[I", Cond.methodLink RX7 234 yX3_drop, Cond.instanceMethod yX3_drop, Cond.selects RX3 yX3_drop yX3_drop, Cond.initialized RX3]
def wsX7_abort_r3 : List Cond := [Cond.code yX3_drop cX3_drop 2 none, Cond.methodLink RX3 23 yX3_dropAfter, Cond.instanceMethod yX3_dropAfter, Cond.selects RX3 yX3_dropAfter yX3_dropAfter, Cond.code yX3_dropAfter cX3_dropAfter 4 none, Cond.fieldLink RX3 15 "UndoStore$Marks" "count" "I", Cond.fieldLink RX3 9 "UndoStore$Marks" "owners" "[I", Cond.methodLink RX7 209 yX5_clear, Cond.instanceMethod yX5_clear, Cond.selects RX5 yX5_clear yX5_clear, Cond.initialized RX5, Cond.code yX5_clear cX5_clear 2 none, Cond.fieldLink RX5 15 "UndoStore$Wishes" "kinds" "[I", Cond.methodLink RX7 133 yX0_opened, Cond.instanceMethod yX0_opened, Cond.selects RX0 yX0_opened yX0_opened, Cond.code yX0_opened cX0_opened 1 (some .int), Cond.methodLink RX7 136 yX0_isLeftBehind, Cond.instanceMethod yX0_isLeftBehind, Cond.selects RX0 yX0_isLeftBehind yX0_isLeftBehind, Cond.code yX0_isLeftBehind cX0_isLeftBehind 2 (some .boolean), Cond.fieldLink RX0 9 "UndoStore$Family" "parents" "[I", Cond.methodLink RX0 30 yX0_isActive, Cond.methodLink RX0 33 yX0_canBeAsked]
def wsX7_abort_r4 : List Cond := [Cond.instanceMethod yX0_canBeAsked, Cond.selects RX0 yX0_canBeAsked yX0_canBeAsked, Cond.code yX0_canBeAsked cX0_canBeAsked 2 (some .boolean)]
def wsX7_abort : List Cond := .code yX7_abort cX7_abort 4 (some .int) :: ((wsX7_abort_r1 ++ (wsX7_abort_r2 ++ (wsX7_abort_r3 ++ wsX7_abort_r4))) ++ wsX70 ++ wsX00 ++ wsX60 ++ wsX10 ++ wsX30 ++ wsX50)
def wsX7_state : List Cond := .code yX7_state cX7_state 2 (some .int) :: ([.fieldLink RX7 10 "UndoStore" "family" "LUndoStore$Family;", .methodLink RX7 139 yX0_exists, .instanceMethod yX0_exists, .selects RX0 yX0_exists yX0_exists, .initialized RX0, .code yX0_exists cX0_exists 2 (some .boolean), .fieldLink RX0 22 "UndoStore$Family" "opened" "I", .methodLink RX7 142 yX0_stateOf, .instanceMethod yX0_stateOf, .selects RX0 yX0_stateOf yX0_stateOf, .code yX0_stateOf cX0_stateOf 2 (some .int), .fieldLink RX0 15 "UndoStore$Family" "states" "[I"] ++ wsX70 ++ wsX00)
def wsX7_told_r1 : List Cond := [Cond.fieldLink RX7 10 "UndoStore" "family" "LUndoStore$Family;", Cond.fieldLink RX7 40 "UndoStore" "marks" "LUndoStore$Marks;", Cond.fieldLink RX7 26 "UndoStore" "writes" "LUndoStore$Writes;", Cond.fieldLink RX7 33 "UndoStore" "holds" "LUndoStore$Holds;", Cond.methodLink RX7 139 yX0_exists, Cond.instanceMethod yX0_exists, Cond.selects RX0 yX0_exists yX0_exists, Cond.initialized RX0, Cond.code yX0_exists cX0_exists 2 (some .boolean), Cond.fieldLink RX0 22 "UndoStore$Family" "opened" "I", Cond.methodLink RX7 118 yX0_parentOf, Cond.instanceMethod yX0_parentOf, Cond.selects RX0 yX0_parentOf yX0_parentOf, Cond.code yX0_parentOf cX0_parentOf 2 (some .int), Cond.fieldLink RX0 9 "UndoStore$Family" "parents" "[I", Cond.methodLink RX7 145 yX0_activeChildrenOf, Cond.instanceMethod yX0_activeChildrenOf, Cond.selects RX0 yX0_activeChildrenOf yX0_activeChildrenOf, Cond.code yX0_activeChildrenOf cX0_activeChildrenOf 4 (some .int), Cond.fieldLink RX0 15 "UndoStore$Family" "states" "[I", Cond.methodLink RX7 148 yX3_countOf, Cond.instanceMethod yX3_countOf, Cond.selects RX3 yX3_countOf yX3_countOf, Cond.initialized RX3]
def wsX7_told_r2 : List Cond := [Cond.code yX3_countOf cX3_countOf 4 (some .int), Cond.fieldLink RX3 15 "UndoStore$Marks" "count" "I", Cond.fieldLink RX3 9 "UndoStore$Marks" "owners" "[I", Cond.methodLink RX7 115 yX6_keysOf, Cond.instanceMethod yX6_keysOf, Cond.selects RX6 yX6_keysOf yX6_keysOf, Cond.initialized RX6, Cond.code yX6_keysOf cX6_keysOf 4 (some .int), Cond.fieldLink RX6 32 "UndoStore$Writes" "found" "[I", Cond.methodLink RX6 46 yX6_findOwn, Cond.instanceMethod yX6_findOwn, Cond.selects RX6 yX6_findOwn yX6_findOwn, Cond.code yX6_findOwn cX6_findOwn 4 none, Cond.fieldLink RX6 28 "UndoStore$Writes" "count" "I", Cond.fieldLink RX6 9 "UndoStore$Writes" "owners" "[I", Cond.fieldLink RX6 15 "UndoStore$Writes" "slots" "[I", Cond.methodLink RX6 38 yJ7_fill_53178, Cond.static yJ7_fill_53178, Cond.initialized RJ7, Cond.code yJ7_fill_53178 cJ7_fill_53178 4 none, Cond.methodLink RX7 151 yX1_countOf, Cond.instanceMethod yX1_countOf, Cond.selects RX1 yX1_countOf yX1_countOf, Cond.initialized RX1]
def wsX7_told_r3 : List Cond := [Cond.code yX1_countOf cX1_countOf 5 (some .int), Cond.fieldLink RX1 21 "UndoStore$Holds" "count" "I", Cond.fieldLink RX1 9 "UndoStore$Holds" "owners" "[I", Cond.fieldLink RX1 18 "UndoStore$Holds" "kinds" "[I"]
def wsX7_told : List Cond := .code yX7_told cX7_told 3 (some .int) :: ((wsX7_told_r1 ++ (wsX7_told_r2 ++ wsX7_told_r3)) ++ wsX70 ++ wsX00 ++ wsX30 ++ wsX60 ++ wsX10)
def wsX7_held_r1 : List Cond := [Cond.fieldLink RX7 10 "UndoStore" "family" "LUndoStore$Family;", Cond.fieldLink RX7 33 "UndoStore" "holds" "LUndoStore$Holds;", Cond.fieldLink RX7 19 "UndoStore" "keys" "LUndoStore$Keys;", Cond.methodLink RX7 93 yX0_isActive, Cond.instanceMethod yX0_isActive, Cond.selects RX0 yX0_isActive yX0_isActive, Cond.initialized RX0, Cond.code yX0_isActive cX0_isActive 2 (some .boolean), Cond.fieldLink RX0 15 "UndoStore$Family" "states" "[I", Cond.methodLink RX0 26 yX0_exists, Cond.instanceMethod yX0_exists, Cond.selects RX0 yX0_exists yX0_exists, Cond.code yX0_exists cX0_exists 2 (some .boolean), Cond.fieldLink RX0 22 "UndoStore$Family" "opened" "I", Cond.methodLink RX7 153 yX2_find, Cond.instanceMethod yX2_find, Cond.selects RX2 yX2_find yX2_find, Cond.initialized RX2, Cond.code yX2_find cX2_find 3 (some .int), Cond.fieldLink RX2 15 "UndoStore$Keys" "count" "I", Cond.fieldLink RX2 9 "UndoStore$Keys" "known" "[I", Cond.methodLink RX7 155 yX1_kindOf, Cond.instanceMethod yX1_kindOf, Cond.selects RX1 yX1_kindOf yX1_kindOf]
def wsX7_held_r2 : List Cond := [Cond.initialized RX1, Cond.code yX1_kindOf cX1_kindOf 4 (some .int), Cond.fieldLink RX1 18 "UndoStore$Holds" "kinds" "[I", Cond.methodLink RX1 25 yX1_find, Cond.instanceMethod yX1_find, Cond.selects RX1 yX1_find yX1_find, Cond.code yX1_find cX1_find 4 (some .int), Cond.fieldLink RX1 21 "UndoStore$Holds" "count" "I", Cond.fieldLink RX1 9 "UndoStore$Holds" "owners" "[I", Cond.fieldLink RX1 15 "UndoStore$Holds" "slots" "[I"]
def wsX7_held : List Cond := .code yX7_held cX7_held 3 (some .int) :: ((wsX7_held_r1 ++ wsX7_held_r2) ++ wsX70 ++ wsX00 ++ wsX20 ++ wsX10)
def wsX7_blocker_r1 : List Cond := [Cond.fieldLink RX7 10 "UndoStore" "family" "LUndoStore$Family;", Cond.fieldLink RX7 19 "UndoStore" "keys" "LUndoStore$Keys;", Cond.methodLink RX7 93 yX0_isActive, Cond.instanceMethod yX0_isActive, Cond.selects RX0 yX0_isActive yX0_isActive, Cond.initialized RX0, Cond.code yX0_isActive cX0_isActive 2 (some .boolean), Cond.fieldLink RX0 15 "UndoStore$Family" "states" "[I", Cond.methodLink RX0 26 yX0_exists, Cond.instanceMethod yX0_exists, Cond.selects RX0 yX0_exists yX0_exists, Cond.code yX0_exists cX0_exists 2 (some .boolean), Cond.fieldLink RX0 22 "UndoStore$Family" "opened" "I", Cond.methodLink RX7 153 yX2_find, Cond.instanceMethod yX2_find, Cond.selects RX2 yX2_find yX2_find, Cond.initialized RX2, Cond.code yX2_find cX2_find 3 (some .int), Cond.fieldLink RX2 15 "UndoStore$Keys" "count" "I", Cond.fieldLink RX2 9 "UndoStore$Keys" "known" "[I", Cond.methodLink RX7 158 yX7_leastInTheWay, Cond.instanceMethod yX7_leastInTheWay, Cond.selects RX7 yX7_leastInTheWay yX7_leastInTheWay, Cond.initialized RX7]
def wsX7_blocker_r2 : List Cond := [Cond.code yX7_leastInTheWay cX7_leastInTheWay 4 (some .int), Cond.fieldLink RX7 33 "UndoStore" "holds" "LUndoStore$Holds;", Cond.methodLink RX7 215 yX0_trace, Cond.instanceMethod yX0_trace, Cond.selects RX0 yX0_trace yX0_trace, Cond.code yX0_trace cX0_trace 3 none, Cond.fieldLink RX0 18 "UndoStore$Family" "line" "[Z", Cond.fieldLink RX0 9 "UndoStore$Family" "parents" "[I", Cond.methodLink RX7 218 yX0_line, Cond.instanceMethod yX0_line, Cond.selects RX0 yX0_line yX0_line, Cond.code yX0_line cX0_line 1 (some (.array .boolean)), Cond.methodLink RX7 222 yX1_leastInTheWay, Cond.instanceMethod yX1_leastInTheWay, Cond.selects RX1 yX1_leastInTheWay yX1_leastInTheWay, Cond.initialized RX1, Cond.code yX1_leastInTheWay cX1_leastInTheWay 6 (some .int), Cond.fieldLink RX1 21 "UndoStore$Holds" "count" "I", Cond.fieldLink RX1 9 "UndoStore$Holds" "owners" "[I", Cond.methodLink RX1 34 yX1_isInTheWay, Cond.instanceMethod yX1_isInTheWay, Cond.selects RX1 yX1_isInTheWay yX1_isInTheWay, Cond.code yX1_isInTheWay cX1_isInTheWay 5 (some .boolean), Cond.fieldLink RX1 15 "UndoStore$Holds" "slots" "[I"]
def wsX7_blocker_r3 : List Cond := [Cond.fieldLink RX1 18 "UndoStore$Holds" "kinds" "[I"]
def wsX7_blocker : List Cond := .code yX7_blocker cX7_blocker 4 (some .int) :: ((wsX7_blocker_r1 ++ (wsX7_blocker_r2 ++ wsX7_blocker_r3)) ++ wsX70 ++ wsX00 ++ wsX20 ++ wsX10)
def wsX7_waits_r1 : List Cond := [Cond.fieldLink RX7 10 "UndoStore" "family" "LUndoStore$Family;", Cond.fieldLink RX7 47 "UndoStore" "wishes" "LUndoStore$Wishes;", Cond.methodLink RX7 93 yX0_isActive, Cond.instanceMethod yX0_isActive, Cond.selects RX0 yX0_isActive yX0_isActive, Cond.initialized RX0, Cond.code yX0_isActive cX0_isActive 2 (some .boolean), Cond.fieldLink RX0 15 "UndoStore$Family" "states" "[I", Cond.methodLink RX0 26 yX0_exists, Cond.instanceMethod yX0_exists, Cond.selects RX0 yX0_exists yX0_exists, Cond.code yX0_exists cX0_exists 2 (some .boolean), Cond.fieldLink RX0 22 "UndoStore$Family" "opened" "I", Cond.methodLink RX7 162 yX5_has, Cond.instanceMethod yX5_has, Cond.selects RX5 yX5_has yX5_has, Cond.initialized RX5, Cond.code yX5_has cX5_has 2 (some .boolean), Cond.fieldLink RX5 15 "UndoStore$Wishes" "kinds" "[I", Cond.methodLink RX7 165 yX5_slotOf, Cond.instanceMethod yX5_slotOf, Cond.selects RX5 yX5_slotOf yX5_slotOf, Cond.code yX5_slotOf cX5_slotOf 2 (some .int), Cond.fieldLink RX5 9 "UndoStore$Wishes" "slots" "[I"]
def wsX7_waits_r2 : List Cond := [Cond.methodLink RX7 168 yX5_kindOf, Cond.instanceMethod yX5_kindOf, Cond.selects RX5 yX5_kindOf yX5_kindOf, Cond.code yX5_kindOf cX5_kindOf 2 (some .int), Cond.methodLink RX7 158 yX7_leastInTheWay, Cond.instanceMethod yX7_leastInTheWay, Cond.selects RX7 yX7_leastInTheWay yX7_leastInTheWay, Cond.initialized RX7, Cond.code yX7_leastInTheWay cX7_leastInTheWay 4 (some .int), Cond.fieldLink RX7 33 "UndoStore" "holds" "LUndoStore$Holds;", Cond.methodLink RX7 215 yX0_trace, Cond.instanceMethod yX0_trace, Cond.selects RX0 yX0_trace yX0_trace, Cond.code yX0_trace cX0_trace 3 none, Cond.fieldLink RX0 18 "UndoStore$Family" "line" "[Z", Cond.fieldLink RX0 9 "UndoStore$Family" "parents" "[I", Cond.methodLink RX7 218 yX0_line, Cond.instanceMethod yX0_line, Cond.selects RX0 yX0_line yX0_line, Cond.code yX0_line cX0_line 1 (some (.array .boolean)), Cond.methodLink RX7 222 yX1_leastInTheWay, Cond.instanceMethod yX1_leastInTheWay, Cond.selects RX1 yX1_leastInTheWay yX1_leastInTheWay, Cond.initialized RX1]
def wsX7_waits_r3 : List Cond := [Cond.code yX1_leastInTheWay cX1_leastInTheWay 6 (some .int), Cond.fieldLink RX1 21 "UndoStore$Holds" "count" "I", Cond.fieldLink RX1 9 "UndoStore$Holds" "owners" "[I", Cond.methodLink RX1 34 yX1_isInTheWay, Cond.instanceMethod yX1_isInTheWay, Cond.selects RX1 yX1_isInTheWay yX1_isInTheWay, Cond.code yX1_isInTheWay cX1_isInTheWay 5 (some .boolean), Cond.fieldLink RX1 15 "UndoStore$Holds" "slots" "[I", Cond.fieldLink RX1 18 "UndoStore$Holds" "kinds" "[I"]
def wsX7_waits : List Cond := .code yX7_waits cX7_waits 2 (some .int) :: ((wsX7_waits_r1 ++ (wsX7_waits_r2 ++ wsX7_waits_r3)) ++ wsX70 ++ wsX00 ++ wsX50 ++ wsX10)
def wsX7_drawWaits_r1 : List Cond := [Cond.fieldLink RX7 54 "UndoStore" "reach" "LUndoStore$Reach;", Cond.fieldLink RX7 10 "UndoStore" "family" "LUndoStore$Family;", Cond.fieldLink RX7 47 "UndoStore" "wishes" "LUndoStore$Wishes;", Cond.fieldLink RX7 33 "UndoStore" "holds" "LUndoStore$Holds;", Cond.methodLink RX7 235 yX4_clear, Cond.instanceMethod yX4_clear, Cond.selects RX4 yX4_clear yX4_clear, Cond.initialized RX4, Cond.code yX4_clear cX4_clear 1 none, Cond.fieldLink RX4 11 "UndoStore$Reach" "bits" "[J", Cond.methodLink RX4 15 yJ7_fill_d0a16, Cond.static yJ7_fill_d0a16, Cond.initialized RJ7, Cond.code yJ7_fill_d0a16 cJ7_fill_d0a16 5 none, Cond.methodLink RX7 133 yX0_opened, Cond.instanceMethod yX0_opened, Cond.selects RX0 yX0_opened yX0_opened, Cond.initialized RX0, Cond.code yX0_opened cX0_opened 1 (some .int), Cond.fieldLink RX0 22 "UndoStore$Family" "opened" "I", Cond.methodLink RX7 162 yX5_has, Cond.instanceMethod yX5_has, Cond.selects RX5 yX5_has yX5_has, Cond.initialized RX5]
def wsX7_drawWaits_r2 : List Cond := [Cond.code yX5_has cX5_has 2 (some .boolean), Cond.fieldLink RX5 15 "UndoStore$Wishes" "kinds" "[I", Cond.methodLink RX7 215 yX0_trace, Cond.instanceMethod yX0_trace, Cond.selects RX0 yX0_trace yX0_trace, Cond.code yX0_trace cX0_trace 3 none, Cond.fieldLink RX0 18 "UndoStore$Family" "line" "[Z", Cond.fieldLink RX0 9 "UndoStore$Family" "parents" "[I", Cond.methodLink RX7 218 yX0_line, Cond.instanceMethod yX0_line, Cond.selects RX0 yX0_line yX0_line, Cond.code yX0_line cX0_line 1 (some (.array .boolean)), Cond.methodLink RX7 237 yX1_drawInTheWay, Cond.instanceMethod yX1_drawInTheWay, Cond.selects RX1 yX1_drawInTheWay yX1_drawInTheWay, Cond.initialized RX1, Cond.code yX1_drawInTheWay cX1_drawInTheWay 6 none, Cond.fieldLink RX1 21 "UndoStore$Holds" "count" "I", Cond.fieldLink RX1 9 "UndoStore$Holds" "owners" "[I", Cond.methodLink RX1 38 yX5_slotOf, Cond.instanceMethod yX5_slotOf, Cond.selects RX5 yX5_slotOf yX5_slotOf, Cond.code yX5_slotOf cX5_slotOf 2 (some .int), Cond.fieldLink RX5 9 "UndoStore$Wishes" "slots" "[I"]
def wsX7_drawWaits_r3 : List Cond := [Cond.methodLink RX1 44 yX5_kindOf, Cond.instanceMethod yX5_kindOf, Cond.selects RX5 yX5_kindOf yX5_kindOf, Cond.code yX5_kindOf cX5_kindOf 2 (some .int), Cond.methodLink RX1 34 yX1_isInTheWay, Cond.instanceMethod yX1_isInTheWay, Cond.selects RX1 yX1_isInTheWay yX1_isInTheWay, Cond.code yX1_isInTheWay cX1_isInTheWay 5 (some .boolean), Cond.fieldLink RX1 15 "UndoStore$Holds" "slots" "[I", Cond.fieldLink RX1 18 "UndoStore$Holds" "kinds" "[I", Cond.methodLink RX1 47 yX4_join, Cond.instanceMethod yX4_join, Cond.selects RX4 yX4_join yX4_join, Cond.code yX4_join cX4_join 3 none]
def wsX7_drawWaits : List Cond := .code yX7_drawWaits cX7_drawWaits 2 none :: ((wsX7_drawWaits_r1 ++ (wsX7_drawWaits_r2 ++ wsX7_drawWaits_r3)) ++ wsX70 ++ wsX40 ++ wsX00 ++ wsX50 ++ wsX10)
def wsX7_ring_r1 : List Cond := [Cond.fieldLink RX7 54 "UndoStore" "reach" "LUndoStore$Reach;", Cond.fieldLink RX7 10 "UndoStore" "family" "LUndoStore$Family;", Cond.methodLink RX7 170 yX7_drawWaits, Cond.instanceMethod yX7_drawWaits, Cond.selects RX7 yX7_drawWaits yX7_drawWaits, Cond.initialized RX7, Cond.code yX7_drawWaits cX7_drawWaits 2 none, Cond.fieldLink RX7 47 "UndoStore" "wishes" "LUndoStore$Wishes;", Cond.fieldLink RX7 33 "UndoStore" "holds" "LUndoStore$Holds;", Cond.methodLink RX7 235 yX4_clear, Cond.instanceMethod yX4_clear, Cond.selects RX4 yX4_clear yX4_clear, Cond.initialized RX4, Cond.code yX4_clear cX4_clear 1 none, Cond.fieldLink RX4 11 "UndoStore$Reach" "bits" "[J", Cond.methodLink RX4 15 yJ7_fill_d0a16, Cond.static yJ7_fill_d0a16, Cond.initialized RJ7, Cond.code yJ7_fill_d0a16 cJ7_fill_d0a16 5 none, Cond.methodLink RX7 133 yX0_opened, Cond.instanceMethod yX0_opened, Cond.selects RX0 yX0_opened yX0_opened, Cond.initialized RX0, Cond.code yX0_opened cX0_opened 1 (some .int)]
def wsX7_ring_r2 : List Cond := [Cond.fieldLink RX0 22 "UndoStore$Family" "opened" "I", Cond.methodLink RX7 162 yX5_has, Cond.instanceMethod yX5_has, Cond.selects RX5 yX5_has yX5_has, Cond.initialized RX5, Cond.code yX5_has cX5_has 2 (some .boolean), Cond.fieldLink RX5 15 "UndoStore$Wishes" "kinds" "[I", Cond.methodLink RX7 215 yX0_trace, Cond.instanceMethod yX0_trace, Cond.selects RX0 yX0_trace yX0_trace, Cond.code yX0_trace cX0_trace 3 none, Cond.fieldLink RX0 18 "UndoStore$Family" "line" "[Z", Cond.fieldLink RX0 9 "UndoStore$Family" "parents" "[I", Cond.methodLink RX7 218 yX0_line, Cond.instanceMethod yX0_line, Cond.selects RX0 yX0_line yX0_line, Cond.code yX0_line cX0_line 1 (some (.array .boolean)), Cond.methodLink RX7 237 yX1_drawInTheWay, Cond.instanceMethod yX1_drawInTheWay, Cond.selects RX1 yX1_drawInTheWay yX1_drawInTheWay, Cond.initialized RX1, Cond.code yX1_drawInTheWay cX1_drawInTheWay 6 none, Cond.fieldLink RX1 21 "UndoStore$Holds" "count" "I", Cond.fieldLink RX1 9 "UndoStore$Holds" "owners" "[I"]
def wsX7_ring_r3 : List Cond := [Cond.methodLink RX1 38 yX5_slotOf, Cond.instanceMethod yX5_slotOf, Cond.selects RX5 yX5_slotOf yX5_slotOf, Cond.code yX5_slotOf cX5_slotOf 2 (some .int), Cond.fieldLink RX5 9 "UndoStore$Wishes" "slots" "[I", Cond.methodLink RX1 44 yX5_kindOf, Cond.instanceMethod yX5_kindOf, Cond.selects RX5 yX5_kindOf yX5_kindOf, Cond.code yX5_kindOf cX5_kindOf 2 (some .int), Cond.methodLink RX1 34 yX1_isInTheWay, Cond.instanceMethod yX1_isInTheWay, Cond.selects RX1 yX1_isInTheWay yX1_isInTheWay, Cond.code yX1_isInTheWay cX1_isInTheWay 5 (some .boolean), Cond.fieldLink RX1 15 "UndoStore$Holds" "slots" "[I", Cond.fieldLink RX1 18 "UndoStore$Holds" "kinds" "[I", Cond.methodLink RX1 47 yX4_join, Cond.instanceMethod yX4_join, Cond.selects RX4 yX4_join yX4_join, Cond.code yX4_join cX4_join 3 none, Cond.methodLink RX7 173 yX4_close, Cond.instanceMethod yX4_close, Cond.selects RX4 yX4_close yX4_close, Cond.code yX4_close cX4_close 4 none, Cond.methodLink RX4 21 yX4_leads]
def wsX7_ring_r4 : List Cond := [Cond.instanceMethod yX4_leads, Cond.selects RX4 yX4_leads yX4_leads, Cond.code yX4_leads cX4_leads 3 (some .boolean), Cond.methodLink RX4 25 yX4_joinAll, Cond.instanceMethod yX4_joinAll, Cond.selects RX4 yX4_joinAll yX4_joinAll, Cond.code yX4_joinAll cX4_joinAll 4 none, Cond.methodLink RX7 177 yX4_leads]
def wsX7_ring : List Cond := .code yX7_ring cX7_ring 2 (some .int) :: ((wsX7_ring_r1 ++ (wsX7_ring_r2 ++ (wsX7_ring_r3 ++ wsX7_ring_r4))) ++ wsX70 ++ wsX40 ++ wsX00 ++ wsX50 ++ wsX10)
def wsX7_size_r1 : List Cond := [Cond.fieldLink RX7 10 "UndoStore" "family" "LUndoStore$Family;", Cond.fieldLink RX7 19 "UndoStore" "keys" "LUndoStore$Keys;", Cond.fieldLink RX7 26 "UndoStore" "writes" "LUndoStore$Writes;", Cond.methodLink RX7 58 yX0_canBeAsked, Cond.instanceMethod yX0_canBeAsked, Cond.selects RX0 yX0_canBeAsked yX0_canBeAsked, Cond.initialized RX0, Cond.code yX0_canBeAsked cX0_canBeAsked 2 (some .boolean), Cond.methodLink RX0 30 yX0_isActive, Cond.instanceMethod yX0_isActive, Cond.selects RX0 yX0_isActive yX0_isActive, Cond.code yX0_isActive cX0_isActive 2 (some .boolean), Cond.fieldLink RX0 15 "UndoStore$Family" "states" "[I", Cond.methodLink RX0 26 yX0_exists, Cond.instanceMethod yX0_exists, Cond.selects RX0 yX0_exists yX0_exists, Cond.code yX0_exists cX0_exists 2 (some .boolean), Cond.fieldLink RX0 22 "UndoStore$Family" "opened" "I", Cond.methodLink RX7 181 yX7_look, Cond.instanceMethod yX7_look, Cond.selects RX7 yX7_look yX7_look, Cond.initialized RX7, Cond.code yX7_look cX7_look 2 none, Cond.methodLink RX7 215 yX0_trace]
def wsX7_size_r2 : List Cond := [Cond.instanceMethod yX0_trace, Cond.selects RX0 yX0_trace yX0_trace, Cond.code yX0_trace cX0_trace 3 none, Cond.fieldLink RX0 18 "UndoStore$Family" "line" "[Z", Cond.fieldLink RX0 9 "UndoStore$Family" "parents" "[I", Cond.methodLink RX7 218 yX0_line, Cond.instanceMethod yX0_line, Cond.selects RX0 yX0_line yX0_line, Cond.code yX0_line cX0_line 1 (some (.array .boolean)), Cond.methodLink RX7 225 yX6_findSeen, Cond.instanceMethod yX6_findSeen, Cond.selects RX6 yX6_findSeen yX6_findSeen, Cond.initialized RX6, Cond.code yX6_findSeen cX6_findSeen 3 none, Cond.fieldLink RX6 32 "UndoStore$Writes" "found" "[I", Cond.fieldLink RX6 28 "UndoStore$Writes" "count" "I", Cond.fieldLink RX6 9 "UndoStore$Writes" "owners" "[I", Cond.fieldLink RX6 15 "UndoStore$Writes" "slots" "[I", Cond.methodLink RX6 38 yJ7_fill_53178, Cond.static yJ7_fill_53178, Cond.initialized RJ7, Cond.code yJ7_fill_53178 cJ7_fill_53178 4 none, Cond.methodLink RX7 184 yX2_count, Cond.instanceMethod yX2_count]
def wsX7_size_r3 : List Cond := [Cond.selects RX2 yX2_count yX2_count, Cond.initialized RX2, Cond.code yX2_count cX2_count 1 (some .int), Cond.fieldLink RX2 15 "UndoStore$Keys" "count" "I", Cond.methodLink RX7 187 yX6_hasFound, Cond.instanceMethod yX6_hasFound, Cond.selects RX6 yX6_hasFound yX6_hasFound, Cond.code yX6_hasFound cX6_hasFound 2 (some .boolean), Cond.fieldLink RX6 21 "UndoStore$Writes" "away" "[Z"]
def wsX7_size : List Cond := .code yX7_size cX7_size 4 (some .int) :: ((wsX7_size_r1 ++ (wsX7_size_r2 ++ wsX7_size_r3)) ++ wsX70 ++ wsX00 ++ wsX60 ++ wsX20)
def wsX7_next_r1 : List Cond := [Cond.fieldLink RX7 10 "UndoStore" "family" "LUndoStore$Family;", Cond.constantLong RX7 70 (4398046511104), Cond.constantLong RX7 190 (1099511627776), Cond.fieldLink RX7 19 "UndoStore" "keys" "LUndoStore$Keys;", Cond.fieldLink RX7 26 "UndoStore" "writes" "LUndoStore$Writes;", Cond.methodLink RX7 195 Lib.MathLoose.min_long.x, Cond.static Lib.MathLoose.min_long.x, Cond.initialized "java/lang/Math", Cond.code Lib.MathLoose.min_long.x Lib.MathLoose.min_long.code 4 (some .long), Cond.methodLink RX7 58 yX0_canBeAsked, Cond.instanceMethod yX0_canBeAsked, Cond.selects RX0 yX0_canBeAsked yX0_canBeAsked, Cond.initialized RX0, Cond.code yX0_canBeAsked cX0_canBeAsked 2 (some .boolean), Cond.methodLink RX0 30 yX0_isActive, Cond.instanceMethod yX0_isActive, Cond.selects RX0 yX0_isActive yX0_isActive, Cond.code yX0_isActive cX0_isActive 2 (some .boolean), Cond.fieldLink RX0 15 "UndoStore$Family" "states" "[I", Cond.methodLink RX0 26 yX0_exists, Cond.instanceMethod yX0_exists, Cond.selects RX0 yX0_exists yX0_exists, Cond.code yX0_exists cX0_exists 2 (some .boolean), Cond.fieldLink RX0 22 "UndoStore$Family" "opened" "I"]
def wsX7_next_r2 : List Cond := [Cond.methodLink RX7 181 yX7_look, Cond.instanceMethod yX7_look, Cond.selects RX7 yX7_look yX7_look, Cond.initialized RX7, Cond.code yX7_look cX7_look 2 none, Cond.methodLink RX7 215 yX0_trace, Cond.instanceMethod yX0_trace, Cond.selects RX0 yX0_trace yX0_trace, Cond.code yX0_trace cX0_trace 3 none, Cond.fieldLink RX0 18 "UndoStore$Family" "line" "[Z", Cond.fieldLink RX0 9 "UndoStore$Family" "parents" "[I", Cond.methodLink RX7 218 yX0_line, Cond.instanceMethod yX0_line, Cond.selects RX0 yX0_line yX0_line, Cond.code yX0_line cX0_line 1 (some (.array .boolean)), Cond.methodLink RX7 225 yX6_findSeen, Cond.instanceMethod yX6_findSeen, Cond.selects RX6 yX6_findSeen yX6_findSeen, Cond.initialized RX6, Cond.code yX6_findSeen cX6_findSeen 3 none, Cond.fieldLink RX6 32 "UndoStore$Writes" "found" "[I", Cond.fieldLink RX6 28 "UndoStore$Writes" "count" "I", Cond.fieldLink RX6 9 "UndoStore$Writes" "owners" "[I", Cond.fieldLink RX6 15 "UndoStore$Writes" "slots" "[I"]
def wsX7_next_r3 : List Cond := [Cond.methodLink RX6 38 yJ7_fill_53178, Cond.static yJ7_fill_53178, Cond.initialized RJ7, Cond.code yJ7_fill_53178 cJ7_fill_53178 4 none, Cond.methodLink RX7 184 yX2_count, Cond.instanceMethod yX2_count, Cond.selects RX2 yX2_count yX2_count, Cond.initialized RX2, Cond.code yX2_count cX2_count 1 (some .int), Cond.fieldLink RX2 15 "UndoStore$Keys" "count" "I", Cond.methodLink RX7 192 yX2_at, Cond.instanceMethod yX2_at, Cond.selects RX2 yX2_at yX2_at, Cond.code yX2_at cX2_at 2 (some .int), Cond.fieldLink RX2 9 "UndoStore$Keys" "known" "[I", Cond.methodLink RX7 187 yX6_hasFound, Cond.instanceMethod yX6_hasFound, Cond.selects RX6 yX6_hasFound yX6_hasFound, Cond.code yX6_hasFound cX6_hasFound 2 (some .boolean), Cond.fieldLink RX6 21 "UndoStore$Writes" "away" "[Z"]
def wsX7_next : List Cond := .code yX7_next cX7_next 6 (some .long) :: ((wsX7_next_r1 ++ (wsX7_next_r2 ++ wsX7_next_r3)) ++ wsX70 ++ wsX00 ++ wsX60 ++ wsX20)
def wsX7_sum_r1 : List Cond := [Cond.fieldLink RX7 10 "UndoStore" "family" "LUndoStore$Family;", Cond.constantLong RX7 70 (4398046511104), Cond.fieldLink RX7 19 "UndoStore" "keys" "LUndoStore$Keys;", Cond.fieldLink RX7 26 "UndoStore" "writes" "LUndoStore$Writes;", Cond.methodLink RX7 58 yX0_canBeAsked, Cond.instanceMethod yX0_canBeAsked, Cond.selects RX0 yX0_canBeAsked yX0_canBeAsked, Cond.initialized RX0, Cond.code yX0_canBeAsked cX0_canBeAsked 2 (some .boolean), Cond.methodLink RX0 30 yX0_isActive, Cond.instanceMethod yX0_isActive, Cond.selects RX0 yX0_isActive yX0_isActive, Cond.code yX0_isActive cX0_isActive 2 (some .boolean), Cond.fieldLink RX0 15 "UndoStore$Family" "states" "[I", Cond.methodLink RX0 26 yX0_exists, Cond.instanceMethod yX0_exists, Cond.selects RX0 yX0_exists yX0_exists, Cond.code yX0_exists cX0_exists 2 (some .boolean), Cond.fieldLink RX0 22 "UndoStore$Family" "opened" "I", Cond.methodLink RX7 181 yX7_look, Cond.instanceMethod yX7_look, Cond.selects RX7 yX7_look yX7_look, Cond.initialized RX7, Cond.code yX7_look cX7_look 2 none]
def wsX7_sum_r2 : List Cond := [Cond.methodLink RX7 215 yX0_trace, Cond.instanceMethod yX0_trace, Cond.selects RX0 yX0_trace yX0_trace, Cond.code yX0_trace cX0_trace 3 none, Cond.fieldLink RX0 18 "UndoStore$Family" "line" "[Z", Cond.fieldLink RX0 9 "UndoStore$Family" "parents" "[I", Cond.methodLink RX7 218 yX0_line, Cond.instanceMethod yX0_line, Cond.selects RX0 yX0_line yX0_line, Cond.code yX0_line cX0_line 1 (some (.array .boolean)), Cond.methodLink RX7 225 yX6_findSeen, Cond.instanceMethod yX6_findSeen, Cond.selects RX6 yX6_findSeen yX6_findSeen, Cond.initialized RX6, Cond.code yX6_findSeen cX6_findSeen 3 none, Cond.fieldLink RX6 32 "UndoStore$Writes" "found" "[I", Cond.fieldLink RX6 28 "UndoStore$Writes" "count" "I", Cond.fieldLink RX6 9 "UndoStore$Writes" "owners" "[I", Cond.fieldLink RX6 15 "UndoStore$Writes" "slots" "[I", Cond.methodLink RX6 38 yJ7_fill_53178, Cond.static yJ7_fill_53178, Cond.initialized RJ7, Cond.code yJ7_fill_53178 cJ7_fill_53178 4 none, Cond.methodLink RX7 184 yX2_count]
def wsX7_sum_r3 : List Cond := [Cond.instanceMethod yX2_count, Cond.selects RX2 yX2_count yX2_count, Cond.initialized RX2, Cond.code yX2_count cX2_count 1 (some .int), Cond.fieldLink RX2 15 "UndoStore$Keys" "count" "I", Cond.methodLink RX7 192 yX2_at, Cond.instanceMethod yX2_at, Cond.selects RX2 yX2_at yX2_at, Cond.code yX2_at cX2_at 2 (some .int), Cond.fieldLink RX2 9 "UndoStore$Keys" "known" "[I", Cond.methodLink RX7 187 yX6_hasFound, Cond.instanceMethod yX6_hasFound, Cond.selects RX6 yX6_hasFound yX6_hasFound, Cond.code yX6_hasFound cX6_hasFound 2 (some .boolean), Cond.fieldLink RX6 21 "UndoStore$Writes" "away" "[Z", Cond.methodLink RX7 201 yX6_valueFound, Cond.instanceMethod yX6_valueFound, Cond.selects RX6 yX6_valueFound yX6_valueFound, Cond.code yX6_valueFound cX6_valueFound 2 (some .long), Cond.constantLong RX6 44 (1099511627776), Cond.fieldLink RX6 18 "UndoStore$Writes" "values" "[I"]
def wsX7_sum : List Cond := .code yX7_sum cX7_sum 8 (some .long) :: ((wsX7_sum_r1 ++ (wsX7_sum_r2 ++ wsX7_sum_r3)) ++ wsX70 ++ wsX00 ++ wsX60 ++ wsX20)
def wsX8_init : List Cond := .code yX8_init cX8_init 1 none :: ([.methodLink RX8 1 objectInit, .instanceMethod objectInit, .code objectInit ⟨#[0xb1]⟩ 1 none, .arrayClass .int, .fieldLink RX8 7 "UndoStoreModel" "keys" "[I", .constant RX8 13 (78520), .arrayClass .byte, .fieldLink RX8 14 "UndoStoreModel" "wrote" "[B", .fieldLink RX8 18 "UndoStoreModel" "values" "[I", .fieldLink RX8 21 "UndoStoreModel" "holds" "[B", .fieldLink RX8 24 "UndoStoreModel" "parents" "[I", .fieldLink RX8 27 "UndoStoreModel" "states" "[I", .fieldLink RX8 30 "UndoStoreModel" "waitsFor" "[I", .arrayClass .boolean, .fieldLink RX8 33 "UndoStoreModel" "wants" "[Z", .fieldLink RX8 37 "UndoStoreModel" "owners" "[I", .fieldLink RX8 40 "UndoStoreModel" "stands" "[Z", .constant RX8 43 (270400), .fieldLink RX8 44 "UndoStoreModel" "oldWrote" "[B", .fieldLink RX8 47 "UndoStoreModel" "oldValues" "[I", .fieldLink RX8 50 "UndoStoreModel" "reached" "[Z"] ++ wsX80)
def wsX8_isActive : List Cond := .code yX8_isActive cX8_isActive 2 (some .boolean) :: ([.fieldLink RX8 53 "UndoStoreModel" "opened" "I", .fieldLink RX8 27 "UndoStoreModel" "states" "[I"] ++ wsX80)
def wsX8_find : List Cond := .code yX8_find cX8_find 3 (some .int) :: ([.fieldLink RX8 57 "UndoStoreModel" "keyCount" "I", .fieldLink RX8 7 "UndoStoreModel" "keys" "[I"] ++ wsX80)
def wsX8_number : List Cond := .code yX8_number cX8_number 3 (some .int) :: ([.fieldLink RX8 7 "UndoStoreModel" "keys" "[I", .fieldLink RX8 57 "UndoStoreModel" "keyCount" "I", .methodLink RX8 60 yX8_find, .instanceMethod yX8_find, .selects RX8 yX8_find yX8_find, .initialized RX8, .code yX8_find cX8_find 3 (some .int)] ++ wsX80)
def wsX8_source : List Cond := .code yX8_source cX8_source 4 (some .int) :: ([.fieldLink RX8 14 "UndoStoreModel" "wrote" "[B", .fieldLink RX8 24 "UndoStoreModel" "parents" "[I"] ++ wsX80)
def wsX8_sees : List Cond := .code yX8_sees cX8_sees 3 (some .boolean) :: ([.methodLink RX8 64 yX8_source, .instanceMethod yX8_source, .selects RX8 yX8_source yX8_source, .initialized RX8, .code yX8_source cX8_source 4 (some .int), .fieldLink RX8 14 "UndoStoreModel" "wrote" "[B", .fieldLink RX8 24 "UndoStoreModel" "parents" "[I"] ++ wsX80)
def wsX8_isAncestor : List Cond := .code yX8_isAncestor cX8_isAncestor 4 (some .boolean) :: ([.fieldLink RX8 24 "UndoStoreModel" "parents" "[I"] ++ wsX80)
def wsX8_isInWay : List Cond := .code yX8_isInWay cX8_isInWay 5 (some .boolean) :: ([.fieldLink RX8 21 "UndoStoreModel" "holds" "[B", .methodLink RX8 68 yX8_isActive, .instanceMethod yX8_isActive, .selects RX8 yX8_isActive yX8_isActive, .initialized RX8, .code yX8_isActive cX8_isActive 2 (some .boolean), .fieldLink RX8 53 "UndoStoreModel" "opened" "I", .fieldLink RX8 27 "UndoStoreModel" "states" "[I", .methodLink RX8 72 yX8_isAncestor, .instanceMethod yX8_isAncestor, .selects RX8 yX8_isAncestor yX8_isAncestor, .code yX8_isAncestor cX8_isAncestor 4 (some .boolean), .fieldLink RX8 24 "UndoStoreModel" "parents" "[I"] ++ wsX80)
def wsX8_first : List Cond := .code yX8_first cX8_first 5 (some .int) :: ([.fieldLink RX8 53 "UndoStoreModel" "opened" "I", .methodLink RX8 76 yX8_isInWay, .instanceMethod yX8_isInWay, .selects RX8 yX8_isInWay yX8_isInWay, .initialized RX8, .code yX8_isInWay cX8_isInWay 5 (some .boolean), .fieldLink RX8 21 "UndoStoreModel" "holds" "[B", .methodLink RX8 68 yX8_isActive, .instanceMethod yX8_isActive, .selects RX8 yX8_isActive yX8_isActive, .code yX8_isActive cX8_isActive 2 (some .boolean), .fieldLink RX8 27 "UndoStoreModel" "states" "[I", .methodLink RX8 72 yX8_isAncestor, .instanceMethod yX8_isAncestor, .selects RX8 yX8_isAncestor yX8_isAncestor, .code yX8_isAncestor cX8_isAncestor 4 (some .boolean), .fieldLink RX8 24 "UndoStoreModel" "parents" "[I"] ++ wsX80)
def wsX8_mayDo : List Cond := .code yX8_mayDo cX8_mayDo 6 (some .boolean) :: ([.fieldLink RX8 30 "UndoStoreModel" "waitsFor" "[I", .fieldLink RX8 33 "UndoStoreModel" "wants" "[Z", .fieldLink RX8 21 "UndoStoreModel" "holds" "[B", .methodLink RX8 80 yX8_first, .instanceMethod yX8_first, .selects RX8 yX8_first yX8_first, .initialized RX8, .code yX8_first cX8_first 5 (some .int), .fieldLink RX8 53 "UndoStoreModel" "opened" "I", .methodLink RX8 76 yX8_isInWay, .instanceMethod yX8_isInWay, .selects RX8 yX8_isInWay yX8_isInWay, .code yX8_isInWay cX8_isInWay 5 (some .boolean), .methodLink RX8 68 yX8_isActive, .instanceMethod yX8_isActive, .selects RX8 yX8_isActive yX8_isActive, .code yX8_isActive cX8_isActive 2 (some .boolean), .fieldLink RX8 27 "UndoStoreModel" "states" "[I", .methodLink RX8 72 yX8_isAncestor, .instanceMethod yX8_isAncestor, .selects RX8 yX8_isAncestor yX8_isAncestor, .code yX8_isAncestor cX8_isAncestor 4 (some .boolean), .fieldLink RX8 24 "UndoStoreModel" "parents" "[I"] ++ wsX80)
def wsX8_open : List Cond := .code yX8_open cX8_open 2 (some .int) :: ([.fieldLink RX8 53 "UndoStoreModel" "opened" "I", .fieldLink RX8 24 "UndoStoreModel" "parents" "[I", .fieldLink RX8 27 "UndoStoreModel" "states" "[I", .fieldLink RX8 30 "UndoStoreModel" "waitsFor" "[I", .methodLink RX8 68 yX8_isActive, .instanceMethod yX8_isActive, .selects RX8 yX8_isActive yX8_isActive, .initialized RX8, .code yX8_isActive cX8_isActive 2 (some .boolean)] ++ wsX80)
def wsX8_get_r1 : List Cond := [Cond.fieldLink RX8 14 "UndoStoreModel" "wrote" "[B", Cond.constantLong RX8 84 (1099511627776), Cond.fieldLink RX8 18 "UndoStoreModel" "values" "[I", Cond.constantLong RX8 86 (4398046511104), Cond.constantLong RX8 95 (2199023255552), Cond.methodLink RX8 60 yX8_find, Cond.instanceMethod yX8_find, Cond.selects RX8 yX8_find yX8_find, Cond.initialized RX8, Cond.code yX8_find cX8_find 3 (some .int), Cond.fieldLink RX8 57 "UndoStoreModel" "keyCount" "I", Cond.fieldLink RX8 7 "UndoStoreModel" "keys" "[I", Cond.methodLink RX8 68 yX8_isActive, Cond.instanceMethod yX8_isActive, Cond.selects RX8 yX8_isActive yX8_isActive, Cond.code yX8_isActive cX8_isActive 2 (some .boolean), Cond.fieldLink RX8 53 "UndoStoreModel" "opened" "I", Cond.fieldLink RX8 27 "UndoStoreModel" "states" "[I", Cond.methodLink RX8 88 yX8_number, Cond.instanceMethod yX8_number, Cond.selects RX8 yX8_number yX8_number, Cond.code yX8_number cX8_number 3 (some .int), Cond.methodLink RX8 91 yX8_mayDo, Cond.instanceMethod yX8_mayDo]
def wsX8_get_r2 : List Cond := [Cond.selects RX8 yX8_mayDo yX8_mayDo, Cond.code yX8_mayDo cX8_mayDo 6 (some .boolean), Cond.fieldLink RX8 30 "UndoStoreModel" "waitsFor" "[I", Cond.fieldLink RX8 33 "UndoStoreModel" "wants" "[Z", Cond.fieldLink RX8 21 "UndoStoreModel" "holds" "[B", Cond.methodLink RX8 80 yX8_first, Cond.instanceMethod yX8_first, Cond.selects RX8 yX8_first yX8_first, Cond.code yX8_first cX8_first 5 (some .int), Cond.methodLink RX8 76 yX8_isInWay, Cond.instanceMethod yX8_isInWay, Cond.selects RX8 yX8_isInWay yX8_isInWay, Cond.code yX8_isInWay cX8_isInWay 5 (some .boolean), Cond.methodLink RX8 72 yX8_isAncestor, Cond.instanceMethod yX8_isAncestor, Cond.selects RX8 yX8_isAncestor yX8_isAncestor, Cond.code yX8_isAncestor cX8_isAncestor 4 (some .boolean), Cond.fieldLink RX8 24 "UndoStoreModel" "parents" "[I", Cond.methodLink RX8 64 yX8_source, Cond.instanceMethod yX8_source, Cond.selects RX8 yX8_source yX8_source, Cond.code yX8_source cX8_source 4 (some .int)]
def wsX8_get : List Cond := .code yX8_get cX8_get 5 (some .long) :: ((wsX8_get_r1 ++ wsX8_get_r2) ++ wsX80)
def wsX8_put_r1 : List Cond := [Cond.fieldLink RX8 14 "UndoStoreModel" "wrote" "[B", Cond.fieldLink RX8 18 "UndoStoreModel" "values" "[I", Cond.methodLink RX8 68 yX8_isActive, Cond.instanceMethod yX8_isActive, Cond.selects RX8 yX8_isActive yX8_isActive, Cond.initialized RX8, Cond.code yX8_isActive cX8_isActive 2 (some .boolean), Cond.fieldLink RX8 53 "UndoStoreModel" "opened" "I", Cond.fieldLink RX8 27 "UndoStoreModel" "states" "[I", Cond.methodLink RX8 88 yX8_number, Cond.instanceMethod yX8_number, Cond.selects RX8 yX8_number yX8_number, Cond.code yX8_number cX8_number 3 (some .int), Cond.fieldLink RX8 7 "UndoStoreModel" "keys" "[I", Cond.fieldLink RX8 57 "UndoStoreModel" "keyCount" "I", Cond.methodLink RX8 60 yX8_find, Cond.instanceMethod yX8_find, Cond.selects RX8 yX8_find yX8_find, Cond.code yX8_find cX8_find 3 (some .int), Cond.methodLink RX8 91 yX8_mayDo, Cond.instanceMethod yX8_mayDo, Cond.selects RX8 yX8_mayDo yX8_mayDo, Cond.code yX8_mayDo cX8_mayDo 6 (some .boolean), Cond.fieldLink RX8 30 "UndoStoreModel" "waitsFor" "[I"]
def wsX8_put_r2 : List Cond := [Cond.fieldLink RX8 33 "UndoStoreModel" "wants" "[Z", Cond.fieldLink RX8 21 "UndoStoreModel" "holds" "[B", Cond.methodLink RX8 80 yX8_first, Cond.instanceMethod yX8_first, Cond.selects RX8 yX8_first yX8_first, Cond.code yX8_first cX8_first 5 (some .int), Cond.methodLink RX8 76 yX8_isInWay, Cond.instanceMethod yX8_isInWay, Cond.selects RX8 yX8_isInWay yX8_isInWay, Cond.code yX8_isInWay cX8_isInWay 5 (some .boolean), Cond.methodLink RX8 72 yX8_isAncestor, Cond.instanceMethod yX8_isAncestor, Cond.selects RX8 yX8_isAncestor yX8_isAncestor, Cond.code yX8_isAncestor cX8_isAncestor 4 (some .boolean), Cond.fieldLink RX8 24 "UndoStoreModel" "parents" "[I", Cond.methodLink RX8 97 yX8_sees, Cond.instanceMethod yX8_sees, Cond.selects RX8 yX8_sees yX8_sees, Cond.code yX8_sees cX8_sees 3 (some .boolean), Cond.methodLink RX8 64 yX8_source, Cond.instanceMethod yX8_source, Cond.selects RX8 yX8_source yX8_source, Cond.code yX8_source cX8_source 4 (some .int)]
def wsX8_put : List Cond := .code yX8_put cX8_put 6 (some .int) :: ((wsX8_put_r1 ++ wsX8_put_r2) ++ wsX80)
def wsX8_take_r1 : List Cond := [Cond.fieldLink RX8 14 "UndoStoreModel" "wrote" "[B", Cond.fieldLink RX8 18 "UndoStoreModel" "values" "[I", Cond.methodLink RX8 68 yX8_isActive, Cond.instanceMethod yX8_isActive, Cond.selects RX8 yX8_isActive yX8_isActive, Cond.initialized RX8, Cond.code yX8_isActive cX8_isActive 2 (some .boolean), Cond.fieldLink RX8 53 "UndoStoreModel" "opened" "I", Cond.fieldLink RX8 27 "UndoStoreModel" "states" "[I", Cond.methodLink RX8 88 yX8_number, Cond.instanceMethod yX8_number, Cond.selects RX8 yX8_number yX8_number, Cond.code yX8_number cX8_number 3 (some .int), Cond.fieldLink RX8 7 "UndoStoreModel" "keys" "[I", Cond.fieldLink RX8 57 "UndoStoreModel" "keyCount" "I", Cond.methodLink RX8 60 yX8_find, Cond.instanceMethod yX8_find, Cond.selects RX8 yX8_find yX8_find, Cond.code yX8_find cX8_find 3 (some .int), Cond.methodLink RX8 91 yX8_mayDo, Cond.instanceMethod yX8_mayDo, Cond.selects RX8 yX8_mayDo yX8_mayDo, Cond.code yX8_mayDo cX8_mayDo 6 (some .boolean), Cond.fieldLink RX8 30 "UndoStoreModel" "waitsFor" "[I"]
def wsX8_take_r2 : List Cond := [Cond.fieldLink RX8 33 "UndoStoreModel" "wants" "[Z", Cond.fieldLink RX8 21 "UndoStoreModel" "holds" "[B", Cond.methodLink RX8 80 yX8_first, Cond.instanceMethod yX8_first, Cond.selects RX8 yX8_first yX8_first, Cond.code yX8_first cX8_first 5 (some .int), Cond.methodLink RX8 76 yX8_isInWay, Cond.instanceMethod yX8_isInWay, Cond.selects RX8 yX8_isInWay yX8_isInWay, Cond.code yX8_isInWay cX8_isInWay 5 (some .boolean), Cond.methodLink RX8 72 yX8_isAncestor, Cond.instanceMethod yX8_isAncestor, Cond.selects RX8 yX8_isAncestor yX8_isAncestor, Cond.code yX8_isAncestor cX8_isAncestor 4 (some .boolean), Cond.fieldLink RX8 24 "UndoStoreModel" "parents" "[I", Cond.methodLink RX8 97 yX8_sees, Cond.instanceMethod yX8_sees, Cond.selects RX8 yX8_sees yX8_sees, Cond.code yX8_sees cX8_sees 3 (some .boolean), Cond.methodLink RX8 64 yX8_source, Cond.instanceMethod yX8_source, Cond.selects RX8 yX8_source yX8_source, Cond.code yX8_source cX8_source 4 (some .int)]
def wsX8_take : List Cond := .code yX8_take cX8_take 5 (some .int) :: ((wsX8_take_r1 ++ wsX8_take_r2) ++ wsX80)
def wsX8_children : List Cond := .code yX8_children cX8_children 4 (some .int) :: ([.fieldLink RX8 53 "UndoStoreModel" "opened" "I", .fieldLink RX8 24 "UndoStoreModel" "parents" "[I", .methodLink RX8 68 yX8_isActive, .instanceMethod yX8_isActive, .selects RX8 yX8_isActive yX8_isActive, .initialized RX8, .code yX8_isActive cX8_isActive 2 (some .boolean), .fieldLink RX8 27 "UndoStoreModel" "states" "[I"] ++ wsX80)
def wsX8_marksOf : List Cond := .code yX8_marksOf cX8_marksOf 4 (some .int) :: ([.fieldLink RX8 103 "UndoStoreModel" "marks" "I", .fieldLink RX8 37 "UndoStoreModel" "owners" "[I", .fieldLink RX8 40 "UndoStoreModel" "stands" "[Z"] ++ wsX80)
def wsX8_mark : List Cond := .code yX8_mark cX8_mark 4 (some .int) :: ([.fieldLink RX8 37 "UndoStoreModel" "owners" "[I", .fieldLink RX8 103 "UndoStoreModel" "marks" "I", .fieldLink RX8 40 "UndoStoreModel" "stands" "[Z", .fieldLink RX8 44 "UndoStoreModel" "oldWrote" "[B", .fieldLink RX8 14 "UndoStoreModel" "wrote" "[B", .fieldLink RX8 47 "UndoStoreModel" "oldValues" "[I", .fieldLink RX8 18 "UndoStoreModel" "values" "[I", .methodLink RX8 68 yX8_isActive, .instanceMethod yX8_isActive, .selects RX8 yX8_isActive yX8_isActive, .initialized RX8, .code yX8_isActive cX8_isActive 2 (some .boolean), .fieldLink RX8 53 "UndoStoreModel" "opened" "I", .fieldLink RX8 27 "UndoStoreModel" "states" "[I", .methodLink RX8 100 yX8_marksOf, .instanceMethod yX8_marksOf, .selects RX8 yX8_marksOf yX8_marksOf, .code yX8_marksOf cX8_marksOf 4 (some .int)] ++ wsX80)
def wsX8_restore : List Cond := .code yX8_restore cX8_restore 7 (some .int) :: ([.fieldLink RX8 14 "UndoStoreModel" "wrote" "[B", .fieldLink RX8 44 "UndoStoreModel" "oldWrote" "[B", .fieldLink RX8 18 "UndoStoreModel" "values" "[I", .fieldLink RX8 47 "UndoStoreModel" "oldValues" "[I"] ++ wsX80)
def wsX8_back_r1 : List Cond := [Cond.fieldLink RX8 103 "UndoStoreModel" "marks" "I", Cond.fieldLink RX8 37 "UndoStoreModel" "owners" "[I", Cond.fieldLink RX8 40 "UndoStoreModel" "stands" "[Z", Cond.methodLink RX8 68 yX8_isActive, Cond.instanceMethod yX8_isActive, Cond.selects RX8 yX8_isActive yX8_isActive, Cond.initialized RX8, Cond.code yX8_isActive cX8_isActive 2 (some .boolean), Cond.fieldLink RX8 53 "UndoStoreModel" "opened" "I", Cond.fieldLink RX8 27 "UndoStoreModel" "states" "[I", Cond.methodLink RX8 106 yX8_children, Cond.instanceMethod yX8_children, Cond.selects RX8 yX8_children yX8_children, Cond.code yX8_children cX8_children 4 (some .int), Cond.fieldLink RX8 24 "UndoStoreModel" "parents" "[I", Cond.methodLink RX8 100 yX8_marksOf, Cond.instanceMethod yX8_marksOf, Cond.selects RX8 yX8_marksOf yX8_marksOf, Cond.code yX8_marksOf cX8_marksOf 4 (some .int), Cond.methodLink RX8 109 yX8_restore, Cond.instanceMethod yX8_restore, Cond.selects RX8 yX8_restore yX8_restore, Cond.code yX8_restore cX8_restore 7 (some .int), Cond.fieldLink RX8 14 "UndoStoreModel" "wrote" "[B"]
def wsX8_back_r2 : List Cond := [Cond.fieldLink RX8 44 "UndoStoreModel" "oldWrote" "[B", Cond.fieldLink RX8 18 "UndoStoreModel" "values" "[I", Cond.fieldLink RX8 47 "UndoStoreModel" "oldValues" "[I"]
def wsX8_back : List Cond := .code yX8_back cX8_back 6 (some .int) :: ((wsX8_back_r1 ++ wsX8_back_r2) ++ wsX80)
def wsX8_end : List Cond := .code yX8_end cX8_end 4 none :: ([.fieldLink RX8 27 "UndoStoreModel" "states" "[I", .fieldLink RX8 14 "UndoStoreModel" "wrote" "[B", .fieldLink RX8 18 "UndoStoreModel" "values" "[I", .fieldLink RX8 21 "UndoStoreModel" "holds" "[B", .fieldLink RX8 103 "UndoStoreModel" "marks" "I", .fieldLink RX8 40 "UndoStoreModel" "stands" "[Z", .fieldLink RX8 37 "UndoStoreModel" "owners" "[I"] ++ wsX80)
def wsX8_commit : List Cond := .code yX8_commit cX8_commit 7 (some .int) :: ([.fieldLink RX8 24 "UndoStoreModel" "parents" "[I", .fieldLink RX8 14 "UndoStoreModel" "wrote" "[B", .fieldLink RX8 18 "UndoStoreModel" "values" "[I", .fieldLink RX8 21 "UndoStoreModel" "holds" "[B", .methodLink RX8 68 yX8_isActive, .instanceMethod yX8_isActive, .selects RX8 yX8_isActive yX8_isActive, .initialized RX8, .code yX8_isActive cX8_isActive 2 (some .boolean), .fieldLink RX8 53 "UndoStoreModel" "opened" "I", .fieldLink RX8 27 "UndoStoreModel" "states" "[I", .methodLink RX8 106 yX8_children, .instanceMethod yX8_children, .selects RX8 yX8_children yX8_children, .code yX8_children cX8_children 4 (some .int), .methodLink RX8 112 yX8_end, .instanceMethod yX8_end, .selects RX8 yX8_end yX8_end, .code yX8_end cX8_end 4 none, .fieldLink RX8 103 "UndoStoreModel" "marks" "I", .fieldLink RX8 40 "UndoStoreModel" "stands" "[Z", .fieldLink RX8 37 "UndoStoreModel" "owners" "[I"] ++ wsX80)
def wsX8_abort : List Cond := .code yX8_abort cX8_abort 4 (some .int) :: ([.fieldLink RX8 53 "UndoStoreModel" "opened" "I", .methodLink RX8 68 yX8_isActive, .instanceMethod yX8_isActive, .selects RX8 yX8_isActive yX8_isActive, .initialized RX8, .code yX8_isActive cX8_isActive 2 (some .boolean), .fieldLink RX8 27 "UndoStoreModel" "states" "[I", .methodLink RX8 72 yX8_isAncestor, .instanceMethod yX8_isAncestor, .selects RX8 yX8_isAncestor yX8_isAncestor, .code yX8_isAncestor cX8_isAncestor 4 (some .boolean), .fieldLink RX8 24 "UndoStoreModel" "parents" "[I", .methodLink RX8 112 yX8_end, .instanceMethod yX8_end, .selects RX8 yX8_end yX8_end, .code yX8_end cX8_end 4 none, .fieldLink RX8 14 "UndoStoreModel" "wrote" "[B", .fieldLink RX8 18 "UndoStoreModel" "values" "[I", .fieldLink RX8 21 "UndoStoreModel" "holds" "[B", .fieldLink RX8 103 "UndoStoreModel" "marks" "I", .fieldLink RX8 40 "UndoStoreModel" "stands" "[Z", .fieldLink RX8 37 "UndoStoreModel" "owners" "[I"] ++ wsX80)
def wsX8_state : List Cond := .code yX8_state cX8_state 2 (some .int) :: ([.fieldLink RX8 53 "UndoStoreModel" "opened" "I", .fieldLink RX8 27 "UndoStoreModel" "states" "[I"] ++ wsX80)
def wsX8_told : List Cond := .code yX8_told cX8_told 6 (some .int) :: ([.fieldLink RX8 53 "UndoStoreModel" "opened" "I", .fieldLink RX8 24 "UndoStoreModel" "parents" "[I", .fieldLink RX8 14 "UndoStoreModel" "wrote" "[B", .fieldLink RX8 21 "UndoStoreModel" "holds" "[B", .methodLink RX8 106 yX8_children, .instanceMethod yX8_children, .selects RX8 yX8_children yX8_children, .initialized RX8, .code yX8_children cX8_children 4 (some .int), .methodLink RX8 68 yX8_isActive, .instanceMethod yX8_isActive, .selects RX8 yX8_isActive yX8_isActive, .code yX8_isActive cX8_isActive 2 (some .boolean), .fieldLink RX8 27 "UndoStoreModel" "states" "[I", .methodLink RX8 100 yX8_marksOf, .instanceMethod yX8_marksOf, .selects RX8 yX8_marksOf yX8_marksOf, .code yX8_marksOf cX8_marksOf 4 (some .int), .fieldLink RX8 103 "UndoStoreModel" "marks" "I", .fieldLink RX8 37 "UndoStoreModel" "owners" "[I", .fieldLink RX8 40 "UndoStoreModel" "stands" "[Z"] ++ wsX80)
def wsX8_held : List Cond := .code yX8_held cX8_held 4 (some .int) :: ([.fieldLink RX8 21 "UndoStoreModel" "holds" "[B", .methodLink RX8 68 yX8_isActive, .instanceMethod yX8_isActive, .selects RX8 yX8_isActive yX8_isActive, .initialized RX8, .code yX8_isActive cX8_isActive 2 (some .boolean), .fieldLink RX8 53 "UndoStoreModel" "opened" "I", .fieldLink RX8 27 "UndoStoreModel" "states" "[I", .methodLink RX8 60 yX8_find, .instanceMethod yX8_find, .selects RX8 yX8_find yX8_find, .code yX8_find cX8_find 3 (some .int), .fieldLink RX8 57 "UndoStoreModel" "keyCount" "I", .fieldLink RX8 7 "UndoStoreModel" "keys" "[I"] ++ wsX80)
def wsX8_blocker_r1 : List Cond := [Cond.methodLink RX8 68 yX8_isActive, Cond.instanceMethod yX8_isActive, Cond.selects RX8 yX8_isActive yX8_isActive, Cond.initialized RX8, Cond.code yX8_isActive cX8_isActive 2 (some .boolean), Cond.fieldLink RX8 53 "UndoStoreModel" "opened" "I", Cond.fieldLink RX8 27 "UndoStoreModel" "states" "[I", Cond.methodLink RX8 60 yX8_find, Cond.instanceMethod yX8_find, Cond.selects RX8 yX8_find yX8_find, Cond.code yX8_find cX8_find 3 (some .int), Cond.fieldLink RX8 57 "UndoStoreModel" "keyCount" "I", Cond.fieldLink RX8 7 "UndoStoreModel" "keys" "[I", Cond.methodLink RX8 80 yX8_first, Cond.instanceMethod yX8_first, Cond.selects RX8 yX8_first yX8_first, Cond.code yX8_first cX8_first 5 (some .int), Cond.methodLink RX8 76 yX8_isInWay, Cond.instanceMethod yX8_isInWay, Cond.selects RX8 yX8_isInWay yX8_isInWay, Cond.code yX8_isInWay cX8_isInWay 5 (some .boolean), Cond.fieldLink RX8 21 "UndoStoreModel" "holds" "[B", Cond.methodLink RX8 72 yX8_isAncestor, Cond.instanceMethod yX8_isAncestor]
def wsX8_blocker_r2 : List Cond := [Cond.selects RX8 yX8_isAncestor yX8_isAncestor, Cond.code yX8_isAncestor cX8_isAncestor 4 (some .boolean), Cond.fieldLink RX8 24 "UndoStoreModel" "parents" "[I"]
def wsX8_blocker : List Cond := .code yX8_blocker cX8_blocker 4 (some .int) :: ((wsX8_blocker_r1 ++ wsX8_blocker_r2) ++ wsX80)
def wsX8_waits : List Cond := .code yX8_waits cX8_waits 2 (some .int) :: ([.fieldLink RX8 30 "UndoStoreModel" "waitsFor" "[I", .fieldLink RX8 33 "UndoStoreModel" "wants" "[Z", .methodLink RX8 68 yX8_isActive, .instanceMethod yX8_isActive, .selects RX8 yX8_isActive yX8_isActive, .initialized RX8, .code yX8_isActive cX8_isActive 2 (some .boolean), .fieldLink RX8 53 "UndoStoreModel" "opened" "I", .fieldLink RX8 27 "UndoStoreModel" "states" "[I", .methodLink RX8 80 yX8_first, .instanceMethod yX8_first, .selects RX8 yX8_first yX8_first, .code yX8_first cX8_first 5 (some .int), .methodLink RX8 76 yX8_isInWay, .instanceMethod yX8_isInWay, .selects RX8 yX8_isInWay yX8_isInWay, .code yX8_isInWay cX8_isInWay 5 (some .boolean), .fieldLink RX8 21 "UndoStoreModel" "holds" "[B", .methodLink RX8 72 yX8_isAncestor, .instanceMethod yX8_isAncestor, .selects RX8 yX8_isAncestor yX8_isAncestor, .code yX8_isAncestor cX8_isAncestor 4 (some .boolean), .fieldLink RX8 24 "UndoStoreModel" "parents" "[I"] ++ wsX80)
def wsX8_reach : List Cond := .code yX8_reach cX8_reach 7 none :: ([.fieldLink RX8 53 "UndoStoreModel" "opened" "I", .fieldLink RX8 50 "UndoStoreModel" "reached" "[Z", .fieldLink RX8 30 "UndoStoreModel" "waitsFor" "[I", .fieldLink RX8 33 "UndoStoreModel" "wants" "[Z", .methodLink RX8 68 yX8_isActive, .instanceMethod yX8_isActive, .selects RX8 yX8_isActive yX8_isActive, .initialized RX8, .code yX8_isActive cX8_isActive 2 (some .boolean), .fieldLink RX8 27 "UndoStoreModel" "states" "[I", .methodLink RX8 76 yX8_isInWay, .instanceMethod yX8_isInWay, .selects RX8 yX8_isInWay yX8_isInWay, .code yX8_isInWay cX8_isInWay 5 (some .boolean), .fieldLink RX8 21 "UndoStoreModel" "holds" "[B", .methodLink RX8 72 yX8_isAncestor, .instanceMethod yX8_isAncestor, .selects RX8 yX8_isAncestor yX8_isAncestor, .code yX8_isAncestor cX8_isAncestor 4 (some .boolean), .fieldLink RX8 24 "UndoStoreModel" "parents" "[I"] ++ wsX80)
def wsX8_ring : List Cond := .code yX8_ring cX8_ring 3 (some .int) :: ([.fieldLink RX8 53 "UndoStoreModel" "opened" "I", .fieldLink RX8 50 "UndoStoreModel" "reached" "[Z", .methodLink RX8 116 yX8_reach, .instanceMethod yX8_reach, .selects RX8 yX8_reach yX8_reach, .initialized RX8, .code yX8_reach cX8_reach 7 none, .fieldLink RX8 30 "UndoStoreModel" "waitsFor" "[I", .fieldLink RX8 33 "UndoStoreModel" "wants" "[Z", .methodLink RX8 68 yX8_isActive, .instanceMethod yX8_isActive, .selects RX8 yX8_isActive yX8_isActive, .code yX8_isActive cX8_isActive 2 (some .boolean), .fieldLink RX8 27 "UndoStoreModel" "states" "[I", .methodLink RX8 76 yX8_isInWay, .instanceMethod yX8_isInWay, .selects RX8 yX8_isInWay yX8_isInWay, .code yX8_isInWay cX8_isInWay 5 (some .boolean), .fieldLink RX8 21 "UndoStoreModel" "holds" "[B", .methodLink RX8 72 yX8_isAncestor, .instanceMethod yX8_isAncestor, .selects RX8 yX8_isAncestor yX8_isAncestor, .code yX8_isAncestor cX8_isAncestor 4 (some .boolean), .fieldLink RX8 24 "UndoStoreModel" "parents" "[I"] ++ wsX80)
def wsX8_isThere : List Cond := .code yX8_isThere cX8_isThere 2 (some .boolean) :: ([.methodLink RX8 68 yX8_isActive, .instanceMethod yX8_isActive, .selects RX8 yX8_isActive yX8_isActive, .initialized RX8, .code yX8_isActive cX8_isActive 2 (some .boolean), .fieldLink RX8 53 "UndoStoreModel" "opened" "I", .fieldLink RX8 27 "UndoStoreModel" "states" "[I"] ++ wsX80)
def wsX8_size : List Cond := .code yX8_size cX8_size 4 (some .int) :: ([.fieldLink RX8 57 "UndoStoreModel" "keyCount" "I", .methodLink RX8 120 yX8_isThere, .instanceMethod yX8_isThere, .selects RX8 yX8_isThere yX8_isThere, .initialized RX8, .code yX8_isThere cX8_isThere 2 (some .boolean), .methodLink RX8 68 yX8_isActive, .instanceMethod yX8_isActive, .selects RX8 yX8_isActive yX8_isActive, .code yX8_isActive cX8_isActive 2 (some .boolean), .fieldLink RX8 53 "UndoStoreModel" "opened" "I", .fieldLink RX8 27 "UndoStoreModel" "states" "[I", .methodLink RX8 97 yX8_sees, .instanceMethod yX8_sees, .selects RX8 yX8_sees yX8_sees, .code yX8_sees cX8_sees 3 (some .boolean), .methodLink RX8 64 yX8_source, .instanceMethod yX8_source, .selects RX8 yX8_source yX8_source, .code yX8_source cX8_source 4 (some .int), .fieldLink RX8 14 "UndoStoreModel" "wrote" "[B", .fieldLink RX8 24 "UndoStoreModel" "parents" "[I"] ++ wsX80)
def wsX8_next_r1 : List Cond := [Cond.constantLong RX8 86 (4398046511104), Cond.constantLong RX8 84 (1099511627776), Cond.fieldLink RX8 57 "UndoStoreModel" "keyCount" "I", Cond.fieldLink RX8 7 "UndoStoreModel" "keys" "[I", Cond.methodLink RX8 120 yX8_isThere, Cond.instanceMethod yX8_isThere, Cond.selects RX8 yX8_isThere yX8_isThere, Cond.initialized RX8, Cond.code yX8_isThere cX8_isThere 2 (some .boolean), Cond.methodLink RX8 68 yX8_isActive, Cond.instanceMethod yX8_isActive, Cond.selects RX8 yX8_isActive yX8_isActive, Cond.code yX8_isActive cX8_isActive 2 (some .boolean), Cond.fieldLink RX8 53 "UndoStoreModel" "opened" "I", Cond.fieldLink RX8 27 "UndoStoreModel" "states" "[I", Cond.methodLink RX8 97 yX8_sees, Cond.instanceMethod yX8_sees, Cond.selects RX8 yX8_sees yX8_sees, Cond.code yX8_sees cX8_sees 3 (some .boolean), Cond.methodLink RX8 64 yX8_source, Cond.instanceMethod yX8_source, Cond.selects RX8 yX8_source yX8_source, Cond.code yX8_source cX8_source 4 (some .int), Cond.fieldLink RX8 14 "UndoStoreModel" "wrote" "[B"]
def wsX8_next_r2 : List Cond := [Cond.fieldLink RX8 24 "UndoStoreModel" "parents" "[I"]
def wsX8_next : List Cond := .code yX8_next cX8_next 6 (some .long) :: ((wsX8_next_r1 ++ wsX8_next_r2) ++ wsX80)
def wsX8_sum_r1 : List Cond := [Cond.constantLong RX8 86 (4398046511104), Cond.fieldLink RX8 57 "UndoStoreModel" "keyCount" "I", Cond.fieldLink RX8 7 "UndoStoreModel" "keys" "[I", Cond.fieldLink RX8 18 "UndoStoreModel" "values" "[I", Cond.methodLink RX8 120 yX8_isThere, Cond.instanceMethod yX8_isThere, Cond.selects RX8 yX8_isThere yX8_isThere, Cond.initialized RX8, Cond.code yX8_isThere cX8_isThere 2 (some .boolean), Cond.methodLink RX8 68 yX8_isActive, Cond.instanceMethod yX8_isActive, Cond.selects RX8 yX8_isActive yX8_isActive, Cond.code yX8_isActive cX8_isActive 2 (some .boolean), Cond.fieldLink RX8 53 "UndoStoreModel" "opened" "I", Cond.fieldLink RX8 27 "UndoStoreModel" "states" "[I", Cond.methodLink RX8 97 yX8_sees, Cond.instanceMethod yX8_sees, Cond.selects RX8 yX8_sees yX8_sees, Cond.code yX8_sees cX8_sees 3 (some .boolean), Cond.methodLink RX8 64 yX8_source, Cond.instanceMethod yX8_source, Cond.selects RX8 yX8_source yX8_source, Cond.code yX8_source cX8_source 4 (some .int), Cond.fieldLink RX8 14 "UndoStoreModel" "wrote" "[B"]
def wsX8_sum_r2 : List Cond := [Cond.fieldLink RX8 24 "UndoStoreModel" "parents" "[I"]
def wsX8_sum : List Cond := .code yX8_sum cX8_sum 7 (some .long) :: ((wsX8_sum_r1 ++ wsX8_sum_r2) ++ wsX80)
def wsJ9_max_7cf53 : List Cond := .code yJ9_max_7cf53 cJ9_max_7cf53 2 (some .int) :: ([])
def wsJ9_min_f86c9 : List Cond := .code yJ9_min_f86c9 cJ9_min_f86c9 4 (some .long) :: ([])
def wsL_law_r1 : List Cond := [Cond.classLink RL 7 RX7, Cond.instantiable RX7 7, Cond.initialized RX7, Cond.classLink RL 10 RX8, Cond.instantiable RX8 16, Cond.initialized RX8, Cond.methodLink RL 9 yX7_init, Cond.instanceMethod yX7_init, Cond.code yX7_init cX7_init 1 none, Cond.methodLink RX7 1 objectInit, Cond.instanceMethod objectInit, Cond.code objectInit ⟨#[0xb1]⟩ 1 none, Cond.classLink RX7 7 RX0, Cond.instantiable RX0 4, Cond.initialized RX0, Cond.fieldLink RX7 10 "UndoStore" "family" "LUndoStore$Family;", Cond.classLink RX7 16 RX2, Cond.instantiable RX2 2, Cond.initialized RX2, Cond.fieldLink RX7 19 "UndoStore" "keys" "LUndoStore$Keys;", Cond.classLink RX7 23 RX6, Cond.instantiable RX6 8, Cond.initialized RX6, Cond.fieldLink RX7 26 "UndoStore" "writes" "LUndoStore$Writes;"]
def wsL_law_r2 : List Cond := [Cond.classLink RX7 30 RX1, Cond.instantiable RX1 4, Cond.initialized RX1, Cond.fieldLink RX7 33 "UndoStore" "holds" "LUndoStore$Holds;", Cond.classLink RX7 37 RX3, Cond.instantiable RX3 2, Cond.initialized RX3, Cond.fieldLink RX7 40 "UndoStore" "marks" "LUndoStore$Marks;", Cond.classLink RX7 44 RX5, Cond.instantiable RX5 2, Cond.initialized RX5, Cond.fieldLink RX7 47 "UndoStore" "wishes" "LUndoStore$Wishes;", Cond.classLink RX7 51 RX4, Cond.instantiable RX4 1, Cond.initialized RX4, Cond.fieldLink RX7 54 "UndoStore" "reach" "LUndoStore$Reach;", Cond.instanceMethod yX0_init, Cond.code yX0_init cX0_init 1 none, Cond.methodLink RX0 3 objectInit, Cond.arrayClass .int, Cond.fieldLink RX0 9 "UndoStore$Family" "parents" "[I", Cond.fieldLink RX0 15 "UndoStore$Family" "states" "[I", Cond.arrayClass .boolean, Cond.fieldLink RX0 18 "UndoStore$Family" "line" "[Z"]
def wsL_law_r3 : List Cond := [Cond.fieldLink RX0 22 "UndoStore$Family" "opened" "I", Cond.instanceMethod yX2_init, Cond.code yX2_init cX2_init 1 none, Cond.methodLink RX2 3 objectInit, Cond.fieldLink RX2 9 "UndoStore$Keys" "known" "[I", Cond.fieldLink RX2 15 "UndoStore$Keys" "count" "I", Cond.instanceMethod yX6_init, Cond.code yX6_init cX6_init 1 none, Cond.methodLink RX6 3 objectInit, Cond.fieldLink RX6 9 "UndoStore$Writes" "owners" "[I", Cond.fieldLink RX6 15 "UndoStore$Writes" "slots" "[I", Cond.fieldLink RX6 18 "UndoStore$Writes" "values" "[I", Cond.fieldLink RX6 21 "UndoStore$Writes" "away" "[Z", Cond.fieldLink RX6 25 "UndoStore$Writes" "times" "[I", Cond.fieldLink RX6 28 "UndoStore$Writes" "count" "I", Cond.fieldLink RX6 32 "UndoStore$Writes" "found" "[I", Cond.fieldLink RX6 35 "UndoStore$Writes" "earlier" "[I", Cond.instanceMethod yX1_init, Cond.code yX1_init cX1_init 1 none, Cond.methodLink RX1 3 objectInit, Cond.fieldLink RX1 9 "UndoStore$Holds" "owners" "[I", Cond.fieldLink RX1 15 "UndoStore$Holds" "slots" "[I", Cond.fieldLink RX1 18 "UndoStore$Holds" "kinds" "[I", Cond.fieldLink RX1 21 "UndoStore$Holds" "count" "I"]
def wsL_law_r4 : List Cond := [Cond.instanceMethod yX3_init, Cond.code yX3_init cX3_init 1 none, Cond.methodLink RX3 3 objectInit, Cond.fieldLink RX3 9 "UndoStore$Marks" "owners" "[I", Cond.fieldLink RX3 15 "UndoStore$Marks" "count" "I", Cond.instanceMethod yX5_init, Cond.code yX5_init cX5_init 1 none, Cond.methodLink RX5 3 objectInit, Cond.fieldLink RX5 9 "UndoStore$Wishes" "slots" "[I", Cond.fieldLink RX5 15 "UndoStore$Wishes" "kinds" "[I", Cond.instanceMethod yX4_init, Cond.code yX4_init cX4_init 1 none, Cond.methodLink RX4 5 objectInit, Cond.arrayClass .long, Cond.fieldLink RX4 11 "UndoStore$Reach" "bits" "[J", Cond.methodLink RL 12 yX8_init, Cond.instanceMethod yX8_init, Cond.code yX8_init cX8_init 1 none, Cond.methodLink RX8 1 objectInit, Cond.fieldLink RX8 7 "UndoStoreModel" "keys" "[I", Cond.constant RX8 13 (78520), Cond.arrayClass .byte, Cond.fieldLink RX8 14 "UndoStoreModel" "wrote" "[B", Cond.fieldLink RX8 18 "UndoStoreModel" "values" "[I"]
def wsL_law_r5 : List Cond := [Cond.fieldLink RX8 21 "UndoStoreModel" "holds" "[B", Cond.fieldLink RX8 24 "UndoStoreModel" "parents" "[I", Cond.fieldLink RX8 27 "UndoStoreModel" "states" "[I", Cond.fieldLink RX8 30 "UndoStoreModel" "waitsFor" "[I", Cond.fieldLink RX8 33 "UndoStoreModel" "wants" "[Z", Cond.fieldLink RX8 37 "UndoStoreModel" "owners" "[I", Cond.fieldLink RX8 40 "UndoStoreModel" "stands" "[Z", Cond.constant RX8 43 (270400), Cond.fieldLink RX8 44 "UndoStoreModel" "oldWrote" "[B", Cond.fieldLink RX8 47 "UndoStoreModel" "oldValues" "[I", Cond.fieldLink RX8 50 "UndoStoreModel" "reached" "[Z", Cond.methodLink RL 13 yX7_open, Cond.instanceMethod yX7_open, Cond.selects RX7 yX7_open yX7_open, Cond.code yX7_open cX7_open 2 (some .int), Cond.methodLink RX7 58 yX0_canBeAsked, Cond.instanceMethod yX0_canBeAsked, Cond.selects RX0 yX0_canBeAsked yX0_canBeAsked, Cond.code yX0_canBeAsked cX0_canBeAsked 2 (some .boolean), Cond.methodLink RX0 30 yX0_isActive, Cond.instanceMethod yX0_isActive, Cond.selects RX0 yX0_isActive yX0_isActive, Cond.code yX0_isActive cX0_isActive 2 (some .boolean), Cond.methodLink RX0 26 yX0_exists]
def wsL_law_r6 : List Cond := [Cond.instanceMethod yX0_exists, Cond.selects RX0 yX0_exists yX0_exists, Cond.code yX0_exists cX0_exists 2 (some .boolean), Cond.methodLink RX7 62 yX0_isFull, Cond.instanceMethod yX0_isFull, Cond.selects RX0 yX0_isFull yX0_isFull, Cond.code yX0_isFull cX0_isFull 1 (some .boolean), Cond.methodLink RX7 66 yX0_add, Cond.instanceMethod yX0_add, Cond.selects RX0 yX0_add yX0_add, Cond.code yX0_add cX0_add 2 (some .int), Cond.methodLink RL 17 yX8_open, Cond.instanceMethod yX8_open, Cond.selects RX8 yX8_open yX8_open, Cond.code yX8_open cX8_open 2 (some .int), Cond.fieldLink RX8 53 "UndoStoreModel" "opened" "I", Cond.methodLink RX8 68 yX8_isActive, Cond.instanceMethod yX8_isActive, Cond.selects RX8 yX8_isActive yX8_isActive, Cond.code yX8_isActive cX8_isActive 2 (some .boolean), Cond.methodLink RL 18 yX7_get, Cond.instanceMethod yX7_get, Cond.selects RX7 yX7_get yX7_get, Cond.code yX7_get cX7_get 4 (some .long)]
def wsL_law_r7 : List Cond := [Cond.constantLong RX7 70 (4398046511104), Cond.constantLong RX7 80 (2199023255552), Cond.methodLink RX7 72 yX2_findOrAdd, Cond.instanceMethod yX2_findOrAdd, Cond.selects RX2 yX2_findOrAdd yX2_findOrAdd, Cond.code yX2_findOrAdd cX2_findOrAdd 3 (some .int), Cond.methodLink RX2 19 yX2_find, Cond.instanceMethod yX2_find, Cond.selects RX2 yX2_find yX2_find, Cond.code yX2_find cX2_find 3 (some .int), Cond.methodLink RX7 75 yX1_isFull, Cond.instanceMethod yX1_isFull, Cond.selects RX1 yX1_isFull yX1_isFull, Cond.code yX1_isFull cX1_isFull 1 (some .boolean), Cond.methodLink RX7 76 yX7_mustWait, Cond.instanceMethod yX7_mustWait, Cond.selects RX7 yX7_mustWait yX7_mustWait, Cond.code yX7_mustWait cX7_mustWait 4 (some .boolean), Cond.methodLink RX7 158 yX7_leastInTheWay, Cond.instanceMethod yX7_leastInTheWay, Cond.selects RX7 yX7_leastInTheWay yX7_leastInTheWay, Cond.code yX7_leastInTheWay cX7_leastInTheWay 4 (some .int), Cond.methodLink RX7 215 yX0_trace, Cond.instanceMethod yX0_trace]
def wsL_law_r8 : List Cond := [Cond.selects RX0 yX0_trace yX0_trace, Cond.code yX0_trace cX0_trace 3 none, Cond.methodLink RX7 218 yX0_line, Cond.instanceMethod yX0_line, Cond.selects RX0 yX0_line yX0_line, Cond.code yX0_line cX0_line 1 (some (.array .boolean)), Cond.methodLink RX7 222 yX1_leastInTheWay, Cond.instanceMethod yX1_leastInTheWay, Cond.selects RX1 yX1_leastInTheWay yX1_leastInTheWay, Cond.code yX1_leastInTheWay cX1_leastInTheWay 6 (some .int), Cond.methodLink RX1 34 yX1_isInTheWay, Cond.instanceMethod yX1_isInTheWay, Cond.selects RX1 yX1_isInTheWay yX1_isInTheWay, Cond.code yX1_isInTheWay cX1_isInTheWay 5 (some .boolean), Cond.methodLink RX7 209 yX5_clear, Cond.instanceMethod yX5_clear, Cond.selects RX5 yX5_clear yX5_clear, Cond.code yX5_clear cX5_clear 2 none, Cond.methodLink RX7 212 yX5_set, Cond.instanceMethod yX5_set, Cond.selects RX5 yX5_set yX5_set, Cond.code yX5_set cX5_set 4 none, Cond.methodLink RX7 82 yX1_add, Cond.instanceMethod yX1_add]
def wsL_law_r9 : List Cond := [Cond.selects RX1 yX1_add yX1_add, Cond.code yX1_add cX1_add 5 none, Cond.methodLink RX1 29 Lib.Math.max.name, Cond.static Lib.Math.max.name, Cond.initialized "java/lang/Math", Cond.code Lib.Math.max.name Lib.Math.max.code 2 (some .int), Cond.methodLink RX1 25 yX1_find, Cond.instanceMethod yX1_find, Cond.selects RX1 yX1_find yX1_find, Cond.code yX1_find cX1_find 4 (some .int), Cond.methodLink RX7 85 yX7_valueSeen, Cond.instanceMethod yX7_valueSeen, Cond.selects RX7 yX7_valueSeen yX7_valueSeen, Cond.code yX7_valueSeen cX7_valueSeen 4 (some .long), Cond.constantLong RX7 190 (1099511627776), Cond.methodLink RX7 153 yX2_find, Cond.methodLink RX7 181 yX7_look, Cond.instanceMethod yX7_look, Cond.selects RX7 yX7_look yX7_look, Cond.code yX7_look cX7_look 2 none, Cond.methodLink RX7 225 yX6_findSeen, Cond.instanceMethod yX6_findSeen, Cond.selects RX6 yX6_findSeen yX6_findSeen, Cond.code yX6_findSeen cX6_findSeen 3 none]
def wsL_law_r10 : List Cond := [Cond.methodLink RX6 38 yJ7_fill_53178, Cond.static yJ7_fill_53178, Cond.initialized RJ7, Cond.code yJ7_fill_53178 cJ7_fill_53178 4 none, Cond.methodLink RX7 187 yX6_hasFound, Cond.instanceMethod yX6_hasFound, Cond.selects RX6 yX6_hasFound yX6_hasFound, Cond.code yX6_hasFound cX6_hasFound 2 (some .boolean), Cond.methodLink RX7 201 yX6_valueFound, Cond.instanceMethod yX6_valueFound, Cond.selects RX6 yX6_valueFound yX6_valueFound, Cond.code yX6_valueFound cX6_valueFound 2 (some .long), Cond.constantLong RX6 44 (1099511627776), Cond.methodLink RL 22 yX8_get, Cond.instanceMethod yX8_get, Cond.selects RX8 yX8_get yX8_get, Cond.code yX8_get cX8_get 5 (some .long), Cond.constantLong RX8 84 (1099511627776), Cond.constantLong RX8 86 (4398046511104), Cond.constantLong RX8 95 (2199023255552), Cond.methodLink RX8 60 yX8_find, Cond.instanceMethod yX8_find, Cond.selects RX8 yX8_find yX8_find, Cond.code yX8_find cX8_find 3 (some .int)]
def wsL_law_r11 : List Cond := [Cond.fieldLink RX8 57 "UndoStoreModel" "keyCount" "I", Cond.methodLink RX8 88 yX8_number, Cond.instanceMethod yX8_number, Cond.selects RX8 yX8_number yX8_number, Cond.code yX8_number cX8_number 3 (some .int), Cond.methodLink RX8 91 yX8_mayDo, Cond.instanceMethod yX8_mayDo, Cond.selects RX8 yX8_mayDo yX8_mayDo, Cond.code yX8_mayDo cX8_mayDo 6 (some .boolean), Cond.methodLink RX8 80 yX8_first, Cond.instanceMethod yX8_first, Cond.selects RX8 yX8_first yX8_first, Cond.code yX8_first cX8_first 5 (some .int), Cond.methodLink RX8 76 yX8_isInWay, Cond.instanceMethod yX8_isInWay, Cond.selects RX8 yX8_isInWay yX8_isInWay, Cond.code yX8_isInWay cX8_isInWay 5 (some .boolean), Cond.methodLink RX8 72 yX8_isAncestor, Cond.instanceMethod yX8_isAncestor, Cond.selects RX8 yX8_isAncestor yX8_isAncestor, Cond.code yX8_isAncestor cX8_isAncestor 4 (some .boolean), Cond.methodLink RX8 64 yX8_source, Cond.instanceMethod yX8_source, Cond.selects RX8 yX8_source yX8_source]
def wsL_law_r12 : List Cond := [Cond.code yX8_source cX8_source 4 (some .int), Cond.methodLink RL 23 yX7_put, Cond.instanceMethod yX7_put, Cond.selects RX7 yX7_put yX7_put, Cond.code yX7_put cX7_put 4 (some .int), Cond.methodLink RX7 89 yX7_change, Cond.instanceMethod yX7_change, Cond.selects RX7 yX7_change yX7_change, Cond.code yX7_change cX7_change 7 (some .int), Cond.methodLink RX7 93 yX0_isActive, Cond.methodLink RX7 205 yX6_isFull, Cond.instanceMethod yX6_isFull, Cond.selects RX6 yX6_isFull yX6_isFull, Cond.code yX6_isFull cX6_isFull 1 (some .boolean), Cond.methodLink RX7 121 yX3_now, Cond.instanceMethod yX3_now, Cond.selects RX3 yX3_now yX3_now, Cond.code yX3_now cX3_now 1 (some .int), Cond.methodLink RX7 206 yX6_add, Cond.instanceMethod yX6_add, Cond.selects RX6 yX6_add yX6_add, Cond.code yX6_add cX6_add 6 none, Cond.methodLink RL 27 yX8_put, Cond.instanceMethod yX8_put]
def wsL_law_r13 : List Cond := [Cond.selects RX8 yX8_put yX8_put, Cond.code yX8_put cX8_put 6 (some .int), Cond.methodLink RX8 97 yX8_sees, Cond.instanceMethod yX8_sees, Cond.selects RX8 yX8_sees yX8_sees, Cond.code yX8_sees cX8_sees 3 (some .boolean), Cond.methodLink RL 28 yX7_take, Cond.instanceMethod yX7_take, Cond.selects RX7 yX7_take yX7_take, Cond.code yX7_take cX7_take 3 (some .int), Cond.methodLink RL 32 yX8_take, Cond.instanceMethod yX8_take, Cond.selects RX8 yX8_take yX8_take, Cond.code yX8_take cX8_take 5 (some .int), Cond.methodLink RL 33 yX7_mark, Cond.instanceMethod yX7_mark, Cond.selects RX7 yX7_mark yX7_mark, Cond.code yX7_mark cX7_mark 2 (some .int), Cond.methodLink RX7 96 yX3_isFull, Cond.instanceMethod yX3_isFull, Cond.selects RX3 yX3_isFull yX3_isFull, Cond.code yX3_isFull cX3_isFull 1 (some .boolean), Cond.methodLink RX7 97 yX3_add, Cond.instanceMethod yX3_add]
def wsL_law_r14 : List Cond := [Cond.selects RX3 yX3_add yX3_add, Cond.code yX3_add cX3_add 3 (some .int), Cond.methodLink RX3 19 yX3_countOf, Cond.instanceMethod yX3_countOf, Cond.selects RX3 yX3_countOf yX3_countOf, Cond.code yX3_countOf cX3_countOf 4 (some .int), Cond.methodLink RL 36 yX8_mark, Cond.instanceMethod yX8_mark, Cond.selects RX8 yX8_mark yX8_mark, Cond.code yX8_mark cX8_mark 4 (some .int), Cond.fieldLink RX8 103 "UndoStoreModel" "marks" "I", Cond.methodLink RX8 100 yX8_marksOf, Cond.instanceMethod yX8_marksOf, Cond.selects RX8 yX8_marksOf yX8_marksOf, Cond.code yX8_marksOf cX8_marksOf 4 (some .int), Cond.methodLink RL 37 yX7_back, Cond.instanceMethod yX7_back, Cond.selects RX7 yX7_back yX7_back, Cond.code yX7_back cX7_back 4 (some .int), Cond.methodLink RX7 98 yX7_canEndOrGoBack, Cond.instanceMethod yX7_canEndOrGoBack, Cond.selects RX7 yX7_canEndOrGoBack yX7_canEndOrGoBack, Cond.code yX7_canEndOrGoBack cX7_canEndOrGoBack 2 (some .boolean), Cond.methodLink RX7 145 yX0_activeChildrenOf]
def wsL_law_r15 : List Cond := [Cond.instanceMethod yX0_activeChildrenOf, Cond.selects RX0 yX0_activeChildrenOf yX0_activeChildrenOf, Cond.code yX0_activeChildrenOf cX0_activeChildrenOf 4 (some .int), Cond.methodLink RX7 101 yX3_find, Cond.instanceMethod yX3_find, Cond.selects RX3 yX3_find yX3_find, Cond.code yX3_find cX3_find 5 (some .int), Cond.methodLink RX7 105 yX3_dropAfter, Cond.instanceMethod yX3_dropAfter, Cond.selects RX3 yX3_dropAfter yX3_dropAfter, Cond.code yX3_dropAfter cX3_dropAfter 4 none, Cond.methodLink RX7 109 yX3_timeOf, Cond.instanceMethod yX3_timeOf, Cond.selects RX3 yX3_timeOf yX3_timeOf, Cond.code yX3_timeOf cX3_timeOf 2 (some .int), Cond.methodLink RX7 112 yX6_undo, Cond.instanceMethod yX6_undo, Cond.selects RX6 yX6_undo yX6_undo, Cond.code yX6_undo cX6_undo 5 (some .int), Cond.methodLink RX6 46 yX6_findOwn, Cond.instanceMethod yX6_findOwn, Cond.selects RX6 yX6_findOwn yX6_findOwn, Cond.code yX6_findOwn cX6_findOwn 4 none, Cond.methodLink RX6 50 yX6_dropFrom]
def wsL_law_r16 : List Cond := [Cond.instanceMethod yX6_dropFrom, Cond.selects RX6 yX6_dropFrom yX6_dropFrom, Cond.code yX6_dropFrom cX6_dropFrom 4 none, Cond.methodLink RX6 54 yX6_sayTheSame, Cond.instanceMethod yX6_sayTheSame, Cond.selects RX6 yX6_sayTheSame yX6_sayTheSame, Cond.code yX6_sayTheSame cX6_sayTheSame 3 (some .boolean), Cond.methodLink RL 40 yX8_back, Cond.instanceMethod yX8_back, Cond.selects RX8 yX8_back yX8_back, Cond.code yX8_back cX8_back 6 (some .int), Cond.methodLink RX8 106 yX8_children, Cond.instanceMethod yX8_children, Cond.selects RX8 yX8_children yX8_children, Cond.code yX8_children cX8_children 4 (some .int), Cond.methodLink RX8 109 yX8_restore, Cond.instanceMethod yX8_restore, Cond.selects RX8 yX8_restore yX8_restore, Cond.code yX8_restore cX8_restore 7 (some .int), Cond.methodLink RL 41 yX7_commit, Cond.instanceMethod yX7_commit, Cond.selects RX7 yX7_commit yX7_commit, Cond.code yX7_commit cX7_commit 4 (some .int), Cond.methodLink RX7 115 yX6_keysOf]
def wsL_law_r17 : List Cond := [Cond.instanceMethod yX6_keysOf, Cond.selects RX6 yX6_keysOf yX6_keysOf, Cond.code yX6_keysOf cX6_keysOf 4 (some .int), Cond.methodLink RX7 118 yX0_parentOf, Cond.instanceMethod yX0_parentOf, Cond.selects RX0 yX0_parentOf yX0_parentOf, Cond.code yX0_parentOf cX0_parentOf 2 (some .int), Cond.methodLink RX7 125 yX6_handOver, Cond.instanceMethod yX6_handOver, Cond.selects RX6 yX6_handOver yX6_handOver, Cond.code yX6_handOver cX6_handOver 5 none, Cond.methodLink RX7 128 yX1_handOver, Cond.instanceMethod yX1_handOver, Cond.selects RX1 yX1_handOver yX1_handOver, Cond.code yX1_handOver cX1_handOver 5 none, Cond.methodLink RX7 130 yX7_end, Cond.instanceMethod yX7_end, Cond.selects RX7 yX7_end yX7_end, Cond.code yX7_end cX7_end 3 none, Cond.methodLink RX7 229 yX0_end, Cond.instanceMethod yX0_end, Cond.selects RX0 yX0_end yX0_end, Cond.code yX0_end cX0_end 3 none, Cond.methodLink RX7 230 yX6_drop]
def wsL_law_r18 : List Cond := [Cond.instanceMethod yX6_drop, Cond.selects RX6 yX6_drop yX6_drop, Cond.code yX6_drop cX6_drop 2 none, Cond.methodLink RX7 233 yX1_drop, Cond.instanceMethod yX1_drop, Cond.selects RX1 yX1_drop yX1_drop, Cond.code yX1_drop cX1_drop 3 none, Cond.methodLink RX7 234 yX3_drop, Cond.instanceMethod yX3_drop, Cond.selects RX3 yX3_drop yX3_drop, Cond.code yX3_drop cX3_drop 2 none, Cond.methodLink RX3 23 yX3_dropAfter, Cond.methodLink RL 44 yX8_commit, Cond.instanceMethod yX8_commit, Cond.selects RX8 yX8_commit yX8_commit, Cond.code yX8_commit cX8_commit 7 (some .int), Cond.methodLink RX8 112 yX8_end, Cond.instanceMethod yX8_end, Cond.selects RX8 yX8_end yX8_end, Cond.code yX8_end cX8_end 4 none, Cond.methodLink RL 45 yX7_abort, Cond.instanceMethod yX7_abort, Cond.selects RX7 yX7_abort yX7_abort, Cond.code yX7_abort cX7_abort 4 (some .int)]
def wsL_law_r19 : List Cond := [Cond.methodLink RX7 133 yX0_opened, Cond.instanceMethod yX0_opened, Cond.selects RX0 yX0_opened yX0_opened, Cond.code yX0_opened cX0_opened 1 (some .int), Cond.methodLink RX7 136 yX0_isLeftBehind, Cond.instanceMethod yX0_isLeftBehind, Cond.selects RX0 yX0_isLeftBehind yX0_isLeftBehind, Cond.code yX0_isLeftBehind cX0_isLeftBehind 2 (some .boolean), Cond.methodLink RX0 33 yX0_canBeAsked, Cond.methodLink RL 48 yX8_abort, Cond.instanceMethod yX8_abort, Cond.selects RX8 yX8_abort yX8_abort, Cond.code yX8_abort cX8_abort 4 (some .int), Cond.methodLink RL 49 yX7_state, Cond.instanceMethod yX7_state, Cond.selects RX7 yX7_state yX7_state, Cond.code yX7_state cX7_state 2 (some .int), Cond.methodLink RX7 139 yX0_exists, Cond.methodLink RX7 142 yX0_stateOf, Cond.instanceMethod yX0_stateOf, Cond.selects RX0 yX0_stateOf yX0_stateOf, Cond.code yX0_stateOf cX0_stateOf 2 (some .int), Cond.methodLink RL 52 yX8_state, Cond.instanceMethod yX8_state]
def wsL_law_r20 : List Cond := [Cond.selects RX8 yX8_state yX8_state, Cond.code yX8_state cX8_state 2 (some .int), Cond.methodLink RL 53 yX7_told, Cond.instanceMethod yX7_told, Cond.selects RX7 yX7_told yX7_told, Cond.code yX7_told cX7_told 3 (some .int), Cond.methodLink RX7 148 yX3_countOf, Cond.methodLink RX7 151 yX1_countOf, Cond.instanceMethod yX1_countOf, Cond.selects RX1 yX1_countOf yX1_countOf, Cond.code yX1_countOf cX1_countOf 5 (some .int), Cond.methodLink RL 56 yX8_told, Cond.instanceMethod yX8_told, Cond.selects RX8 yX8_told yX8_told, Cond.code yX8_told cX8_told 6 (some .int), Cond.methodLink RL 57 yX7_held, Cond.instanceMethod yX7_held, Cond.selects RX7 yX7_held yX7_held, Cond.code yX7_held cX7_held 3 (some .int), Cond.methodLink RX7 155 yX1_kindOf, Cond.instanceMethod yX1_kindOf, Cond.selects RX1 yX1_kindOf yX1_kindOf, Cond.code yX1_kindOf cX1_kindOf 4 (some .int), Cond.methodLink RL 60 yX8_held]
def wsL_law_r21 : List Cond := [Cond.instanceMethod yX8_held, Cond.selects RX8 yX8_held yX8_held, Cond.code yX8_held cX8_held 4 (some .int), Cond.methodLink RL 61 yX7_blocker, Cond.instanceMethod yX7_blocker, Cond.selects RX7 yX7_blocker yX7_blocker, Cond.code yX7_blocker cX7_blocker 4 (some .int), Cond.methodLink RL 65 yX8_blocker, Cond.instanceMethod yX8_blocker, Cond.selects RX8 yX8_blocker yX8_blocker, Cond.code yX8_blocker cX8_blocker 4 (some .int), Cond.methodLink RL 66 yX7_waits, Cond.instanceMethod yX7_waits, Cond.selects RX7 yX7_waits yX7_waits, Cond.code yX7_waits cX7_waits 2 (some .int), Cond.methodLink RX7 162 yX5_has, Cond.instanceMethod yX5_has, Cond.selects RX5 yX5_has yX5_has, Cond.code yX5_has cX5_has 2 (some .boolean), Cond.methodLink RX7 165 yX5_slotOf, Cond.instanceMethod yX5_slotOf, Cond.selects RX5 yX5_slotOf yX5_slotOf, Cond.code yX5_slotOf cX5_slotOf 2 (some .int), Cond.methodLink RX7 168 yX5_kindOf]
def wsL_law_r22 : List Cond := [Cond.instanceMethod yX5_kindOf, Cond.selects RX5 yX5_kindOf yX5_kindOf, Cond.code yX5_kindOf cX5_kindOf 2 (some .int), Cond.methodLink RL 69 yX8_waits, Cond.instanceMethod yX8_waits, Cond.selects RX8 yX8_waits yX8_waits, Cond.code yX8_waits cX8_waits 2 (some .int), Cond.methodLink RL 70 yX7_ring, Cond.instanceMethod yX7_ring, Cond.selects RX7 yX7_ring yX7_ring, Cond.code yX7_ring cX7_ring 2 (some .int), Cond.methodLink RX7 170 yX7_drawWaits, Cond.instanceMethod yX7_drawWaits, Cond.selects RX7 yX7_drawWaits yX7_drawWaits, Cond.code yX7_drawWaits cX7_drawWaits 2 none, Cond.methodLink RX7 235 yX4_clear, Cond.instanceMethod yX4_clear, Cond.selects RX4 yX4_clear yX4_clear, Cond.code yX4_clear cX4_clear 1 none, Cond.methodLink RX4 15 yJ7_fill_d0a16, Cond.static yJ7_fill_d0a16, Cond.code yJ7_fill_d0a16 cJ7_fill_d0a16 5 none, Cond.methodLink RX7 237 yX1_drawInTheWay, Cond.instanceMethod yX1_drawInTheWay]
def wsL_law_r23 : List Cond := [Cond.selects RX1 yX1_drawInTheWay yX1_drawInTheWay, Cond.code yX1_drawInTheWay cX1_drawInTheWay 6 none, Cond.methodLink RX1 38 yX5_slotOf, Cond.methodLink RX1 44 yX5_kindOf, Cond.methodLink RX1 47 yX4_join, Cond.instanceMethod yX4_join, Cond.selects RX4 yX4_join yX4_join, Cond.code yX4_join cX4_join 3 none, Cond.methodLink RX7 173 yX4_close, Cond.instanceMethod yX4_close, Cond.selects RX4 yX4_close yX4_close, Cond.code yX4_close cX4_close 4 none, Cond.methodLink RX4 21 yX4_leads, Cond.instanceMethod yX4_leads, Cond.selects RX4 yX4_leads yX4_leads, Cond.code yX4_leads cX4_leads 3 (some .boolean), Cond.methodLink RX4 25 yX4_joinAll, Cond.instanceMethod yX4_joinAll, Cond.selects RX4 yX4_joinAll yX4_joinAll, Cond.code yX4_joinAll cX4_joinAll 4 none, Cond.methodLink RX7 177 yX4_leads, Cond.methodLink RL 74 yX8_ring, Cond.instanceMethod yX8_ring, Cond.selects RX8 yX8_ring yX8_ring]
def wsL_law_r24 : List Cond := [Cond.code yX8_ring cX8_ring 3 (some .int), Cond.methodLink RX8 116 yX8_reach, Cond.instanceMethod yX8_reach, Cond.selects RX8 yX8_reach yX8_reach, Cond.code yX8_reach cX8_reach 7 none, Cond.methodLink RL 75 yX7_size, Cond.instanceMethod yX7_size, Cond.selects RX7 yX7_size yX7_size, Cond.code yX7_size cX7_size 4 (some .int), Cond.methodLink RX7 184 yX2_count, Cond.instanceMethod yX2_count, Cond.selects RX2 yX2_count yX2_count, Cond.code yX2_count cX2_count 1 (some .int), Cond.methodLink RL 78 yX8_size, Cond.instanceMethod yX8_size, Cond.selects RX8 yX8_size yX8_size, Cond.code yX8_size cX8_size 4 (some .int), Cond.methodLink RX8 120 yX8_isThere, Cond.instanceMethod yX8_isThere, Cond.selects RX8 yX8_isThere yX8_isThere, Cond.code yX8_isThere cX8_isThere 2 (some .boolean), Cond.methodLink RL 79 yX7_next, Cond.instanceMethod yX7_next, Cond.selects RX7 yX7_next yX7_next]
def wsL_law_r25 : List Cond := [Cond.code yX7_next cX7_next 6 (some .long), Cond.methodLink RX7 195 Lib.MathLoose.min_long.x, Cond.static Lib.MathLoose.min_long.x, Cond.code Lib.MathLoose.min_long.x Lib.MathLoose.min_long.code 4 (some .long), Cond.methodLink RX7 192 yX2_at, Cond.instanceMethod yX2_at, Cond.selects RX2 yX2_at yX2_at, Cond.code yX2_at cX2_at 2 (some .int), Cond.methodLink RL 82 yX8_next, Cond.instanceMethod yX8_next, Cond.selects RX8 yX8_next yX8_next, Cond.code yX8_next cX8_next 6 (some .long), Cond.methodLink RL 83 yX7_sum, Cond.instanceMethod yX7_sum, Cond.selects RX7 yX7_sum yX7_sum, Cond.code yX7_sum cX7_sum 8 (some .long), Cond.methodLink RL 87 yX8_sum, Cond.instanceMethod yX8_sum, Cond.selects RX8 yX8_sum yX8_sum, Cond.code yX8_sum cX8_sum 7 (some .long)]
def wsL_law : List Cond := (wsL_law_r1 ++ (wsL_law_r2 ++ (wsL_law_r3 ++ (wsL_law_r4 ++ (wsL_law_r5 ++ (wsL_law_r6 ++ (wsL_law_r7 ++ (wsL_law_r8 ++ (wsL_law_r9 ++ (wsL_law_r10 ++ (wsL_law_r11 ++ (wsL_law_r12 ++ (wsL_law_r13 ++ (wsL_law_r14 ++ (wsL_law_r15 ++ (wsL_law_r16 ++ (wsL_law_r17 ++ (wsL_law_r18 ++ (wsL_law_r19 ++ (wsL_law_r20 ++ (wsL_law_r21 ++ (wsL_law_r22 ++ (wsL_law_r23 ++ (wsL_law_r24 ++ wsL_law_r25)))))))))))))))))))))))) ++ wsX70 ++ wsX80 ++ wsX00 ++ wsX20 ++ wsX60 ++ wsX10 ++ wsX30 ++ wsX50 ++ wsX40 ++ ([] : List Cond)
theorem inlX0 : ∀ w ∈ wsX00, w ∈ wsL_law := fun _ h => List.mem_append_left _ (List.mem_append_left _ (List.mem_append_left _ (List.mem_append_left _ (List.mem_append_left _ (List.mem_append_left _ (List.mem_append_left _ (List.mem_append_right _ h)))))))
theorem inlX1 : ∀ w ∈ wsX10, w ∈ wsL_law := fun _ h => List.mem_append_left _ (List.mem_append_left _ (List.mem_append_left _ (List.mem_append_left _ (List.mem_append_right _ h))))
theorem inlX2 : ∀ w ∈ wsX20, w ∈ wsL_law := fun _ h => List.mem_append_left _ (List.mem_append_left _ (List.mem_append_left _ (List.mem_append_left _ (List.mem_append_left _ (List.mem_append_left _ (List.mem_append_right _ h))))))
theorem inlX3 : ∀ w ∈ wsX30, w ∈ wsL_law := fun _ h => List.mem_append_left _ (List.mem_append_left _ (List.mem_append_left _ (List.mem_append_right _ h)))
theorem inlX4 : ∀ w ∈ wsX40, w ∈ wsL_law := fun _ h => List.mem_append_left _ (List.mem_append_right _ h)
theorem inlX5 : ∀ w ∈ wsX50, w ∈ wsL_law := fun _ h => List.mem_append_left _ (List.mem_append_left _ (List.mem_append_right _ h))
theorem inlX6 : ∀ w ∈ wsX60, w ∈ wsL_law := fun _ h => List.mem_append_left _ (List.mem_append_left _ (List.mem_append_left _ (List.mem_append_left _ (List.mem_append_left _ (List.mem_append_right _ h)))))
theorem inlX7 : ∀ w ∈ wsX70, w ∈ wsL_law := fun _ h => List.mem_append_left _ (List.mem_append_left _ (List.mem_append_left _ (List.mem_append_left _ (List.mem_append_left _ (List.mem_append_left _ (List.mem_append_left _ (List.mem_append_left _ (List.mem_append_left _ (List.mem_append_right _ h)))))))))
theorem inlX8 : ∀ w ∈ wsX80, w ∈ wsL_law := fun _ h => List.mem_append_left _ (List.mem_append_left _ (List.mem_append_left _ (List.mem_append_left _ (List.mem_append_left _ (List.mem_append_left _ (List.mem_append_left _ (List.mem_append_left _ (List.mem_append_right _ h))))))))
end
section
theorem dX0_init_0 : decode cX0_init 0 = .ok (.aload_n 0, 1) := by decide +kernel
theorem dX0_init_1 : decode cX0_init 1 = .ok (.invokespecial 3, 3) := by decide +kernel
theorem dX0_init_4 : decode cX0_init 4 = .ok (.aload_n 0, 1) := by decide +kernel
theorem dX0_init_5 : decode cX0_init 5 = .ok (.sipush 151, 3) := by decide +kernel
theorem dX0_init_8 : decode cX0_init 8 = .ok (.newarray .int, 2) := by decide +kernel
theorem dX0_init_10 : decode cX0_init 10 = .ok (.putfield 9, 3) := by decide +kernel
theorem dX0_init_13 : decode cX0_init 13 = .ok (.aload_n 0, 1) := by decide +kernel
theorem dX0_init_14 : decode cX0_init 14 = .ok (.sipush 151, 3) := by decide +kernel
theorem dX0_init_17 : decode cX0_init 17 = .ok (.newarray .int, 2) := by decide +kernel
theorem dX0_init_19 : decode cX0_init 19 = .ok (.putfield 15, 3) := by decide +kernel
theorem dX0_init_22 : decode cX0_init 22 = .ok (.aload_n 0, 1) := by decide +kernel
theorem dX0_init_23 : decode cX0_init 23 = .ok (.sipush 151, 3) := by decide +kernel
theorem dX0_init_26 : decode cX0_init 26 = .ok (.newarray .boolean, 2) := by decide +kernel
theorem dX0_init_28 : decode cX0_init 28 = .ok (.putfield 18, 3) := by decide +kernel
theorem dX0_init_31 : decode cX0_init 31 = .ok (.aload_n 0, 1) := by decide +kernel
theorem dX0_init_32 : decode cX0_init 32 = .ok (.iconst 0, 1) := by decide +kernel
theorem dX0_init_33 : decode cX0_init 33 = .ok (.putfield 22, 3) := by decide +kernel
theorem dX0_init_36 : decode cX0_init 36 = .ok (.return_, 1) := by decide +kernel
theorem dX0_opened_0 : decode cX0_opened 0 = .ok (.aload_n 0, 1) := by decide +kernel
theorem dX0_opened_1 : decode cX0_opened 1 = .ok (.getfield 22, 3) := by decide +kernel
theorem dX0_opened_4 : decode cX0_opened 4 = .ok (.ireturn, 1) := by decide +kernel
theorem dX0_isFull_0 : decode cX0_isFull 0 = .ok (.aload_n 0, 1) := by decide +kernel
theorem dX0_isFull_1 : decode cX0_isFull 1 = .ok (.getfield 22, 3) := by decide +kernel
theorem dX0_isFull_4 : decode cX0_isFull 4 = .ok (.sipush 150, 3) := by decide +kernel
theorem dX0_isFull_7 : decode cX0_isFull 7 = .ok (.if_icmp .ne 7, 3) := by decide +kernel
theorem dX0_isFull_10 : decode cX0_isFull 10 = .ok (.iconst 1, 1) := by decide +kernel
theorem dX0_isFull_11 : decode cX0_isFull 11 = .ok (.goto 4, 3) := by decide +kernel
theorem dX0_isFull_14 : decode cX0_isFull 14 = .ok (.iconst 0, 1) := by decide +kernel
theorem dX0_isFull_15 : decode cX0_isFull 15 = .ok (.ireturn, 1) := by decide +kernel
theorem dX0_exists_0 : decode cX0_exists 0 = .ok (.iload_n 1, 1) := by decide +kernel
theorem dX0_exists_1 : decode cX0_exists 1 = .ok (.iconst 1, 1) := by decide +kernel
theorem dX0_exists_2 : decode cX0_exists 2 = .ok (.if_icmp .lt 15, 3) := by decide +kernel
theorem dX0_exists_5 : decode cX0_exists 5 = .ok (.iload_n 1, 1) := by decide +kernel
theorem dX0_exists_6 : decode cX0_exists 6 = .ok (.aload_n 0, 1) := by decide +kernel
theorem dX0_exists_7 : decode cX0_exists 7 = .ok (.getfield 22, 3) := by decide +kernel
theorem dX0_exists_10 : decode cX0_exists 10 = .ok (.if_icmp .gt 7, 3) := by decide +kernel
theorem dX0_exists_13 : decode cX0_exists 13 = .ok (.iconst 1, 1) := by decide +kernel
theorem dX0_exists_14 : decode cX0_exists 14 = .ok (.goto 4, 3) := by decide +kernel
theorem dX0_exists_17 : decode cX0_exists 17 = .ok (.iconst 0, 1) := by decide +kernel
theorem dX0_exists_18 : decode cX0_exists 18 = .ok (.ireturn, 1) := by decide +kernel
set_option maxRecDepth 20000 in
theorem ggX0_isActive_X0_exists : GoodIn wsX0_isActive wsX0_exists := goodIn_r _ [6, 7, 8, 9, 10, 11] (by decide +kernel) (by decide +kernel)
set_option maxRecDepth 20000 in
theorem gX0_isActive_X0_exists : GoodIn wsX0_isActive (wsV RX0 26 RX0 yX0_exists wsX0_exists) := goodIn_app (goodIn_of _ (by decide +kernel)) ggX0_isActive_X0_exists
theorem dX0_isActive_0 : decode cX0_isActive 0 = .ok (.aload_n 0, 1) := by decide +kernel
theorem dX0_isActive_1 : decode cX0_isActive 1 = .ok (.iload_n 1, 1) := by decide +kernel
theorem dX0_isActive_2 : decode cX0_isActive 2 = .ok (.invokevirtual 26, 3) := by decide +kernel
theorem dX0_isActive_5 : decode cX0_isActive 5 = .ok (.ifCond .eq 16, 3) := by decide +kernel
theorem dX0_isActive_8 : decode cX0_isActive 8 = .ok (.aload_n 0, 1) := by decide +kernel
theorem dX0_isActive_9 : decode cX0_isActive 9 = .ok (.getfield 15, 3) := by decide +kernel
theorem dX0_isActive_12 : decode cX0_isActive 12 = .ok (.iload_n 1, 1) := by decide +kernel
theorem dX0_isActive_13 : decode cX0_isActive 13 = .ok (.iaload, 1) := by decide +kernel
theorem dX0_isActive_14 : decode cX0_isActive 14 = .ok (.ifCond .ne 7, 3) := by decide +kernel
theorem dX0_isActive_17 : decode cX0_isActive 17 = .ok (.iconst 1, 1) := by decide +kernel
theorem dX0_isActive_18 : decode cX0_isActive 18 = .ok (.goto 4, 3) := by decide +kernel
theorem dX0_isActive_21 : decode cX0_isActive 21 = .ok (.iconst 0, 1) := by decide +kernel
theorem dX0_isActive_22 : decode cX0_isActive 22 = .ok (.ireturn, 1) := by decide +kernel
set_option maxRecDepth 20000 in
theorem ggX0_canBeAsked_X0_isActive : GoodIn wsX0_canBeAsked wsX0_isActive := goodIn_r _ [5, 6, 7, 8, 9, 4, 10, 11, 12, 13, 14, 15] (by decide +kernel) (by decide +kernel)
set_option maxRecDepth 20000 in
theorem gX0_canBeAsked_X0_isActive : GoodIn wsX0_canBeAsked (wsV RX0 30 RX0 yX0_isActive wsX0_isActive) := goodIn_app (goodIn_of _ (by decide +kernel)) ggX0_canBeAsked_X0_isActive
theorem dX0_canBeAsked_0 : decode cX0_canBeAsked 0 = .ok (.iload_n 1, 1) := by decide +kernel
theorem dX0_canBeAsked_1 : decode cX0_canBeAsked 1 = .ok (.ifCond .eq 11, 3) := by decide +kernel
theorem dX0_canBeAsked_4 : decode cX0_canBeAsked 4 = .ok (.aload_n 0, 1) := by decide +kernel
theorem dX0_canBeAsked_5 : decode cX0_canBeAsked 5 = .ok (.iload_n 1, 1) := by decide +kernel
theorem dX0_canBeAsked_6 : decode cX0_canBeAsked 6 = .ok (.invokevirtual 30, 3) := by decide +kernel
theorem dX0_canBeAsked_9 : decode cX0_canBeAsked 9 = .ok (.ifCond .eq 7, 3) := by decide +kernel
theorem dX0_canBeAsked_12 : decode cX0_canBeAsked 12 = .ok (.iconst 1, 1) := by decide +kernel
theorem dX0_canBeAsked_13 : decode cX0_canBeAsked 13 = .ok (.goto 4, 3) := by decide +kernel
theorem dX0_canBeAsked_16 : decode cX0_canBeAsked 16 = .ok (.iconst 0, 1) := by decide +kernel
theorem dX0_canBeAsked_17 : decode cX0_canBeAsked 17 = .ok (.ireturn, 1) := by decide +kernel
theorem dX0_parentOf_0 : decode cX0_parentOf 0 = .ok (.aload_n 0, 1) := by decide +kernel
theorem dX0_parentOf_1 : decode cX0_parentOf 1 = .ok (.getfield 9, 3) := by decide +kernel
theorem dX0_parentOf_4 : decode cX0_parentOf 4 = .ok (.iload_n 1, 1) := by decide +kernel
theorem dX0_parentOf_5 : decode cX0_parentOf 5 = .ok (.iaload, 1) := by decide +kernel
theorem dX0_parentOf_6 : decode cX0_parentOf 6 = .ok (.ireturn, 1) := by decide +kernel
theorem dX0_stateOf_0 : decode cX0_stateOf 0 = .ok (.aload_n 0, 1) := by decide +kernel
theorem dX0_stateOf_1 : decode cX0_stateOf 1 = .ok (.getfield 15, 3) := by decide +kernel
theorem dX0_stateOf_4 : decode cX0_stateOf 4 = .ok (.iload_n 1, 1) := by decide +kernel
theorem dX0_stateOf_5 : decode cX0_stateOf 5 = .ok (.iaload, 1) := by decide +kernel
theorem dX0_stateOf_6 : decode cX0_stateOf 6 = .ok (.ireturn, 1) := by decide +kernel
theorem dX0_add_0 : decode cX0_add 0 = .ok (.aload_n 0, 1) := by decide +kernel
theorem dX0_add_1 : decode cX0_add 1 = .ok (.dup, 1) := by decide +kernel
theorem dX0_add_2 : decode cX0_add 2 = .ok (.getfield 22, 3) := by decide +kernel
theorem dX0_add_5 : decode cX0_add 5 = .ok (.iconst 1, 1) := by decide +kernel
theorem dX0_add_6 : decode cX0_add 6 = .ok (.iadd, 1) := by decide +kernel
theorem dX0_add_7 : decode cX0_add 7 = .ok (.putfield 22, 3) := by decide +kernel
theorem dX0_add_10 : decode cX0_add 10 = .ok (.aload_n 0, 1) := by decide +kernel
theorem dX0_add_11 : decode cX0_add 11 = .ok (.getfield 9, 3) := by decide +kernel
theorem dX0_add_14 : decode cX0_add 14 = .ok (.aload_n 0, 1) := by decide +kernel
theorem dX0_add_15 : decode cX0_add 15 = .ok (.getfield 22, 3) := by decide +kernel
theorem dX0_add_18 : decode cX0_add 18 = .ok (.iload_n 1, 1) := by decide +kernel
theorem dX0_add_19 : decode cX0_add 19 = .ok (.iastore, 1) := by decide +kernel
theorem dX0_add_20 : decode cX0_add 20 = .ok (.aload_n 0, 1) := by decide +kernel
theorem dX0_add_21 : decode cX0_add 21 = .ok (.getfield 15, 3) := by decide +kernel
theorem dX0_add_24 : decode cX0_add 24 = .ok (.aload_n 0, 1) := by decide +kernel
theorem dX0_add_25 : decode cX0_add 25 = .ok (.getfield 22, 3) := by decide +kernel
theorem dX0_add_28 : decode cX0_add 28 = .ok (.iconst 0, 1) := by decide +kernel
theorem dX0_add_29 : decode cX0_add 29 = .ok (.iastore, 1) := by decide +kernel
theorem dX0_add_30 : decode cX0_add 30 = .ok (.aload_n 0, 1) := by decide +kernel
theorem dX0_add_31 : decode cX0_add 31 = .ok (.getfield 22, 3) := by decide +kernel
theorem dX0_add_34 : decode cX0_add 34 = .ok (.ireturn, 1) := by decide +kernel
theorem dX0_end_0 : decode cX0_end 0 = .ok (.aload_n 0, 1) := by decide +kernel
theorem dX0_end_1 : decode cX0_end 1 = .ok (.getfield 15, 3) := by decide +kernel
theorem dX0_end_4 : decode cX0_end 4 = .ok (.iload_n 1, 1) := by decide +kernel
theorem dX0_end_5 : decode cX0_end 5 = .ok (.iload_n 2, 1) := by decide +kernel
theorem dX0_end_6 : decode cX0_end 6 = .ok (.iastore, 1) := by decide +kernel
theorem dX0_end_7 : decode cX0_end 7 = .ok (.return_, 1) := by decide +kernel
set_option maxRecDepth 20000 in
theorem ggX0_isLeftBehind_X0_isActive : GoodIn wsX0_isLeftBehind wsX0_isActive := goodIn_r _ [6, 7, 8, 9, 10, 5, 11, 12, 17, 18, 19, 20] (by decide +kernel) (by decide +kernel)
set_option maxRecDepth 20000 in
theorem gX0_isLeftBehind_X0_isActive : GoodIn wsX0_isLeftBehind (wsV RX0 30 RX0 yX0_isActive wsX0_isActive) := goodIn_app (goodIn_of _ (by decide +kernel)) ggX0_isLeftBehind_X0_isActive
set_option maxRecDepth 20000 in
theorem ggX0_isLeftBehind_X0_canBeAsked : GoodIn wsX0_isLeftBehind wsX0_canBeAsked := goodIn_r _ [16, 2, 3, 4, 5, 6, 7, 8, 9, 10, 11, 12, 17, 18, 19, 20] (by decide +kernel) (by decide +kernel)
set_option maxRecDepth 20000 in
theorem gX0_isLeftBehind_X0_canBeAsked : GoodIn wsX0_isLeftBehind (wsV RX0 33 RX0 yX0_canBeAsked wsX0_canBeAsked) := goodIn_app (goodIn_of _ (by decide +kernel)) ggX0_isLeftBehind_X0_canBeAsked
theorem dX0_isLeftBehind_0 : decode cX0_isLeftBehind 0 = .ok (.aload_n 0, 1) := by decide +kernel
theorem dX0_isLeftBehind_1 : decode cX0_isLeftBehind 1 = .ok (.iload_n 1, 1) := by decide +kernel
theorem dX0_isLeftBehind_2 : decode cX0_isLeftBehind 2 = .ok (.invokevirtual 30, 3) := by decide +kernel
theorem dX0_isLeftBehind_5 : decode cX0_isLeftBehind 5 = .ok (.ifCond .eq 20, 3) := by decide +kernel
theorem dX0_isLeftBehind_8 : decode cX0_isLeftBehind 8 = .ok (.aload_n 0, 1) := by decide +kernel
theorem dX0_isLeftBehind_9 : decode cX0_isLeftBehind 9 = .ok (.aload_n 0, 1) := by decide +kernel
theorem dX0_isLeftBehind_10 : decode cX0_isLeftBehind 10 = .ok (.getfield 9, 3) := by decide +kernel
theorem dX0_isLeftBehind_13 : decode cX0_isLeftBehind 13 = .ok (.iload_n 1, 1) := by decide +kernel
theorem dX0_isLeftBehind_14 : decode cX0_isLeftBehind 14 = .ok (.iaload, 1) := by decide +kernel
theorem dX0_isLeftBehind_15 : decode cX0_isLeftBehind 15 = .ok (.invokevirtual 33, 3) := by decide +kernel
theorem dX0_isLeftBehind_18 : decode cX0_isLeftBehind 18 = .ok (.ifCond .ne 7, 3) := by decide +kernel
theorem dX0_isLeftBehind_21 : decode cX0_isLeftBehind 21 = .ok (.iconst 1, 1) := by decide +kernel
theorem dX0_isLeftBehind_22 : decode cX0_isLeftBehind 22 = .ok (.goto 4, 3) := by decide +kernel
theorem dX0_isLeftBehind_25 : decode cX0_isLeftBehind 25 = .ok (.iconst 0, 1) := by decide +kernel
theorem dX0_isLeftBehind_26 : decode cX0_isLeftBehind 26 = .ok (.ireturn, 1) := by decide +kernel
theorem dX0_activeChildrenOf_0 : decode cX0_activeChildrenOf 0 = .ok (.iconst 0, 1) := by decide +kernel
theorem dX0_activeChildrenOf_1 : decode cX0_activeChildrenOf 1 = .ok (.istore_n 2, 1) := by decide +kernel
theorem dX0_activeChildrenOf_2 : decode cX0_activeChildrenOf 2 = .ok (.iload_n 1, 1) := by decide +kernel
theorem dX0_activeChildrenOf_3 : decode cX0_activeChildrenOf 3 = .ok (.iconst 1, 1) := by decide +kernel
theorem dX0_activeChildrenOf_4 : decode cX0_activeChildrenOf 4 = .ok (.iadd, 1) := by decide +kernel
theorem dX0_activeChildrenOf_5 : decode cX0_activeChildrenOf 5 = .ok (.istore_n 3, 1) := by decide +kernel
theorem dX0_activeChildrenOf_6 : decode cX0_activeChildrenOf 6 = .ok (.iload_n 3, 1) := by decide +kernel
theorem dX0_activeChildrenOf_7 : decode cX0_activeChildrenOf 7 = .ok (.aload_n 0, 1) := by decide +kernel
theorem dX0_activeChildrenOf_8 : decode cX0_activeChildrenOf 8 = .ok (.getfield 22, 3) := by decide +kernel
theorem dX0_activeChildrenOf_11 : decode cX0_activeChildrenOf 11 = .ok (.if_icmp .gt 31, 3) := by decide +kernel
theorem dX0_activeChildrenOf_14 : decode cX0_activeChildrenOf 14 = .ok (.aload_n 0, 1) := by decide +kernel
theorem dX0_activeChildrenOf_15 : decode cX0_activeChildrenOf 15 = .ok (.getfield 9, 3) := by decide +kernel
theorem dX0_activeChildrenOf_18 : decode cX0_activeChildrenOf 18 = .ok (.iload_n 3, 1) := by decide +kernel
theorem dX0_activeChildrenOf_19 : decode cX0_activeChildrenOf 19 = .ok (.iaload, 1) := by decide +kernel
theorem dX0_activeChildrenOf_20 : decode cX0_activeChildrenOf 20 = .ok (.iload_n 1, 1) := by decide +kernel
theorem dX0_activeChildrenOf_21 : decode cX0_activeChildrenOf 21 = .ok (.if_icmp .ne 15, 3) := by decide +kernel
theorem dX0_activeChildrenOf_24 : decode cX0_activeChildrenOf 24 = .ok (.aload_n 0, 1) := by decide +kernel
theorem dX0_activeChildrenOf_25 : decode cX0_activeChildrenOf 25 = .ok (.getfield 15, 3) := by decide +kernel
theorem dX0_activeChildrenOf_28 : decode cX0_activeChildrenOf 28 = .ok (.iload_n 3, 1) := by decide +kernel
theorem dX0_activeChildrenOf_29 : decode cX0_activeChildrenOf 29 = .ok (.iaload, 1) := by decide +kernel
theorem dX0_activeChildrenOf_30 : decode cX0_activeChildrenOf 30 = .ok (.ifCond .ne 6, 3) := by decide +kernel
theorem dX0_activeChildrenOf_33 : decode cX0_activeChildrenOf 33 = .ok (.iinc 2 1, 3) := by decide +kernel
theorem dX0_activeChildrenOf_36 : decode cX0_activeChildrenOf 36 = .ok (.iinc 3 1, 3) := by decide +kernel
theorem dX0_activeChildrenOf_39 : decode cX0_activeChildrenOf 39 = .ok (.goto (-33), 3) := by decide +kernel
theorem dX0_activeChildrenOf_42 : decode cX0_activeChildrenOf 42 = .ok (.iload_n 2, 1) := by decide +kernel
theorem dX0_activeChildrenOf_43 : decode cX0_activeChildrenOf 43 = .ok (.ireturn, 1) := by decide +kernel
theorem dX0_trace_0 : decode cX0_trace 0 = .ok (.iconst 0, 1) := by decide +kernel
theorem dX0_trace_1 : decode cX0_trace 1 = .ok (.istore_n 2, 1) := by decide +kernel
theorem dX0_trace_2 : decode cX0_trace 2 = .ok (.iload_n 2, 1) := by decide +kernel
theorem dX0_trace_3 : decode cX0_trace 3 = .ok (.aload_n 0, 1) := by decide +kernel
theorem dX0_trace_4 : decode cX0_trace 4 = .ok (.getfield 22, 3) := by decide +kernel
theorem dX0_trace_7 : decode cX0_trace 7 = .ok (.if_icmp .gt 25, 3) := by decide +kernel
theorem dX0_trace_10 : decode cX0_trace 10 = .ok (.aload_n 0, 1) := by decide +kernel
theorem dX0_trace_11 : decode cX0_trace 11 = .ok (.getfield 18, 3) := by decide +kernel
theorem dX0_trace_14 : decode cX0_trace 14 = .ok (.iload_n 2, 1) := by decide +kernel
theorem dX0_trace_15 : decode cX0_trace 15 = .ok (.iload_n 2, 1) := by decide +kernel
theorem dX0_trace_16 : decode cX0_trace 16 = .ok (.iload_n 1, 1) := by decide +kernel
theorem dX0_trace_17 : decode cX0_trace 17 = .ok (.if_icmp .ne 7, 3) := by decide +kernel
theorem dX0_trace_20 : decode cX0_trace 20 = .ok (.iconst 1, 1) := by decide +kernel
theorem dX0_trace_21 : decode cX0_trace 21 = .ok (.goto 4, 3) := by decide +kernel
theorem dX0_trace_24 : decode cX0_trace 24 = .ok (.iconst 0, 1) := by decide +kernel
theorem dX0_trace_25 : decode cX0_trace 25 = .ok (.bastore, 1) := by decide +kernel
theorem dX0_trace_26 : decode cX0_trace 26 = .ok (.iinc 2 1, 3) := by decide +kernel
theorem dX0_trace_29 : decode cX0_trace 29 = .ok (.goto (-27), 3) := by decide +kernel
theorem dX0_trace_32 : decode cX0_trace 32 = .ok (.iload_n 1, 1) := by decide +kernel
theorem dX0_trace_33 : decode cX0_trace 33 = .ok (.istore_n 2, 1) := by decide +kernel
theorem dX0_trace_34 : decode cX0_trace 34 = .ok (.iload_n 2, 1) := by decide +kernel
theorem dX0_trace_35 : decode cX0_trace 35 = .ok (.ifCond .le 30, 3) := by decide +kernel
theorem dX0_trace_38 : decode cX0_trace 38 = .ok (.aload_n 0, 1) := by decide +kernel
theorem dX0_trace_39 : decode cX0_trace 39 = .ok (.getfield 18, 3) := by decide +kernel
theorem dX0_trace_42 : decode cX0_trace 42 = .ok (.iload_n 2, 1) := by decide +kernel
theorem dX0_trace_43 : decode cX0_trace 43 = .ok (.baload, 1) := by decide +kernel
theorem dX0_trace_44 : decode cX0_trace 44 = .ok (.ifCond .eq 15, 3) := by decide +kernel
theorem dX0_trace_47 : decode cX0_trace 47 = .ok (.aload_n 0, 1) := by decide +kernel
theorem dX0_trace_48 : decode cX0_trace 48 = .ok (.getfield 18, 3) := by decide +kernel
theorem dX0_trace_51 : decode cX0_trace 51 = .ok (.aload_n 0, 1) := by decide +kernel
theorem dX0_trace_52 : decode cX0_trace 52 = .ok (.getfield 9, 3) := by decide +kernel
theorem dX0_trace_55 : decode cX0_trace 55 = .ok (.iload_n 2, 1) := by decide +kernel
theorem dX0_trace_56 : decode cX0_trace 56 = .ok (.iaload, 1) := by decide +kernel
theorem dX0_trace_57 : decode cX0_trace 57 = .ok (.iconst 1, 1) := by decide +kernel
theorem dX0_trace_58 : decode cX0_trace 58 = .ok (.bastore, 1) := by decide +kernel
theorem dX0_trace_59 : decode cX0_trace 59 = .ok (.iinc 2 (-1), 3) := by decide +kernel
theorem dX0_trace_62 : decode cX0_trace 62 = .ok (.goto (-28), 3) := by decide +kernel
theorem dX0_trace_65 : decode cX0_trace 65 = .ok (.return_, 1) := by decide +kernel
theorem dX0_line_0 : decode cX0_line 0 = .ok (.aload_n 0, 1) := by decide +kernel
theorem dX0_line_1 : decode cX0_line 1 = .ok (.getfield 18, 3) := by decide +kernel
theorem dX0_line_4 : decode cX0_line 4 = .ok (.areturn, 1) := by decide +kernel
theorem dX1_init_0 : decode cX1_init 0 = .ok (.aload_n 0, 1) := by decide +kernel
theorem dX1_init_1 : decode cX1_init 1 = .ok (.invokespecial 3, 3) := by decide +kernel
theorem dX1_init_4 : decode cX1_init 4 = .ok (.aload_n 0, 1) := by decide +kernel
theorem dX1_init_5 : decode cX1_init 5 = .ok (.sipush 512, 3) := by decide +kernel
theorem dX1_init_8 : decode cX1_init 8 = .ok (.newarray .int, 2) := by decide +kernel
theorem dX1_init_10 : decode cX1_init 10 = .ok (.putfield 9, 3) := by decide +kernel
theorem dX1_init_13 : decode cX1_init 13 = .ok (.aload_n 0, 1) := by decide +kernel
theorem dX1_init_14 : decode cX1_init 14 = .ok (.sipush 512, 3) := by decide +kernel
theorem dX1_init_17 : decode cX1_init 17 = .ok (.newarray .int, 2) := by decide +kernel
theorem dX1_init_19 : decode cX1_init 19 = .ok (.putfield 15, 3) := by decide +kernel
theorem dX1_init_22 : decode cX1_init 22 = .ok (.aload_n 0, 1) := by decide +kernel
theorem dX1_init_23 : decode cX1_init 23 = .ok (.sipush 512, 3) := by decide +kernel
theorem dX1_init_26 : decode cX1_init 26 = .ok (.newarray .int, 2) := by decide +kernel
theorem dX1_init_28 : decode cX1_init 28 = .ok (.putfield 18, 3) := by decide +kernel
theorem dX1_init_31 : decode cX1_init 31 = .ok (.aload_n 0, 1) := by decide +kernel
theorem dX1_init_32 : decode cX1_init 32 = .ok (.iconst 0, 1) := by decide +kernel
theorem dX1_init_33 : decode cX1_init 33 = .ok (.putfield 21, 3) := by decide +kernel
theorem dX1_init_36 : decode cX1_init 36 = .ok (.return_, 1) := by decide +kernel
theorem dX1_isFull_0 : decode cX1_isFull 0 = .ok (.aload_n 0, 1) := by decide +kernel
theorem dX1_isFull_1 : decode cX1_isFull 1 = .ok (.getfield 21, 3) := by decide +kernel
theorem dX1_isFull_4 : decode cX1_isFull 4 = .ok (.sipush 512, 3) := by decide +kernel
theorem dX1_isFull_7 : decode cX1_isFull 7 = .ok (.if_icmp .ne 7, 3) := by decide +kernel
theorem dX1_isFull_10 : decode cX1_isFull 10 = .ok (.iconst 1, 1) := by decide +kernel
theorem dX1_isFull_11 : decode cX1_isFull 11 = .ok (.goto 4, 3) := by decide +kernel
theorem dX1_isFull_14 : decode cX1_isFull 14 = .ok (.iconst 0, 1) := by decide +kernel
theorem dX1_isFull_15 : decode cX1_isFull 15 = .ok (.ireturn, 1) := by decide +kernel
set_option maxRecDepth 20000 in
theorem ggX1_add_X1_find : GoodIn wsX1_add wsX1_find := goodIn_r _ [13, 7, 6, 8, 14, 15, 16, 17] (by decide +kernel) (by decide +kernel)
set_option maxRecDepth 20000 in
theorem gX1_add_X1_find : GoodIn wsX1_add (wsV RX1 25 RX1 yX1_find wsX1_find) := goodIn_app (goodIn_of _ (by decide +kernel)) ggX1_add_X1_find
theorem dX1_add_0 : decode cX1_add 0 = .ok (.aload_n 0, 1) := by decide +kernel
theorem dX1_add_1 : decode cX1_add 1 = .ok (.iload_n 1, 1) := by decide +kernel
theorem dX1_add_2 : decode cX1_add 2 = .ok (.iload_n 2, 1) := by decide +kernel
theorem dX1_add_3 : decode cX1_add 3 = .ok (.invokevirtual 25, 3) := by decide +kernel
theorem dX1_add_6 : decode cX1_add 6 = .ok (.istore 4, 2) := by decide +kernel
theorem dX1_add_8 : decode cX1_add 8 = .ok (.iload 4, 2) := by decide +kernel
theorem dX1_add_10 : decode cX1_add 10 = .ok (.iconst (-1), 1) := by decide +kernel
theorem dX1_add_11 : decode cX1_add 11 = .ok (.if_icmp .eq 22, 3) := by decide +kernel
theorem dX1_add_14 : decode cX1_add 14 = .ok (.aload_n 0, 1) := by decide +kernel
theorem dX1_add_15 : decode cX1_add 15 = .ok (.getfield 18, 3) := by decide +kernel
theorem dX1_add_18 : decode cX1_add 18 = .ok (.iload 4, 2) := by decide +kernel
theorem dX1_add_20 : decode cX1_add 20 = .ok (.aload_n 0, 1) := by decide +kernel
theorem dX1_add_21 : decode cX1_add 21 = .ok (.getfield 18, 3) := by decide +kernel
theorem dX1_add_24 : decode cX1_add 24 = .ok (.iload 4, 2) := by decide +kernel
theorem dX1_add_26 : decode cX1_add 26 = .ok (.iaload, 1) := by decide +kernel
theorem dX1_add_27 : decode cX1_add 27 = .ok (.iload_n 3, 1) := by decide +kernel
theorem dX1_add_28 : decode cX1_add 28 = .ok (.invokestatic 29, 3) := by decide +kernel
theorem dX1_add_31 : decode cX1_add 31 = .ok (.iastore, 1) := by decide +kernel
theorem dX1_add_32 : decode cX1_add 32 = .ok (.return_, 1) := by decide +kernel
theorem dX1_add_33 : decode cX1_add 33 = .ok (.aload_n 0, 1) := by decide +kernel
theorem dX1_add_34 : decode cX1_add 34 = .ok (.getfield 9, 3) := by decide +kernel
theorem dX1_add_37 : decode cX1_add 37 = .ok (.aload_n 0, 1) := by decide +kernel
theorem dX1_add_38 : decode cX1_add 38 = .ok (.getfield 21, 3) := by decide +kernel
theorem dX1_add_41 : decode cX1_add 41 = .ok (.iload_n 1, 1) := by decide +kernel
theorem dX1_add_42 : decode cX1_add 42 = .ok (.iastore, 1) := by decide +kernel
theorem dX1_add_43 : decode cX1_add 43 = .ok (.aload_n 0, 1) := by decide +kernel
theorem dX1_add_44 : decode cX1_add 44 = .ok (.getfield 15, 3) := by decide +kernel
theorem dX1_add_47 : decode cX1_add 47 = .ok (.aload_n 0, 1) := by decide +kernel
theorem dX1_add_48 : decode cX1_add 48 = .ok (.getfield 21, 3) := by decide +kernel
theorem dX1_add_51 : decode cX1_add 51 = .ok (.iload_n 2, 1) := by decide +kernel
theorem dX1_add_52 : decode cX1_add 52 = .ok (.iastore, 1) := by decide +kernel
theorem dX1_add_53 : decode cX1_add 53 = .ok (.aload_n 0, 1) := by decide +kernel
theorem dX1_add_54 : decode cX1_add 54 = .ok (.getfield 18, 3) := by decide +kernel
theorem dX1_add_57 : decode cX1_add 57 = .ok (.aload_n 0, 1) := by decide +kernel
theorem dX1_add_58 : decode cX1_add 58 = .ok (.getfield 21, 3) := by decide +kernel
theorem dX1_add_61 : decode cX1_add 61 = .ok (.iload_n 3, 1) := by decide +kernel
theorem dX1_add_62 : decode cX1_add 62 = .ok (.iastore, 1) := by decide +kernel
theorem dX1_add_63 : decode cX1_add 63 = .ok (.aload_n 0, 1) := by decide +kernel
theorem dX1_add_64 : decode cX1_add 64 = .ok (.dup, 1) := by decide +kernel
theorem dX1_add_65 : decode cX1_add 65 = .ok (.getfield 21, 3) := by decide +kernel
theorem dX1_add_68 : decode cX1_add 68 = .ok (.iconst 1, 1) := by decide +kernel
theorem dX1_add_69 : decode cX1_add 69 = .ok (.iadd, 1) := by decide +kernel
theorem dX1_add_70 : decode cX1_add 70 = .ok (.putfield 21, 3) := by decide +kernel
theorem dX1_add_73 : decode cX1_add 73 = .ok (.return_, 1) := by decide +kernel
set_option maxRecDepth 20000 in
theorem ggX1_kindOf_X1_find : GoodIn wsX1_kindOf wsX1_find := goodIn_r _ [6, 7, 8, 9, 10, 11, 12, 13] (by decide +kernel) (by decide +kernel)
set_option maxRecDepth 20000 in
theorem gX1_kindOf_X1_find : GoodIn wsX1_kindOf (wsV RX1 25 RX1 yX1_find wsX1_find) := goodIn_app (goodIn_of _ (by decide +kernel)) ggX1_kindOf_X1_find
theorem dX1_kindOf_0 : decode cX1_kindOf 0 = .ok (.aload_n 0, 1) := by decide +kernel
theorem dX1_kindOf_1 : decode cX1_kindOf 1 = .ok (.iload_n 1, 1) := by decide +kernel
theorem dX1_kindOf_2 : decode cX1_kindOf 2 = .ok (.iload_n 2, 1) := by decide +kernel
theorem dX1_kindOf_3 : decode cX1_kindOf 3 = .ok (.invokevirtual 25, 3) := by decide +kernel
theorem dX1_kindOf_6 : decode cX1_kindOf 6 = .ok (.istore_n 3, 1) := by decide +kernel
theorem dX1_kindOf_7 : decode cX1_kindOf 7 = .ok (.iload_n 3, 1) := by decide +kernel
theorem dX1_kindOf_8 : decode cX1_kindOf 8 = .ok (.iconst (-1), 1) := by decide +kernel
theorem dX1_kindOf_9 : decode cX1_kindOf 9 = .ok (.if_icmp .ne 7, 3) := by decide +kernel
theorem dX1_kindOf_12 : decode cX1_kindOf 12 = .ok (.iconst 0, 1) := by decide +kernel
theorem dX1_kindOf_13 : decode cX1_kindOf 13 = .ok (.goto 9, 3) := by decide +kernel
theorem dX1_kindOf_16 : decode cX1_kindOf 16 = .ok (.aload_n 0, 1) := by decide +kernel
theorem dX1_kindOf_17 : decode cX1_kindOf 17 = .ok (.getfield 18, 3) := by decide +kernel
theorem dX1_kindOf_20 : decode cX1_kindOf 20 = .ok (.iload_n 3, 1) := by decide +kernel
theorem dX1_kindOf_21 : decode cX1_kindOf 21 = .ok (.iaload, 1) := by decide +kernel
theorem dX1_kindOf_22 : decode cX1_kindOf 22 = .ok (.ireturn, 1) := by decide +kernel
theorem dX1_countOf_0 : decode cX1_countOf 0 = .ok (.iconst 0, 1) := by decide +kernel
theorem dX1_countOf_1 : decode cX1_countOf 1 = .ok (.istore_n 3, 1) := by decide +kernel
theorem dX1_countOf_2 : decode cX1_countOf 2 = .ok (.iconst 0, 1) := by decide +kernel
theorem dX1_countOf_3 : decode cX1_countOf 3 = .ok (.istore 4, 2) := by decide +kernel
theorem dX1_countOf_5 : decode cX1_countOf 5 = .ok (.iload 4, 2) := by decide +kernel
theorem dX1_countOf_7 : decode cX1_countOf 7 = .ok (.aload_n 0, 1) := by decide +kernel
theorem dX1_countOf_8 : decode cX1_countOf 8 = .ok (.getfield 21, 3) := by decide +kernel
theorem dX1_countOf_11 : decode cX1_countOf 11 = .ok (.if_icmp .ge 34, 3) := by decide +kernel
theorem dX1_countOf_14 : decode cX1_countOf 14 = .ok (.aload_n 0, 1) := by decide +kernel
theorem dX1_countOf_15 : decode cX1_countOf 15 = .ok (.getfield 9, 3) := by decide +kernel
theorem dX1_countOf_18 : decode cX1_countOf 18 = .ok (.iload 4, 2) := by decide +kernel
theorem dX1_countOf_20 : decode cX1_countOf 20 = .ok (.iaload, 1) := by decide +kernel
theorem dX1_countOf_21 : decode cX1_countOf 21 = .ok (.iload_n 1, 1) := by decide +kernel
theorem dX1_countOf_22 : decode cX1_countOf 22 = .ok (.if_icmp .ne 17, 3) := by decide +kernel
theorem dX1_countOf_25 : decode cX1_countOf 25 = .ok (.aload_n 0, 1) := by decide +kernel
theorem dX1_countOf_26 : decode cX1_countOf 26 = .ok (.getfield 18, 3) := by decide +kernel
theorem dX1_countOf_29 : decode cX1_countOf 29 = .ok (.iload 4, 2) := by decide +kernel
theorem dX1_countOf_31 : decode cX1_countOf 31 = .ok (.iaload, 1) := by decide +kernel
theorem dX1_countOf_32 : decode cX1_countOf 32 = .ok (.iload_n 2, 1) := by decide +kernel
theorem dX1_countOf_33 : decode cX1_countOf 33 = .ok (.if_icmp .ne 6, 3) := by decide +kernel
theorem dX1_countOf_36 : decode cX1_countOf 36 = .ok (.iinc 3 1, 3) := by decide +kernel
theorem dX1_countOf_39 : decode cX1_countOf 39 = .ok (.iinc 4 1, 3) := by decide +kernel
theorem dX1_countOf_42 : decode cX1_countOf 42 = .ok (.goto (-37), 3) := by decide +kernel
theorem dX1_countOf_45 : decode cX1_countOf 45 = .ok (.iload_n 3, 1) := by decide +kernel
theorem dX1_countOf_46 : decode cX1_countOf 46 = .ok (.ireturn, 1) := by decide +kernel
set_option maxRecDepth 20000 in
theorem ggX1_handOver_X1_find : GoodIn wsX1_handOver wsX1_find := goodIn_r _ [13, 1, 2, 3, 14, 15, 16, 17] (by decide +kernel) (by decide +kernel)
set_option maxRecDepth 20000 in
theorem gX1_handOver_X1_find : GoodIn wsX1_handOver (wsV RX1 25 RX1 yX1_find wsX1_find) := goodIn_app (goodIn_of _ (by decide +kernel)) ggX1_handOver_X1_find
theorem dX1_handOver_0 : decode cX1_handOver 0 = .ok (.iconst 0, 1) := by decide +kernel
theorem dX1_handOver_1 : decode cX1_handOver 1 = .ok (.istore_n 3, 1) := by decide +kernel
theorem dX1_handOver_2 : decode cX1_handOver 2 = .ok (.iload_n 3, 1) := by decide +kernel
theorem dX1_handOver_3 : decode cX1_handOver 3 = .ok (.aload_n 0, 1) := by decide +kernel
theorem dX1_handOver_4 : decode cX1_handOver 4 = .ok (.getfield 21, 3) := by decide +kernel
theorem dX1_handOver_7 : decode cX1_handOver 7 = .ok (.if_icmp .ge 71, 3) := by decide +kernel
theorem dX1_handOver_10 : decode cX1_handOver 10 = .ok (.aload_n 0, 1) := by decide +kernel
theorem dX1_handOver_11 : decode cX1_handOver 11 = .ok (.getfield 9, 3) := by decide +kernel
theorem dX1_handOver_14 : decode cX1_handOver 14 = .ok (.iload_n 3, 1) := by decide +kernel
theorem dX1_handOver_15 : decode cX1_handOver 15 = .ok (.iaload, 1) := by decide +kernel
theorem dX1_handOver_16 : decode cX1_handOver 16 = .ok (.iload_n 1, 1) := by decide +kernel
theorem dX1_handOver_17 : decode cX1_handOver 17 = .ok (.if_icmp .ne 55, 3) := by decide +kernel
theorem dX1_handOver_20 : decode cX1_handOver 20 = .ok (.aload_n 0, 1) := by decide +kernel
theorem dX1_handOver_21 : decode cX1_handOver 21 = .ok (.iload_n 2, 1) := by decide +kernel
theorem dX1_handOver_22 : decode cX1_handOver 22 = .ok (.aload_n 0, 1) := by decide +kernel
theorem dX1_handOver_23 : decode cX1_handOver 23 = .ok (.getfield 15, 3) := by decide +kernel
theorem dX1_handOver_26 : decode cX1_handOver 26 = .ok (.iload_n 3, 1) := by decide +kernel
theorem dX1_handOver_27 : decode cX1_handOver 27 = .ok (.iaload, 1) := by decide +kernel
theorem dX1_handOver_28 : decode cX1_handOver 28 = .ok (.invokevirtual 25, 3) := by decide +kernel
theorem dX1_handOver_31 : decode cX1_handOver 31 = .ok (.istore 4, 2) := by decide +kernel
theorem dX1_handOver_33 : decode cX1_handOver 33 = .ok (.iload 4, 2) := by decide +kernel
theorem dX1_handOver_35 : decode cX1_handOver 35 = .ok (.iconst (-1), 1) := by decide +kernel
theorem dX1_handOver_36 : decode cX1_handOver 36 = .ok (.if_icmp .ne 13, 3) := by decide +kernel
theorem dX1_handOver_39 : decode cX1_handOver 39 = .ok (.aload_n 0, 1) := by decide +kernel
theorem dX1_handOver_40 : decode cX1_handOver 40 = .ok (.getfield 9, 3) := by decide +kernel
theorem dX1_handOver_43 : decode cX1_handOver 43 = .ok (.iload_n 3, 1) := by decide +kernel
theorem dX1_handOver_44 : decode cX1_handOver 44 = .ok (.iload_n 2, 1) := by decide +kernel
theorem dX1_handOver_45 : decode cX1_handOver 45 = .ok (.iastore, 1) := by decide +kernel
theorem dX1_handOver_46 : decode cX1_handOver 46 = .ok (.goto 26, 3) := by decide +kernel
theorem dX1_handOver_49 : decode cX1_handOver 49 = .ok (.aload_n 0, 1) := by decide +kernel
theorem dX1_handOver_50 : decode cX1_handOver 50 = .ok (.getfield 18, 3) := by decide +kernel
theorem dX1_handOver_53 : decode cX1_handOver 53 = .ok (.iload 4, 2) := by decide +kernel
theorem dX1_handOver_55 : decode cX1_handOver 55 = .ok (.aload_n 0, 1) := by decide +kernel
theorem dX1_handOver_56 : decode cX1_handOver 56 = .ok (.getfield 18, 3) := by decide +kernel
theorem dX1_handOver_59 : decode cX1_handOver 59 = .ok (.iload 4, 2) := by decide +kernel
theorem dX1_handOver_61 : decode cX1_handOver 61 = .ok (.iaload, 1) := by decide +kernel
theorem dX1_handOver_62 : decode cX1_handOver 62 = .ok (.aload_n 0, 1) := by decide +kernel
theorem dX1_handOver_63 : decode cX1_handOver 63 = .ok (.getfield 18, 3) := by decide +kernel
theorem dX1_handOver_66 : decode cX1_handOver 66 = .ok (.iload_n 3, 1) := by decide +kernel
theorem dX1_handOver_67 : decode cX1_handOver 67 = .ok (.iaload, 1) := by decide +kernel
theorem dX1_handOver_68 : decode cX1_handOver 68 = .ok (.invokestatic 29, 3) := by decide +kernel
theorem dX1_handOver_71 : decode cX1_handOver 71 = .ok (.iastore, 1) := by decide +kernel
theorem dX1_handOver_72 : decode cX1_handOver 72 = .ok (.iinc 3 1, 3) := by decide +kernel
theorem dX1_handOver_75 : decode cX1_handOver 75 = .ok (.goto (-73), 3) := by decide +kernel
theorem dX1_handOver_78 : decode cX1_handOver 78 = .ok (.return_, 1) := by decide +kernel
theorem dX1_drop_0 : decode cX1_drop 0 = .ok (.iconst 0, 1) := by decide +kernel
theorem dX1_drop_1 : decode cX1_drop 1 = .ok (.istore_n 2, 1) := by decide +kernel
theorem dX1_drop_2 : decode cX1_drop 2 = .ok (.iload_n 2, 1) := by decide +kernel
theorem dX1_drop_3 : decode cX1_drop 3 = .ok (.aload_n 0, 1) := by decide +kernel
theorem dX1_drop_4 : decode cX1_drop 4 = .ok (.getfield 21, 3) := by decide +kernel
theorem dX1_drop_7 : decode cX1_drop 7 = .ok (.if_icmp .ge 26, 3) := by decide +kernel
theorem dX1_drop_10 : decode cX1_drop 10 = .ok (.aload_n 0, 1) := by decide +kernel
theorem dX1_drop_11 : decode cX1_drop 11 = .ok (.getfield 9, 3) := by decide +kernel
theorem dX1_drop_14 : decode cX1_drop 14 = .ok (.iload_n 2, 1) := by decide +kernel
theorem dX1_drop_15 : decode cX1_drop 15 = .ok (.iaload, 1) := by decide +kernel
theorem dX1_drop_16 : decode cX1_drop 16 = .ok (.iload_n 1, 1) := by decide +kernel
theorem dX1_drop_17 : decode cX1_drop 17 = .ok (.if_icmp .ne 10, 3) := by decide +kernel
theorem dX1_drop_20 : decode cX1_drop 20 = .ok (.aload_n 0, 1) := by decide +kernel
theorem dX1_drop_21 : decode cX1_drop 21 = .ok (.getfield 9, 3) := by decide +kernel
theorem dX1_drop_24 : decode cX1_drop 24 = .ok (.iload_n 2, 1) := by decide +kernel
theorem dX1_drop_25 : decode cX1_drop 25 = .ok (.iconst (-1), 1) := by decide +kernel
theorem dX1_drop_26 : decode cX1_drop 26 = .ok (.iastore, 1) := by decide +kernel
theorem dX1_drop_27 : decode cX1_drop 27 = .ok (.iinc 2 1, 3) := by decide +kernel
theorem dX1_drop_30 : decode cX1_drop 30 = .ok (.goto (-28), 3) := by decide +kernel
theorem dX1_drop_33 : decode cX1_drop 33 = .ok (.return_, 1) := by decide +kernel
set_option maxRecDepth 20000 in
theorem ggX1_leastInTheWay_X1_isInTheWay : GoodIn wsX1_leastInTheWay wsX1_isInTheWay := goodIn_r _ [7, 8, 2, 9, 10, 11, 12, 13] (by decide +kernel) (by decide +kernel)
set_option maxRecDepth 20000 in
theorem gX1_leastInTheWay_X1_isInTheWay : GoodIn wsX1_leastInTheWay (wsV RX1 34 RX1 yX1_isInTheWay wsX1_isInTheWay) := goodIn_app (goodIn_of _ (by decide +kernel)) ggX1_leastInTheWay_X1_isInTheWay
theorem dX1_leastInTheWay_0 : decode cX1_leastInTheWay 0 = .ok (.iconst 0, 1) := by decide +kernel
theorem dX1_leastInTheWay_1 : decode cX1_leastInTheWay 1 = .ok (.istore 4, 2) := by decide +kernel
theorem dX1_leastInTheWay_3 : decode cX1_leastInTheWay 3 = .ok (.iconst 0, 1) := by decide +kernel
theorem dX1_leastInTheWay_4 : decode cX1_leastInTheWay 4 = .ok (.istore 5, 2) := by decide +kernel
theorem dX1_leastInTheWay_6 : decode cX1_leastInTheWay 6 = .ok (.iload 5, 2) := by decide +kernel
theorem dX1_leastInTheWay_8 : decode cX1_leastInTheWay 8 = .ok (.aload_n 0, 1) := by decide +kernel
theorem dX1_leastInTheWay_9 : decode cX1_leastInTheWay 9 = .ok (.getfield 21, 3) := by decide +kernel
theorem dX1_leastInTheWay_12 : decode cX1_leastInTheWay 12 = .ok (.if_icmp .ge 47, 3) := by decide +kernel
theorem dX1_leastInTheWay_15 : decode cX1_leastInTheWay 15 = .ok (.aload_n 0, 1) := by decide +kernel
theorem dX1_leastInTheWay_16 : decode cX1_leastInTheWay 16 = .ok (.iload 5, 2) := by decide +kernel
theorem dX1_leastInTheWay_18 : decode cX1_leastInTheWay 18 = .ok (.iload_n 1, 1) := by decide +kernel
theorem dX1_leastInTheWay_19 : decode cX1_leastInTheWay 19 = .ok (.iload_n 2, 1) := by decide +kernel
theorem dX1_leastInTheWay_20 : decode cX1_leastInTheWay 20 = .ok (.aload_n 3, 1) := by decide +kernel
theorem dX1_leastInTheWay_21 : decode cX1_leastInTheWay 21 = .ok (.invokevirtual 34, 3) := by decide +kernel
theorem dX1_leastInTheWay_24 : decode cX1_leastInTheWay 24 = .ok (.ifCond .eq 29, 3) := by decide +kernel
theorem dX1_leastInTheWay_27 : decode cX1_leastInTheWay 27 = .ok (.iload 4, 2) := by decide +kernel
theorem dX1_leastInTheWay_29 : decode cX1_leastInTheWay 29 = .ok (.ifCond .eq 15, 3) := by decide +kernel
theorem dX1_leastInTheWay_32 : decode cX1_leastInTheWay 32 = .ok (.aload_n 0, 1) := by decide +kernel
theorem dX1_leastInTheWay_33 : decode cX1_leastInTheWay 33 = .ok (.getfield 9, 3) := by decide +kernel
theorem dX1_leastInTheWay_36 : decode cX1_leastInTheWay 36 = .ok (.iload 5, 2) := by decide +kernel
theorem dX1_leastInTheWay_38 : decode cX1_leastInTheWay 38 = .ok (.iaload, 1) := by decide +kernel
theorem dX1_leastInTheWay_39 : decode cX1_leastInTheWay 39 = .ok (.iload 4, 2) := by decide +kernel
theorem dX1_leastInTheWay_41 : decode cX1_leastInTheWay 41 = .ok (.if_icmp .ge 12, 3) := by decide +kernel
theorem dX1_leastInTheWay_44 : decode cX1_leastInTheWay 44 = .ok (.aload_n 0, 1) := by decide +kernel
theorem dX1_leastInTheWay_45 : decode cX1_leastInTheWay 45 = .ok (.getfield 9, 3) := by decide +kernel
theorem dX1_leastInTheWay_48 : decode cX1_leastInTheWay 48 = .ok (.iload 5, 2) := by decide +kernel
theorem dX1_leastInTheWay_50 : decode cX1_leastInTheWay 50 = .ok (.iaload, 1) := by decide +kernel
theorem dX1_leastInTheWay_51 : decode cX1_leastInTheWay 51 = .ok (.istore 4, 2) := by decide +kernel
theorem dX1_leastInTheWay_53 : decode cX1_leastInTheWay 53 = .ok (.iinc 5 1, 3) := by decide +kernel
theorem dX1_leastInTheWay_56 : decode cX1_leastInTheWay 56 = .ok (.goto (-50), 3) := by decide +kernel
theorem dX1_leastInTheWay_59 : decode cX1_leastInTheWay 59 = .ok (.iload 4, 2) := by decide +kernel
theorem dX1_leastInTheWay_61 : decode cX1_leastInTheWay 61 = .ok (.ireturn, 1) := by decide +kernel
set_option maxRecDepth 20000 in
theorem ggX1_drawInTheWay_X5_slotOf : GoodIn wsX1_drawInTheWay wsX5_slotOf := goodIn_r _ [7, 8, 31, 32] (by decide +kernel) (by decide +kernel)
set_option maxRecDepth 20000 in
theorem gX1_drawInTheWay_X5_slotOf : GoodIn wsX1_drawInTheWay (wsV RX1 38 RX5 yX5_slotOf wsX5_slotOf) := goodIn_app (goodIn_of _ (by decide +kernel)) ggX1_drawInTheWay_X5_slotOf
set_option maxRecDepth 20000 in
theorem ggX1_drawInTheWay_X5_kindOf : GoodIn wsX1_drawInTheWay wsX5_kindOf := goodIn_r _ [12, 13, 31, 32] (by decide +kernel) (by decide +kernel)
set_option maxRecDepth 20000 in
theorem gX1_drawInTheWay_X5_kindOf : GoodIn wsX1_drawInTheWay (wsV RX1 44 RX5 yX5_kindOf wsX5_kindOf) := goodIn_app (goodIn_of _ (by decide +kernel)) ggX1_drawInTheWay_X5_kindOf
set_option maxRecDepth 20000 in
theorem ggX1_drawInTheWay_X1_isInTheWay : GoodIn wsX1_drawInTheWay wsX1_isInTheWay := goodIn_r _ [18, 19, 2, 20, 27, 28, 29, 30] (by decide +kernel) (by decide +kernel)
set_option maxRecDepth 20000 in
theorem gX1_drawInTheWay_X1_isInTheWay : GoodIn wsX1_drawInTheWay (wsV RX1 34 RX1 yX1_isInTheWay wsX1_isInTheWay) := goodIn_app (goodIn_of _ (by decide +kernel)) ggX1_drawInTheWay_X1_isInTheWay
set_option maxRecDepth 20000 in
theorem ggX1_drawInTheWay_X4_join : GoodIn wsX1_drawInTheWay wsX4_join := goodIn_r _ [25, 26, 33] (by decide +kernel) (by decide +kernel)
set_option maxRecDepth 20000 in
theorem gX1_drawInTheWay_X4_join : GoodIn wsX1_drawInTheWay (wsV RX1 47 RX4 yX4_join wsX4_join) := goodIn_app (goodIn_of _ (by decide +kernel)) ggX1_drawInTheWay_X4_join
theorem dX1_drawInTheWay_0 : decode cX1_drawInTheWay 0 = .ok (.iconst 0, 1) := by decide +kernel
theorem dX1_drawInTheWay_1 : decode cX1_drawInTheWay 1 = .ok (.istore 5, 2) := by decide +kernel
theorem dX1_drawInTheWay_3 : decode cX1_drawInTheWay 3 = .ok (.iload 5, 2) := by decide +kernel
theorem dX1_drawInTheWay_5 : decode cX1_drawInTheWay 5 = .ok (.aload_n 0, 1) := by decide +kernel
theorem dX1_drawInTheWay_6 : decode cX1_drawInTheWay 6 = .ok (.getfield 21, 3) := by decide +kernel
theorem dX1_drawInTheWay_9 : decode cX1_drawInTheWay 9 = .ok (.if_icmp .ge 42, 3) := by decide +kernel
theorem dX1_drawInTheWay_12 : decode cX1_drawInTheWay 12 = .ok (.aload_n 0, 1) := by decide +kernel
theorem dX1_drawInTheWay_13 : decode cX1_drawInTheWay 13 = .ok (.iload 5, 2) := by decide +kernel
theorem dX1_drawInTheWay_15 : decode cX1_drawInTheWay 15 = .ok (.aload_n 2, 1) := by decide +kernel
theorem dX1_drawInTheWay_16 : decode cX1_drawInTheWay 16 = .ok (.iload_n 1, 1) := by decide +kernel
theorem dX1_drawInTheWay_17 : decode cX1_drawInTheWay 17 = .ok (.invokevirtual 38, 3) := by decide +kernel
theorem dX1_drawInTheWay_20 : decode cX1_drawInTheWay 20 = .ok (.aload_n 2, 1) := by decide +kernel
theorem dX1_drawInTheWay_21 : decode cX1_drawInTheWay 21 = .ok (.iload_n 1, 1) := by decide +kernel
theorem dX1_drawInTheWay_22 : decode cX1_drawInTheWay 22 = .ok (.invokevirtual 44, 3) := by decide +kernel
theorem dX1_drawInTheWay_25 : decode cX1_drawInTheWay 25 = .ok (.aload_n 3, 1) := by decide +kernel
theorem dX1_drawInTheWay_26 : decode cX1_drawInTheWay 26 = .ok (.invokevirtual 34, 3) := by decide +kernel
theorem dX1_drawInTheWay_29 : decode cX1_drawInTheWay 29 = .ok (.ifCond .eq 16, 3) := by decide +kernel
theorem dX1_drawInTheWay_32 : decode cX1_drawInTheWay 32 = .ok (.aload 4, 2) := by decide +kernel
theorem dX1_drawInTheWay_34 : decode cX1_drawInTheWay 34 = .ok (.iload_n 1, 1) := by decide +kernel
theorem dX1_drawInTheWay_35 : decode cX1_drawInTheWay 35 = .ok (.aload_n 0, 1) := by decide +kernel
theorem dX1_drawInTheWay_36 : decode cX1_drawInTheWay 36 = .ok (.getfield 9, 3) := by decide +kernel
theorem dX1_drawInTheWay_39 : decode cX1_drawInTheWay 39 = .ok (.iload 5, 2) := by decide +kernel
theorem dX1_drawInTheWay_41 : decode cX1_drawInTheWay 41 = .ok (.iaload, 1) := by decide +kernel
theorem dX1_drawInTheWay_42 : decode cX1_drawInTheWay 42 = .ok (.invokevirtual 47, 3) := by decide +kernel
theorem dX1_drawInTheWay_45 : decode cX1_drawInTheWay 45 = .ok (.iinc 5 1, 3) := by decide +kernel
theorem dX1_drawInTheWay_48 : decode cX1_drawInTheWay 48 = .ok (.goto (-45), 3) := by decide +kernel
theorem dX1_drawInTheWay_51 : decode cX1_drawInTheWay 51 = .ok (.return_, 1) := by decide +kernel
theorem dX1_isInTheWay_0 : decode cX1_isInTheWay 0 = .ok (.aload_n 0, 1) := by decide +kernel
theorem dX1_isInTheWay_1 : decode cX1_isInTheWay 1 = .ok (.getfield 15, 3) := by decide +kernel
theorem dX1_isInTheWay_4 : decode cX1_isInTheWay 4 = .ok (.iload_n 1, 1) := by decide +kernel
theorem dX1_isInTheWay_5 : decode cX1_isInTheWay 5 = .ok (.iaload, 1) := by decide +kernel
theorem dX1_isInTheWay_6 : decode cX1_isInTheWay 6 = .ok (.iload_n 2, 1) := by decide +kernel
theorem dX1_isInTheWay_7 : decode cX1_isInTheWay 7 = .ok (.if_icmp .ne 25, 3) := by decide +kernel
theorem dX1_isInTheWay_10 : decode cX1_isInTheWay 10 = .ok (.aload_n 0, 1) := by decide +kernel
theorem dX1_isInTheWay_11 : decode cX1_isInTheWay 11 = .ok (.getfield 9, 3) := by decide +kernel
theorem dX1_isInTheWay_14 : decode cX1_isInTheWay 14 = .ok (.iload_n 1, 1) := by decide +kernel
theorem dX1_isInTheWay_15 : decode cX1_isInTheWay 15 = .ok (.iaload, 1) := by decide +kernel
theorem dX1_isInTheWay_16 : decode cX1_isInTheWay 16 = .ok (.iconst (-1), 1) := by decide +kernel
theorem dX1_isInTheWay_17 : decode cX1_isInTheWay 17 = .ok (.if_icmp .eq 15, 3) := by decide +kernel
theorem dX1_isInTheWay_20 : decode cX1_isInTheWay 20 = .ok (.aload 4, 2) := by decide +kernel
theorem dX1_isInTheWay_22 : decode cX1_isInTheWay 22 = .ok (.aload_n 0, 1) := by decide +kernel
theorem dX1_isInTheWay_23 : decode cX1_isInTheWay 23 = .ok (.getfield 9, 3) := by decide +kernel
theorem dX1_isInTheWay_26 : decode cX1_isInTheWay 26 = .ok (.iload_n 1, 1) := by decide +kernel
theorem dX1_isInTheWay_27 : decode cX1_isInTheWay 27 = .ok (.iaload, 1) := by decide +kernel
theorem dX1_isInTheWay_28 : decode cX1_isInTheWay 28 = .ok (.baload, 1) := by decide +kernel
theorem dX1_isInTheWay_29 : decode cX1_isInTheWay 29 = .ok (.ifCond .eq 5, 3) := by decide +kernel
theorem dX1_isInTheWay_32 : decode cX1_isInTheWay 32 = .ok (.iconst 0, 1) := by decide +kernel
theorem dX1_isInTheWay_33 : decode cX1_isInTheWay 33 = .ok (.ireturn, 1) := by decide +kernel
theorem dX1_isInTheWay_34 : decode cX1_isInTheWay 34 = .ok (.iload_n 3, 1) := by decide +kernel
theorem dX1_isInTheWay_35 : decode cX1_isInTheWay 35 = .ok (.iconst 2, 1) := by decide +kernel
theorem dX1_isInTheWay_36 : decode cX1_isInTheWay 36 = .ok (.if_icmp .eq 13, 3) := by decide +kernel
theorem dX1_isInTheWay_39 : decode cX1_isInTheWay 39 = .ok (.aload_n 0, 1) := by decide +kernel
theorem dX1_isInTheWay_40 : decode cX1_isInTheWay 40 = .ok (.getfield 18, 3) := by decide +kernel
theorem dX1_isInTheWay_43 : decode cX1_isInTheWay 43 = .ok (.iload_n 1, 1) := by decide +kernel
theorem dX1_isInTheWay_44 : decode cX1_isInTheWay 44 = .ok (.iaload, 1) := by decide +kernel
theorem dX1_isInTheWay_45 : decode cX1_isInTheWay 45 = .ok (.iconst 2, 1) := by decide +kernel
theorem dX1_isInTheWay_46 : decode cX1_isInTheWay 46 = .ok (.if_icmp .ne 7, 3) := by decide +kernel
theorem dX1_isInTheWay_49 : decode cX1_isInTheWay 49 = .ok (.iconst 1, 1) := by decide +kernel
theorem dX1_isInTheWay_50 : decode cX1_isInTheWay 50 = .ok (.goto 4, 3) := by decide +kernel
theorem dX1_isInTheWay_53 : decode cX1_isInTheWay 53 = .ok (.iconst 0, 1) := by decide +kernel
theorem dX1_isInTheWay_54 : decode cX1_isInTheWay 54 = .ok (.ireturn, 1) := by decide +kernel
theorem dX1_find_0 : decode cX1_find 0 = .ok (.iconst 0, 1) := by decide +kernel
theorem dX1_find_1 : decode cX1_find 1 = .ok (.istore_n 3, 1) := by decide +kernel
theorem dX1_find_2 : decode cX1_find 2 = .ok (.iload_n 3, 1) := by decide +kernel
theorem dX1_find_3 : decode cX1_find 3 = .ok (.aload_n 0, 1) := by decide +kernel
theorem dX1_find_4 : decode cX1_find 4 = .ok (.getfield 21, 3) := by decide +kernel
theorem dX1_find_7 : decode cX1_find 7 = .ok (.if_icmp .ge 31, 3) := by decide +kernel
theorem dX1_find_10 : decode cX1_find 10 = .ok (.aload_n 0, 1) := by decide +kernel
theorem dX1_find_11 : decode cX1_find 11 = .ok (.getfield 9, 3) := by decide +kernel
theorem dX1_find_14 : decode cX1_find 14 = .ok (.iload_n 3, 1) := by decide +kernel
theorem dX1_find_15 : decode cX1_find 15 = .ok (.iaload, 1) := by decide +kernel
theorem dX1_find_16 : decode cX1_find 16 = .ok (.iload_n 1, 1) := by decide +kernel
theorem dX1_find_17 : decode cX1_find 17 = .ok (.if_icmp .ne 15, 3) := by decide +kernel
theorem dX1_find_20 : decode cX1_find 20 = .ok (.aload_n 0, 1) := by decide +kernel
theorem dX1_find_21 : decode cX1_find 21 = .ok (.getfield 15, 3) := by decide +kernel
theorem dX1_find_24 : decode cX1_find 24 = .ok (.iload_n 3, 1) := by decide +kernel
theorem dX1_find_25 : decode cX1_find 25 = .ok (.iaload, 1) := by decide +kernel
theorem dX1_find_26 : decode cX1_find 26 = .ok (.iload_n 2, 1) := by decide +kernel
theorem dX1_find_27 : decode cX1_find 27 = .ok (.if_icmp .ne 5, 3) := by decide +kernel
theorem dX1_find_30 : decode cX1_find 30 = .ok (.iload_n 3, 1) := by decide +kernel
theorem dX1_find_31 : decode cX1_find 31 = .ok (.ireturn, 1) := by decide +kernel
theorem dX1_find_32 : decode cX1_find 32 = .ok (.iinc 3 1, 3) := by decide +kernel
theorem dX1_find_35 : decode cX1_find 35 = .ok (.goto (-33), 3) := by decide +kernel
theorem dX1_find_38 : decode cX1_find 38 = .ok (.iconst (-1), 1) := by decide +kernel
theorem dX1_find_39 : decode cX1_find 39 = .ok (.ireturn, 1) := by decide +kernel
theorem dX2_init_0 : decode cX2_init 0 = .ok (.aload_n 0, 1) := by decide +kernel
theorem dX2_init_1 : decode cX2_init 1 = .ok (.invokespecial 3, 3) := by decide +kernel
theorem dX2_init_4 : decode cX2_init 4 = .ok (.aload_n 0, 1) := by decide +kernel
theorem dX2_init_5 : decode cX2_init 5 = .ok (.sipush 512, 3) := by decide +kernel
theorem dX2_init_8 : decode cX2_init 8 = .ok (.newarray .int, 2) := by decide +kernel
theorem dX2_init_10 : decode cX2_init 10 = .ok (.putfield 9, 3) := by decide +kernel
theorem dX2_init_13 : decode cX2_init 13 = .ok (.aload_n 0, 1) := by decide +kernel
theorem dX2_init_14 : decode cX2_init 14 = .ok (.iconst 0, 1) := by decide +kernel
theorem dX2_init_15 : decode cX2_init 15 = .ok (.putfield 15, 3) := by decide +kernel
theorem dX2_init_18 : decode cX2_init 18 = .ok (.return_, 1) := by decide +kernel
theorem dX2_count_0 : decode cX2_count 0 = .ok (.aload_n 0, 1) := by decide +kernel
theorem dX2_count_1 : decode cX2_count 1 = .ok (.getfield 15, 3) := by decide +kernel
theorem dX2_count_4 : decode cX2_count 4 = .ok (.ireturn, 1) := by decide +kernel
theorem dX2_at_0 : decode cX2_at 0 = .ok (.aload_n 0, 1) := by decide +kernel
theorem dX2_at_1 : decode cX2_at 1 = .ok (.getfield 9, 3) := by decide +kernel
theorem dX2_at_4 : decode cX2_at 4 = .ok (.iload_n 1, 1) := by decide +kernel
theorem dX2_at_5 : decode cX2_at 5 = .ok (.iaload, 1) := by decide +kernel
theorem dX2_at_6 : decode cX2_at 6 = .ok (.ireturn, 1) := by decide +kernel
theorem dX2_find_0 : decode cX2_find 0 = .ok (.iconst 0, 1) := by decide +kernel
theorem dX2_find_1 : decode cX2_find 1 = .ok (.istore_n 2, 1) := by decide +kernel
theorem dX2_find_2 : decode cX2_find 2 = .ok (.iload_n 2, 1) := by decide +kernel
theorem dX2_find_3 : decode cX2_find 3 = .ok (.aload_n 0, 1) := by decide +kernel
theorem dX2_find_4 : decode cX2_find 4 = .ok (.getfield 15, 3) := by decide +kernel
theorem dX2_find_7 : decode cX2_find 7 = .ok (.if_icmp .ge 21, 3) := by decide +kernel
theorem dX2_find_10 : decode cX2_find 10 = .ok (.aload_n 0, 1) := by decide +kernel
theorem dX2_find_11 : decode cX2_find 11 = .ok (.getfield 9, 3) := by decide +kernel
theorem dX2_find_14 : decode cX2_find 14 = .ok (.iload_n 2, 1) := by decide +kernel
theorem dX2_find_15 : decode cX2_find 15 = .ok (.iaload, 1) := by decide +kernel
theorem dX2_find_16 : decode cX2_find 16 = .ok (.iload_n 1, 1) := by decide +kernel
theorem dX2_find_17 : decode cX2_find 17 = .ok (.if_icmp .ne 5, 3) := by decide +kernel
theorem dX2_find_20 : decode cX2_find 20 = .ok (.iload_n 2, 1) := by decide +kernel
theorem dX2_find_21 : decode cX2_find 21 = .ok (.ireturn, 1) := by decide +kernel
theorem dX2_find_22 : decode cX2_find 22 = .ok (.iinc 2 1, 3) := by decide +kernel
theorem dX2_find_25 : decode cX2_find 25 = .ok (.goto (-23), 3) := by decide +kernel
theorem dX2_find_28 : decode cX2_find 28 = .ok (.iconst (-1), 1) := by decide +kernel
theorem dX2_find_29 : decode cX2_find 29 = .ok (.ireturn, 1) := by decide +kernel
set_option maxRecDepth 20000 in
theorem ggX2_findOrAdd_X2_find : GoodIn wsX2_findOrAdd wsX2_find := goodIn_r _ [7, 1, 2, 8, 9] (by decide +kernel) (by decide +kernel)
set_option maxRecDepth 20000 in
theorem gX2_findOrAdd_X2_find : GoodIn wsX2_findOrAdd (wsV RX2 19 RX2 yX2_find wsX2_find) := goodIn_app (goodIn_of _ (by decide +kernel)) ggX2_findOrAdd_X2_find
theorem dX2_findOrAdd_0 : decode cX2_findOrAdd 0 = .ok (.aload_n 0, 1) := by decide +kernel
theorem dX2_findOrAdd_1 : decode cX2_findOrAdd 1 = .ok (.iload_n 1, 1) := by decide +kernel
theorem dX2_findOrAdd_2 : decode cX2_findOrAdd 2 = .ok (.invokevirtual 19, 3) := by decide +kernel
theorem dX2_findOrAdd_5 : decode cX2_findOrAdd 5 = .ok (.istore_n 2, 1) := by decide +kernel
theorem dX2_findOrAdd_6 : decode cX2_findOrAdd 6 = .ok (.iload_n 2, 1) := by decide +kernel
theorem dX2_findOrAdd_7 : decode cX2_findOrAdd 7 = .ok (.iconst (-1), 1) := by decide +kernel
theorem dX2_findOrAdd_8 : decode cX2_findOrAdd 8 = .ok (.if_icmp .ne 13, 3) := by decide +kernel
theorem dX2_findOrAdd_11 : decode cX2_findOrAdd 11 = .ok (.aload_n 0, 1) := by decide +kernel
theorem dX2_findOrAdd_12 : decode cX2_findOrAdd 12 = .ok (.getfield 15, 3) := by decide +kernel
theorem dX2_findOrAdd_15 : decode cX2_findOrAdd 15 = .ok (.sipush 512, 3) := by decide +kernel
theorem dX2_findOrAdd_18 : decode cX2_findOrAdd 18 = .ok (.if_icmp .ne 5, 3) := by decide +kernel
theorem dX2_findOrAdd_21 : decode cX2_findOrAdd 21 = .ok (.iload_n 2, 1) := by decide +kernel
theorem dX2_findOrAdd_22 : decode cX2_findOrAdd 22 = .ok (.ireturn, 1) := by decide +kernel
theorem dX2_findOrAdd_23 : decode cX2_findOrAdd 23 = .ok (.aload_n 0, 1) := by decide +kernel
theorem dX2_findOrAdd_24 : decode cX2_findOrAdd 24 = .ok (.getfield 9, 3) := by decide +kernel
theorem dX2_findOrAdd_27 : decode cX2_findOrAdd 27 = .ok (.aload_n 0, 1) := by decide +kernel
theorem dX2_findOrAdd_28 : decode cX2_findOrAdd 28 = .ok (.getfield 15, 3) := by decide +kernel
theorem dX2_findOrAdd_31 : decode cX2_findOrAdd 31 = .ok (.iload_n 1, 1) := by decide +kernel
theorem dX2_findOrAdd_32 : decode cX2_findOrAdd 32 = .ok (.iastore, 1) := by decide +kernel
theorem dX2_findOrAdd_33 : decode cX2_findOrAdd 33 = .ok (.aload_n 0, 1) := by decide +kernel
theorem dX2_findOrAdd_34 : decode cX2_findOrAdd 34 = .ok (.dup, 1) := by decide +kernel
theorem dX2_findOrAdd_35 : decode cX2_findOrAdd 35 = .ok (.getfield 15, 3) := by decide +kernel
theorem dX2_findOrAdd_38 : decode cX2_findOrAdd 38 = .ok (.iconst 1, 1) := by decide +kernel
theorem dX2_findOrAdd_39 : decode cX2_findOrAdd 39 = .ok (.iadd, 1) := by decide +kernel
theorem dX2_findOrAdd_40 : decode cX2_findOrAdd 40 = .ok (.putfield 15, 3) := by decide +kernel
theorem dX2_findOrAdd_43 : decode cX2_findOrAdd 43 = .ok (.aload_n 0, 1) := by decide +kernel
theorem dX2_findOrAdd_44 : decode cX2_findOrAdd 44 = .ok (.getfield 15, 3) := by decide +kernel
theorem dX2_findOrAdd_47 : decode cX2_findOrAdd 47 = .ok (.iconst 1, 1) := by decide +kernel
theorem dX2_findOrAdd_48 : decode cX2_findOrAdd 48 = .ok (.isub, 1) := by decide +kernel
theorem dX2_findOrAdd_49 : decode cX2_findOrAdd 49 = .ok (.ireturn, 1) := by decide +kernel
theorem dX3_init_0 : decode cX3_init 0 = .ok (.aload_n 0, 1) := by decide +kernel
theorem dX3_init_1 : decode cX3_init 1 = .ok (.invokespecial 3, 3) := by decide +kernel
theorem dX3_init_4 : decode cX3_init 4 = .ok (.aload_n 0, 1) := by decide +kernel
theorem dX3_init_5 : decode cX3_init 5 = .ok (.sipush 512, 3) := by decide +kernel
theorem dX3_init_8 : decode cX3_init 8 = .ok (.newarray .int, 2) := by decide +kernel
theorem dX3_init_10 : decode cX3_init 10 = .ok (.putfield 9, 3) := by decide +kernel
theorem dX3_init_13 : decode cX3_init 13 = .ok (.aload_n 0, 1) := by decide +kernel
theorem dX3_init_14 : decode cX3_init 14 = .ok (.iconst 0, 1) := by decide +kernel
theorem dX3_init_15 : decode cX3_init 15 = .ok (.putfield 15, 3) := by decide +kernel
theorem dX3_init_18 : decode cX3_init 18 = .ok (.return_, 1) := by decide +kernel
theorem dX3_isFull_0 : decode cX3_isFull 0 = .ok (.aload_n 0, 1) := by decide +kernel
theorem dX3_isFull_1 : decode cX3_isFull 1 = .ok (.getfield 15, 3) := by decide +kernel
theorem dX3_isFull_4 : decode cX3_isFull 4 = .ok (.sipush 512, 3) := by decide +kernel
theorem dX3_isFull_7 : decode cX3_isFull 7 = .ok (.if_icmp .ne 7, 3) := by decide +kernel
theorem dX3_isFull_10 : decode cX3_isFull 10 = .ok (.iconst 1, 1) := by decide +kernel
theorem dX3_isFull_11 : decode cX3_isFull 11 = .ok (.goto 4, 3) := by decide +kernel
theorem dX3_isFull_14 : decode cX3_isFull 14 = .ok (.iconst 0, 1) := by decide +kernel
theorem dX3_isFull_15 : decode cX3_isFull 15 = .ok (.ireturn, 1) := by decide +kernel
theorem dX3_now_0 : decode cX3_now 0 = .ok (.aload_n 0, 1) := by decide +kernel
theorem dX3_now_1 : decode cX3_now 1 = .ok (.getfield 15, 3) := by decide +kernel
theorem dX3_now_4 : decode cX3_now 4 = .ok (.ireturn, 1) := by decide +kernel
theorem dX3_timeOf_0 : decode cX3_timeOf 0 = .ok (.iload_n 1, 1) := by decide +kernel
theorem dX3_timeOf_1 : decode cX3_timeOf 1 = .ok (.iconst 1, 1) := by decide +kernel
theorem dX3_timeOf_2 : decode cX3_timeOf 2 = .ok (.iadd, 1) := by decide +kernel
theorem dX3_timeOf_3 : decode cX3_timeOf 3 = .ok (.ireturn, 1) := by decide +kernel
set_option maxRecDepth 20000 in
theorem ggX3_add_X3_countOf : GoodIn wsX3_add wsX3_countOf := goodIn_r _ [7, 2, 1, 8, 9] (by decide +kernel) (by decide +kernel)
set_option maxRecDepth 20000 in
theorem gX3_add_X3_countOf : GoodIn wsX3_add (wsV RX3 19 RX3 yX3_countOf wsX3_countOf) := goodIn_app (goodIn_of _ (by decide +kernel)) ggX3_add_X3_countOf
theorem dX3_add_0 : decode cX3_add 0 = .ok (.aload_n 0, 1) := by decide +kernel
theorem dX3_add_1 : decode cX3_add 1 = .ok (.iload_n 1, 1) := by decide +kernel
theorem dX3_add_2 : decode cX3_add 2 = .ok (.invokevirtual 19, 3) := by decide +kernel
theorem dX3_add_5 : decode cX3_add 5 = .ok (.istore_n 2, 1) := by decide +kernel
theorem dX3_add_6 : decode cX3_add 6 = .ok (.aload_n 0, 1) := by decide +kernel
theorem dX3_add_7 : decode cX3_add 7 = .ok (.getfield 9, 3) := by decide +kernel
theorem dX3_add_10 : decode cX3_add 10 = .ok (.aload_n 0, 1) := by decide +kernel
theorem dX3_add_11 : decode cX3_add 11 = .ok (.getfield 15, 3) := by decide +kernel
theorem dX3_add_14 : decode cX3_add 14 = .ok (.iload_n 1, 1) := by decide +kernel
theorem dX3_add_15 : decode cX3_add 15 = .ok (.iastore, 1) := by decide +kernel
theorem dX3_add_16 : decode cX3_add 16 = .ok (.aload_n 0, 1) := by decide +kernel
theorem dX3_add_17 : decode cX3_add 17 = .ok (.dup, 1) := by decide +kernel
theorem dX3_add_18 : decode cX3_add 18 = .ok (.getfield 15, 3) := by decide +kernel
theorem dX3_add_21 : decode cX3_add 21 = .ok (.iconst 1, 1) := by decide +kernel
theorem dX3_add_22 : decode cX3_add 22 = .ok (.iadd, 1) := by decide +kernel
theorem dX3_add_23 : decode cX3_add 23 = .ok (.putfield 15, 3) := by decide +kernel
theorem dX3_add_26 : decode cX3_add 26 = .ok (.iload_n 2, 1) := by decide +kernel
theorem dX3_add_27 : decode cX3_add 27 = .ok (.ireturn, 1) := by decide +kernel
theorem dX3_countOf_0 : decode cX3_countOf 0 = .ok (.iconst 0, 1) := by decide +kernel
theorem dX3_countOf_1 : decode cX3_countOf 1 = .ok (.istore_n 2, 1) := by decide +kernel
theorem dX3_countOf_2 : decode cX3_countOf 2 = .ok (.iconst 0, 1) := by decide +kernel
theorem dX3_countOf_3 : decode cX3_countOf 3 = .ok (.istore_n 3, 1) := by decide +kernel
theorem dX3_countOf_4 : decode cX3_countOf 4 = .ok (.iload_n 3, 1) := by decide +kernel
theorem dX3_countOf_5 : decode cX3_countOf 5 = .ok (.aload_n 0, 1) := by decide +kernel
theorem dX3_countOf_6 : decode cX3_countOf 6 = .ok (.getfield 15, 3) := by decide +kernel
theorem dX3_countOf_9 : decode cX3_countOf 9 = .ok (.if_icmp .ge 22, 3) := by decide +kernel
theorem dX3_countOf_12 : decode cX3_countOf 12 = .ok (.aload_n 0, 1) := by decide +kernel
theorem dX3_countOf_13 : decode cX3_countOf 13 = .ok (.getfield 9, 3) := by decide +kernel
theorem dX3_countOf_16 : decode cX3_countOf 16 = .ok (.iload_n 3, 1) := by decide +kernel
theorem dX3_countOf_17 : decode cX3_countOf 17 = .ok (.iaload, 1) := by decide +kernel
theorem dX3_countOf_18 : decode cX3_countOf 18 = .ok (.iload_n 1, 1) := by decide +kernel
theorem dX3_countOf_19 : decode cX3_countOf 19 = .ok (.if_icmp .ne 6, 3) := by decide +kernel
theorem dX3_countOf_22 : decode cX3_countOf 22 = .ok (.iinc 2 1, 3) := by decide +kernel
theorem dX3_countOf_25 : decode cX3_countOf 25 = .ok (.iinc 3 1, 3) := by decide +kernel
theorem dX3_countOf_28 : decode cX3_countOf 28 = .ok (.goto (-24), 3) := by decide +kernel
theorem dX3_countOf_31 : decode cX3_countOf 31 = .ok (.iload_n 2, 1) := by decide +kernel
theorem dX3_countOf_32 : decode cX3_countOf 32 = .ok (.ireturn, 1) := by decide +kernel
theorem dX3_find_0 : decode cX3_find 0 = .ok (.iconst 0, 1) := by decide +kernel
theorem dX3_find_1 : decode cX3_find 1 = .ok (.istore_n 3, 1) := by decide +kernel
theorem dX3_find_2 : decode cX3_find 2 = .ok (.iconst 0, 1) := by decide +kernel
theorem dX3_find_3 : decode cX3_find 3 = .ok (.istore 4, 2) := by decide +kernel
theorem dX3_find_5 : decode cX3_find 5 = .ok (.iload 4, 2) := by decide +kernel
theorem dX3_find_7 : decode cX3_find 7 = .ok (.aload_n 0, 1) := by decide +kernel
theorem dX3_find_8 : decode cX3_find 8 = .ok (.getfield 15, 3) := by decide +kernel
theorem dX3_find_11 : decode cX3_find 11 = .ok (.if_icmp .ge 31, 3) := by decide +kernel
theorem dX3_find_14 : decode cX3_find 14 = .ok (.aload_n 0, 1) := by decide +kernel
theorem dX3_find_15 : decode cX3_find 15 = .ok (.getfield 9, 3) := by decide +kernel
theorem dX3_find_18 : decode cX3_find 18 = .ok (.iload 4, 2) := by decide +kernel
theorem dX3_find_20 : decode cX3_find 20 = .ok (.iaload, 1) := by decide +kernel
theorem dX3_find_21 : decode cX3_find 21 = .ok (.iload_n 1, 1) := by decide +kernel
theorem dX3_find_22 : decode cX3_find 22 = .ok (.if_icmp .ne 14, 3) := by decide +kernel
theorem dX3_find_25 : decode cX3_find 25 = .ok (.iload_n 3, 1) := by decide +kernel
theorem dX3_find_26 : decode cX3_find 26 = .ok (.iload_n 2, 1) := by decide +kernel
theorem dX3_find_27 : decode cX3_find 27 = .ok (.if_icmp .ne 6, 3) := by decide +kernel
theorem dX3_find_30 : decode cX3_find 30 = .ok (.iload 4, 2) := by decide +kernel
theorem dX3_find_32 : decode cX3_find 32 = .ok (.ireturn, 1) := by decide +kernel
theorem dX3_find_33 : decode cX3_find 33 = .ok (.iinc 3 1, 3) := by decide +kernel
theorem dX3_find_36 : decode cX3_find 36 = .ok (.iinc 4 1, 3) := by decide +kernel
theorem dX3_find_39 : decode cX3_find 39 = .ok (.goto (-34), 3) := by decide +kernel
theorem dX3_find_42 : decode cX3_find 42 = .ok (.iconst (-1), 1) := by decide +kernel
theorem dX3_find_43 : decode cX3_find 43 = .ok (.ireturn, 1) := by decide +kernel
theorem dX3_dropAfter_0 : decode cX3_dropAfter 0 = .ok (.iload_n 2, 1) := by decide +kernel
theorem dX3_dropAfter_1 : decode cX3_dropAfter 1 = .ok (.iconst 1, 1) := by decide +kernel
theorem dX3_dropAfter_2 : decode cX3_dropAfter 2 = .ok (.iadd, 1) := by decide +kernel
theorem dX3_dropAfter_3 : decode cX3_dropAfter 3 = .ok (.istore_n 3, 1) := by decide +kernel
theorem dX3_dropAfter_4 : decode cX3_dropAfter 4 = .ok (.iload_n 3, 1) := by decide +kernel
theorem dX3_dropAfter_5 : decode cX3_dropAfter 5 = .ok (.aload_n 0, 1) := by decide +kernel
theorem dX3_dropAfter_6 : decode cX3_dropAfter 6 = .ok (.getfield 15, 3) := by decide +kernel
theorem dX3_dropAfter_9 : decode cX3_dropAfter 9 = .ok (.if_icmp .ge 26, 3) := by decide +kernel
theorem dX3_dropAfter_12 : decode cX3_dropAfter 12 = .ok (.aload_n 0, 1) := by decide +kernel
theorem dX3_dropAfter_13 : decode cX3_dropAfter 13 = .ok (.getfield 9, 3) := by decide +kernel
theorem dX3_dropAfter_16 : decode cX3_dropAfter 16 = .ok (.iload_n 3, 1) := by decide +kernel
theorem dX3_dropAfter_17 : decode cX3_dropAfter 17 = .ok (.iaload, 1) := by decide +kernel
theorem dX3_dropAfter_18 : decode cX3_dropAfter 18 = .ok (.iload_n 1, 1) := by decide +kernel
theorem dX3_dropAfter_19 : decode cX3_dropAfter 19 = .ok (.if_icmp .ne 10, 3) := by decide +kernel
theorem dX3_dropAfter_22 : decode cX3_dropAfter 22 = .ok (.aload_n 0, 1) := by decide +kernel
theorem dX3_dropAfter_23 : decode cX3_dropAfter 23 = .ok (.getfield 9, 3) := by decide +kernel
theorem dX3_dropAfter_26 : decode cX3_dropAfter 26 = .ok (.iload_n 3, 1) := by decide +kernel
theorem dX3_dropAfter_27 : decode cX3_dropAfter 27 = .ok (.iconst (-1), 1) := by decide +kernel
theorem dX3_dropAfter_28 : decode cX3_dropAfter 28 = .ok (.iastore, 1) := by decide +kernel
theorem dX3_dropAfter_29 : decode cX3_dropAfter 29 = .ok (.iinc 3 1, 3) := by decide +kernel
theorem dX3_dropAfter_32 : decode cX3_dropAfter 32 = .ok (.goto (-28), 3) := by decide +kernel
theorem dX3_dropAfter_35 : decode cX3_dropAfter 35 = .ok (.return_, 1) := by decide +kernel
set_option maxRecDepth 20000 in
theorem ggX3_drop_X3_dropAfter : GoodIn wsX3_drop wsX3_dropAfter := goodIn_r _ [5, 6, 7, 8, 9] (by decide +kernel) (by decide +kernel)
set_option maxRecDepth 20000 in
theorem gX3_drop_X3_dropAfter : GoodIn wsX3_drop (wsV RX3 23 RX3 yX3_dropAfter wsX3_dropAfter) := goodIn_app (goodIn_of _ (by decide +kernel)) ggX3_drop_X3_dropAfter
theorem dX3_drop_0 : decode cX3_drop 0 = .ok (.aload_n 0, 1) := by decide +kernel
theorem dX3_drop_1 : decode cX3_drop 1 = .ok (.iload_n 1, 1) := by decide +kernel
theorem dX3_drop_2 : decode cX3_drop 2 = .ok (.iconst (-1), 1) := by decide +kernel
theorem dX3_drop_3 : decode cX3_drop 3 = .ok (.invokevirtual 23, 3) := by decide +kernel
theorem dX3_drop_6 : decode cX3_drop 6 = .ok (.return_, 1) := by decide +kernel
theorem dX4_init_0 : decode cX4_init 0 = .ok (.aload_n 0, 1) := by decide +kernel
theorem dX4_init_1 : decode cX4_init 1 = .ok (.invokespecial 5, 3) := by decide +kernel
theorem dX4_init_4 : decode cX4_init 4 = .ok (.aload_n 0, 1) := by decide +kernel
theorem dX4_init_5 : decode cX4_init 5 = .ok (.sipush 453, 3) := by decide +kernel
theorem dX4_init_8 : decode cX4_init 8 = .ok (.newarray .long, 2) := by decide +kernel
theorem dX4_init_10 : decode cX4_init 10 = .ok (.putfield 11, 3) := by decide +kernel
theorem dX4_init_13 : decode cX4_init 13 = .ok (.return_, 1) := by decide +kernel
set_option maxRecDepth 20000 in
theorem ggX4_clear_J7_fill_d0a16 : GoodIn wsX4_clear wsJ7_fill_d0a16 := goodIn_r _ [5] (by decide +kernel) (by decide +kernel)
set_option maxRecDepth 20000 in
theorem gX4_clear_J7_fill_d0a16 : GoodIn wsX4_clear (va_wsS RX4 15 yJ7_fill_d0a16 wsJ7_fill_d0a16) := goodIn_app (goodIn_of _ (by decide +kernel)) ggX4_clear_J7_fill_d0a16
theorem dX4_clear_0 : decode cX4_clear 0 = .ok (.aload_n 0, 1) := by decide +kernel
theorem dX4_clear_1 : decode cX4_clear 1 = .ok (.getfield 11, 3) := by decide +kernel
theorem dX4_clear_4 : decode cX4_clear 4 = .ok (.lconst 0, 1) := by decide +kernel
theorem dX4_clear_5 : decode cX4_clear 5 = .ok (.invokestatic 15, 3) := by decide +kernel
theorem dX4_clear_8 : decode cX4_clear 8 = .ok (.return_, 1) := by decide +kernel
theorem dX4_join_0 : decode cX4_join 0 = .ok (.aload_n 0, 1) := by decide +kernel
theorem dX4_join_1 : decode cX4_join 1 = .ok (.getfield 11, 3) := by decide +kernel
theorem dX4_join_4 : decode cX4_join 4 = .ok (.iload_n 1, 1) := by decide +kernel
theorem dX4_join_5 : decode cX4_join 5 = .ok (.iconst 3, 1) := by decide +kernel
theorem dX4_join_6 : decode cX4_join 6 = .ok (.imul, 1) := by decide +kernel
theorem dX4_join_7 : decode cX4_join 7 = .ok (.iload_n 2, 1) := by decide +kernel
theorem dX4_join_8 : decode cX4_join 8 = .ok (.bipush 64, 2) := by decide +kernel
theorem dX4_join_10 : decode cX4_join 10 = .ok (.idiv, 1) := by decide +kernel
theorem dX4_join_11 : decode cX4_join 11 = .ok (.iadd, 1) := by decide +kernel
theorem dX4_join_12 : decode cX4_join 12 = .ok (.dup2, 1) := by decide +kernel
theorem dX4_join_13 : decode cX4_join 13 = .ok (.laload, 1) := by decide +kernel
theorem dX4_join_14 : decode cX4_join 14 = .ok (.lconst 1, 1) := by decide +kernel
theorem dX4_join_15 : decode cX4_join 15 = .ok (.iload_n 2, 1) := by decide +kernel
theorem dX4_join_16 : decode cX4_join 16 = .ok (.bipush 64, 2) := by decide +kernel
theorem dX4_join_18 : decode cX4_join 18 = .ok (.irem, 1) := by decide +kernel
theorem dX4_join_19 : decode cX4_join 19 = .ok (.lshl, 1) := by decide +kernel
theorem dX4_join_20 : decode cX4_join 20 = .ok (.lor, 1) := by decide +kernel
theorem dX4_join_21 : decode cX4_join 21 = .ok (.lastore, 1) := by decide +kernel
theorem dX4_join_22 : decode cX4_join 22 = .ok (.return_, 1) := by decide +kernel
theorem dX4_leads_0 : decode cX4_leads 0 = .ok (.aload_n 0, 1) := by decide +kernel
theorem dX4_leads_1 : decode cX4_leads 1 = .ok (.getfield 11, 3) := by decide +kernel
theorem dX4_leads_4 : decode cX4_leads 4 = .ok (.iload_n 1, 1) := by decide +kernel
theorem dX4_leads_5 : decode cX4_leads 5 = .ok (.iconst 3, 1) := by decide +kernel
theorem dX4_leads_6 : decode cX4_leads 6 = .ok (.imul, 1) := by decide +kernel
theorem dX4_leads_7 : decode cX4_leads 7 = .ok (.iload_n 2, 1) := by decide +kernel
theorem dX4_leads_8 : decode cX4_leads 8 = .ok (.bipush 64, 2) := by decide +kernel
theorem dX4_leads_10 : decode cX4_leads 10 = .ok (.idiv, 1) := by decide +kernel
theorem dX4_leads_11 : decode cX4_leads 11 = .ok (.iadd, 1) := by decide +kernel
theorem dX4_leads_12 : decode cX4_leads 12 = .ok (.laload, 1) := by decide +kernel
theorem dX4_leads_13 : decode cX4_leads 13 = .ok (.iload_n 2, 1) := by decide +kernel
theorem dX4_leads_14 : decode cX4_leads 14 = .ok (.bipush 64, 2) := by decide +kernel
theorem dX4_leads_16 : decode cX4_leads 16 = .ok (.irem, 1) := by decide +kernel
theorem dX4_leads_17 : decode cX4_leads 17 = .ok (.lushr, 1) := by decide +kernel
theorem dX4_leads_18 : decode cX4_leads 18 = .ok (.lconst 1, 1) := by decide +kernel
theorem dX4_leads_19 : decode cX4_leads 19 = .ok (.land, 1) := by decide +kernel
theorem dX4_leads_20 : decode cX4_leads 20 = .ok (.lconst 0, 1) := by decide +kernel
theorem dX4_leads_21 : decode cX4_leads 21 = .ok (.lcmp, 1) := by decide +kernel
theorem dX4_leads_22 : decode cX4_leads 22 = .ok (.ifCond .eq 7, 3) := by decide +kernel
theorem dX4_leads_25 : decode cX4_leads 25 = .ok (.iconst 1, 1) := by decide +kernel
theorem dX4_leads_26 : decode cX4_leads 26 = .ok (.goto 4, 3) := by decide +kernel
theorem dX4_leads_29 : decode cX4_leads 29 = .ok (.iconst 0, 1) := by decide +kernel
theorem dX4_leads_30 : decode cX4_leads 30 = .ok (.ireturn, 1) := by decide +kernel
set_option maxRecDepth 20000 in
theorem ggX4_close_X4_leads : GoodIn wsX4_close wsX4_leads := goodIn_r _ [5, 6, 11] (by decide +kernel) (by decide +kernel)
set_option maxRecDepth 20000 in
theorem gX4_close_X4_leads : GoodIn wsX4_close (wsV RX4 21 RX4 yX4_leads wsX4_leads) := goodIn_app (goodIn_of _ (by decide +kernel)) ggX4_close_X4_leads
set_option maxRecDepth 20000 in
theorem ggX4_close_X4_joinAll : GoodIn wsX4_close wsX4_joinAll := goodIn_r _ [10, 6, 11] (by decide +kernel) (by decide +kernel)
set_option maxRecDepth 20000 in
theorem gX4_close_X4_joinAll : GoodIn wsX4_close (wsV RX4 25 RX4 yX4_joinAll wsX4_joinAll) := goodIn_app (goodIn_of _ (by decide +kernel)) ggX4_close_X4_joinAll
theorem dX4_close_0 : decode cX4_close 0 = .ok (.iconst 1, 1) := by decide +kernel
theorem dX4_close_1 : decode cX4_close 1 = .ok (.istore_n 2, 1) := by decide +kernel
theorem dX4_close_2 : decode cX4_close 2 = .ok (.iload_n 2, 1) := by decide +kernel
theorem dX4_close_3 : decode cX4_close 3 = .ok (.iload_n 1, 1) := by decide +kernel
theorem dX4_close_4 : decode cX4_close 4 = .ok (.if_icmp .gt 37, 3) := by decide +kernel
theorem dX4_close_7 : decode cX4_close 7 = .ok (.iconst 1, 1) := by decide +kernel
theorem dX4_close_8 : decode cX4_close 8 = .ok (.istore_n 3, 1) := by decide +kernel
theorem dX4_close_9 : decode cX4_close 9 = .ok (.iload_n 3, 1) := by decide +kernel
theorem dX4_close_10 : decode cX4_close 10 = .ok (.iload_n 1, 1) := by decide +kernel
theorem dX4_close_11 : decode cX4_close 11 = .ok (.if_icmp .gt 24, 3) := by decide +kernel
theorem dX4_close_14 : decode cX4_close 14 = .ok (.aload_n 0, 1) := by decide +kernel
theorem dX4_close_15 : decode cX4_close 15 = .ok (.iload_n 3, 1) := by decide +kernel
theorem dX4_close_16 : decode cX4_close 16 = .ok (.iload_n 2, 1) := by decide +kernel
theorem dX4_close_17 : decode cX4_close 17 = .ok (.invokevirtual 21, 3) := by decide +kernel
theorem dX4_close_20 : decode cX4_close 20 = .ok (.ifCond .eq 9, 3) := by decide +kernel
theorem dX4_close_23 : decode cX4_close 23 = .ok (.aload_n 0, 1) := by decide +kernel
theorem dX4_close_24 : decode cX4_close 24 = .ok (.iload_n 3, 1) := by decide +kernel
theorem dX4_close_25 : decode cX4_close 25 = .ok (.iload_n 2, 1) := by decide +kernel
theorem dX4_close_26 : decode cX4_close 26 = .ok (.invokevirtual 25, 3) := by decide +kernel
theorem dX4_close_29 : decode cX4_close 29 = .ok (.iinc 3 1, 3) := by decide +kernel
theorem dX4_close_32 : decode cX4_close 32 = .ok (.goto (-23), 3) := by decide +kernel
theorem dX4_close_35 : decode cX4_close 35 = .ok (.iinc 2 1, 3) := by decide +kernel
theorem dX4_close_38 : decode cX4_close 38 = .ok (.goto (-36), 3) := by decide +kernel
theorem dX4_close_41 : decode cX4_close 41 = .ok (.return_, 1) := by decide +kernel
theorem dX4_joinAll_0 : decode cX4_joinAll 0 = .ok (.iconst 0, 1) := by decide +kernel
theorem dX4_joinAll_1 : decode cX4_joinAll 1 = .ok (.istore_n 3, 1) := by decide +kernel
theorem dX4_joinAll_2 : decode cX4_joinAll 2 = .ok (.iload_n 3, 1) := by decide +kernel
theorem dX4_joinAll_3 : decode cX4_joinAll 3 = .ok (.iconst 3, 1) := by decide +kernel
theorem dX4_joinAll_4 : decode cX4_joinAll 4 = .ok (.if_icmp .ge 32, 3) := by decide +kernel
theorem dX4_joinAll_7 : decode cX4_joinAll 7 = .ok (.aload_n 0, 1) := by decide +kernel
theorem dX4_joinAll_8 : decode cX4_joinAll 8 = .ok (.getfield 11, 3) := by decide +kernel
theorem dX4_joinAll_11 : decode cX4_joinAll 11 = .ok (.iload_n 1, 1) := by decide +kernel
theorem dX4_joinAll_12 : decode cX4_joinAll 12 = .ok (.iconst 3, 1) := by decide +kernel
theorem dX4_joinAll_13 : decode cX4_joinAll 13 = .ok (.imul, 1) := by decide +kernel
theorem dX4_joinAll_14 : decode cX4_joinAll 14 = .ok (.iload_n 3, 1) := by decide +kernel
theorem dX4_joinAll_15 : decode cX4_joinAll 15 = .ok (.iadd, 1) := by decide +kernel
theorem dX4_joinAll_16 : decode cX4_joinAll 16 = .ok (.dup2, 1) := by decide +kernel
theorem dX4_joinAll_17 : decode cX4_joinAll 17 = .ok (.laload, 1) := by decide +kernel
theorem dX4_joinAll_18 : decode cX4_joinAll 18 = .ok (.aload_n 0, 1) := by decide +kernel
theorem dX4_joinAll_19 : decode cX4_joinAll 19 = .ok (.getfield 11, 3) := by decide +kernel
theorem dX4_joinAll_22 : decode cX4_joinAll 22 = .ok (.iload_n 2, 1) := by decide +kernel
theorem dX4_joinAll_23 : decode cX4_joinAll 23 = .ok (.iconst 3, 1) := by decide +kernel
theorem dX4_joinAll_24 : decode cX4_joinAll 24 = .ok (.imul, 1) := by decide +kernel
theorem dX4_joinAll_25 : decode cX4_joinAll 25 = .ok (.iload_n 3, 1) := by decide +kernel
theorem dX4_joinAll_26 : decode cX4_joinAll 26 = .ok (.iadd, 1) := by decide +kernel
theorem dX4_joinAll_27 : decode cX4_joinAll 27 = .ok (.laload, 1) := by decide +kernel
theorem dX4_joinAll_28 : decode cX4_joinAll 28 = .ok (.lor, 1) := by decide +kernel
theorem dX4_joinAll_29 : decode cX4_joinAll 29 = .ok (.lastore, 1) := by decide +kernel
theorem dX4_joinAll_30 : decode cX4_joinAll 30 = .ok (.iinc 3 1, 3) := by decide +kernel
theorem dX4_joinAll_33 : decode cX4_joinAll 33 = .ok (.goto (-31), 3) := by decide +kernel
theorem dX4_joinAll_36 : decode cX4_joinAll 36 = .ok (.return_, 1) := by decide +kernel
theorem dX5_init_0 : decode cX5_init 0 = .ok (.aload_n 0, 1) := by decide +kernel
theorem dX5_init_1 : decode cX5_init 1 = .ok (.invokespecial 3, 3) := by decide +kernel
theorem dX5_init_4 : decode cX5_init 4 = .ok (.aload_n 0, 1) := by decide +kernel
theorem dX5_init_5 : decode cX5_init 5 = .ok (.sipush 151, 3) := by decide +kernel
theorem dX5_init_8 : decode cX5_init 8 = .ok (.newarray .int, 2) := by decide +kernel
theorem dX5_init_10 : decode cX5_init 10 = .ok (.putfield 9, 3) := by decide +kernel
theorem dX5_init_13 : decode cX5_init 13 = .ok (.aload_n 0, 1) := by decide +kernel
theorem dX5_init_14 : decode cX5_init 14 = .ok (.sipush 151, 3) := by decide +kernel
theorem dX5_init_17 : decode cX5_init 17 = .ok (.newarray .int, 2) := by decide +kernel
theorem dX5_init_19 : decode cX5_init 19 = .ok (.putfield 15, 3) := by decide +kernel
theorem dX5_init_22 : decode cX5_init 22 = .ok (.return_, 1) := by decide +kernel
theorem dX5_has_0 : decode cX5_has 0 = .ok (.aload_n 0, 1) := by decide +kernel
theorem dX5_has_1 : decode cX5_has 1 = .ok (.getfield 15, 3) := by decide +kernel
theorem dX5_has_4 : decode cX5_has 4 = .ok (.iload_n 1, 1) := by decide +kernel
theorem dX5_has_5 : decode cX5_has 5 = .ok (.iaload, 1) := by decide +kernel
theorem dX5_has_6 : decode cX5_has 6 = .ok (.ifCond .eq 7, 3) := by decide +kernel
theorem dX5_has_9 : decode cX5_has 9 = .ok (.iconst 1, 1) := by decide +kernel
theorem dX5_has_10 : decode cX5_has 10 = .ok (.goto 4, 3) := by decide +kernel
theorem dX5_has_13 : decode cX5_has 13 = .ok (.iconst 0, 1) := by decide +kernel
theorem dX5_has_14 : decode cX5_has 14 = .ok (.ireturn, 1) := by decide +kernel
theorem dX5_slotOf_0 : decode cX5_slotOf 0 = .ok (.aload_n 0, 1) := by decide +kernel
theorem dX5_slotOf_1 : decode cX5_slotOf 1 = .ok (.getfield 9, 3) := by decide +kernel
theorem dX5_slotOf_4 : decode cX5_slotOf 4 = .ok (.iload_n 1, 1) := by decide +kernel
theorem dX5_slotOf_5 : decode cX5_slotOf 5 = .ok (.iaload, 1) := by decide +kernel
theorem dX5_slotOf_6 : decode cX5_slotOf 6 = .ok (.ireturn, 1) := by decide +kernel
theorem dX5_kindOf_0 : decode cX5_kindOf 0 = .ok (.aload_n 0, 1) := by decide +kernel
theorem dX5_kindOf_1 : decode cX5_kindOf 1 = .ok (.getfield 15, 3) := by decide +kernel
theorem dX5_kindOf_4 : decode cX5_kindOf 4 = .ok (.iload_n 1, 1) := by decide +kernel
theorem dX5_kindOf_5 : decode cX5_kindOf 5 = .ok (.iaload, 1) := by decide +kernel
theorem dX5_kindOf_6 : decode cX5_kindOf 6 = .ok (.ireturn, 1) := by decide +kernel
theorem dX5_set_0 : decode cX5_set 0 = .ok (.aload_n 0, 1) := by decide +kernel
theorem dX5_set_1 : decode cX5_set 1 = .ok (.getfield 9, 3) := by decide +kernel
theorem dX5_set_4 : decode cX5_set 4 = .ok (.iload_n 1, 1) := by decide +kernel
theorem dX5_set_5 : decode cX5_set 5 = .ok (.iload_n 2, 1) := by decide +kernel
theorem dX5_set_6 : decode cX5_set 6 = .ok (.iastore, 1) := by decide +kernel
theorem dX5_set_7 : decode cX5_set 7 = .ok (.aload_n 0, 1) := by decide +kernel
theorem dX5_set_8 : decode cX5_set 8 = .ok (.getfield 15, 3) := by decide +kernel
theorem dX5_set_11 : decode cX5_set 11 = .ok (.iload_n 1, 1) := by decide +kernel
theorem dX5_set_12 : decode cX5_set 12 = .ok (.iload_n 3, 1) := by decide +kernel
theorem dX5_set_13 : decode cX5_set 13 = .ok (.iastore, 1) := by decide +kernel
theorem dX5_set_14 : decode cX5_set 14 = .ok (.return_, 1) := by decide +kernel
theorem dX5_clear_0 : decode cX5_clear 0 = .ok (.aload_n 0, 1) := by decide +kernel
theorem dX5_clear_1 : decode cX5_clear 1 = .ok (.getfield 15, 3) := by decide +kernel
theorem dX5_clear_4 : decode cX5_clear 4 = .ok (.iload_n 1, 1) := by decide +kernel
theorem dX5_clear_5 : decode cX5_clear 5 = .ok (.iconst 0, 1) := by decide +kernel
theorem dX5_clear_6 : decode cX5_clear 6 = .ok (.iastore, 1) := by decide +kernel
theorem dX5_clear_7 : decode cX5_clear 7 = .ok (.return_, 1) := by decide +kernel
theorem dX6_init_0 : decode cX6_init 0 = .ok (.aload_n 0, 1) := by decide +kernel
theorem dX6_init_1 : decode cX6_init 1 = .ok (.invokespecial 3, 3) := by decide +kernel
theorem dX6_init_4 : decode cX6_init 4 = .ok (.aload_n 0, 1) := by decide +kernel
theorem dX6_init_5 : decode cX6_init 5 = .ok (.sipush 512, 3) := by decide +kernel
theorem dX6_init_8 : decode cX6_init 8 = .ok (.newarray .int, 2) := by decide +kernel
theorem dX6_init_10 : decode cX6_init 10 = .ok (.putfield 9, 3) := by decide +kernel
theorem dX6_init_13 : decode cX6_init 13 = .ok (.aload_n 0, 1) := by decide +kernel
theorem dX6_init_14 : decode cX6_init 14 = .ok (.sipush 512, 3) := by decide +kernel
theorem dX6_init_17 : decode cX6_init 17 = .ok (.newarray .int, 2) := by decide +kernel
theorem dX6_init_19 : decode cX6_init 19 = .ok (.putfield 15, 3) := by decide +kernel
theorem dX6_init_22 : decode cX6_init 22 = .ok (.aload_n 0, 1) := by decide +kernel
theorem dX6_init_23 : decode cX6_init 23 = .ok (.sipush 512, 3) := by decide +kernel
theorem dX6_init_26 : decode cX6_init 26 = .ok (.newarray .int, 2) := by decide +kernel
theorem dX6_init_28 : decode cX6_init 28 = .ok (.putfield 18, 3) := by decide +kernel
theorem dX6_init_31 : decode cX6_init 31 = .ok (.aload_n 0, 1) := by decide +kernel
theorem dX6_init_32 : decode cX6_init 32 = .ok (.sipush 512, 3) := by decide +kernel
theorem dX6_init_35 : decode cX6_init 35 = .ok (.newarray .boolean, 2) := by decide +kernel
theorem dX6_init_37 : decode cX6_init 37 = .ok (.putfield 21, 3) := by decide +kernel
theorem dX6_init_40 : decode cX6_init 40 = .ok (.aload_n 0, 1) := by decide +kernel
theorem dX6_init_41 : decode cX6_init 41 = .ok (.sipush 512, 3) := by decide +kernel
theorem dX6_init_44 : decode cX6_init 44 = .ok (.newarray .int, 2) := by decide +kernel
theorem dX6_init_46 : decode cX6_init 46 = .ok (.putfield 25, 3) := by decide +kernel
theorem dX6_init_49 : decode cX6_init 49 = .ok (.aload_n 0, 1) := by decide +kernel
theorem dX6_init_50 : decode cX6_init 50 = .ok (.iconst 0, 1) := by decide +kernel
theorem dX6_init_51 : decode cX6_init 51 = .ok (.putfield 28, 3) := by decide +kernel
theorem dX6_init_54 : decode cX6_init 54 = .ok (.aload_n 0, 1) := by decide +kernel
theorem dX6_init_55 : decode cX6_init 55 = .ok (.sipush 512, 3) := by decide +kernel
theorem dX6_init_58 : decode cX6_init 58 = .ok (.newarray .int, 2) := by decide +kernel
theorem dX6_init_60 : decode cX6_init 60 = .ok (.putfield 32, 3) := by decide +kernel
theorem dX6_init_63 : decode cX6_init 63 = .ok (.aload_n 0, 1) := by decide +kernel
theorem dX6_init_64 : decode cX6_init 64 = .ok (.sipush 512, 3) := by decide +kernel
theorem dX6_init_67 : decode cX6_init 67 = .ok (.newarray .int, 2) := by decide +kernel
theorem dX6_init_69 : decode cX6_init 69 = .ok (.putfield 35, 3) := by decide +kernel
theorem dX6_init_72 : decode cX6_init 72 = .ok (.return_, 1) := by decide +kernel
theorem dX6_isFull_0 : decode cX6_isFull 0 = .ok (.aload_n 0, 1) := by decide +kernel
theorem dX6_isFull_1 : decode cX6_isFull 1 = .ok (.getfield 28, 3) := by decide +kernel
theorem dX6_isFull_4 : decode cX6_isFull 4 = .ok (.sipush 512, 3) := by decide +kernel
theorem dX6_isFull_7 : decode cX6_isFull 7 = .ok (.if_icmp .ne 7, 3) := by decide +kernel
theorem dX6_isFull_10 : decode cX6_isFull 10 = .ok (.iconst 1, 1) := by decide +kernel
theorem dX6_isFull_11 : decode cX6_isFull 11 = .ok (.goto 4, 3) := by decide +kernel
theorem dX6_isFull_14 : decode cX6_isFull 14 = .ok (.iconst 0, 1) := by decide +kernel
theorem dX6_isFull_15 : decode cX6_isFull 15 = .ok (.ireturn, 1) := by decide +kernel
theorem dX6_add_0 : decode cX6_add 0 = .ok (.aload_n 0, 1) := by decide +kernel
theorem dX6_add_1 : decode cX6_add 1 = .ok (.getfield 9, 3) := by decide +kernel
theorem dX6_add_4 : decode cX6_add 4 = .ok (.aload_n 0, 1) := by decide +kernel
theorem dX6_add_5 : decode cX6_add 5 = .ok (.getfield 28, 3) := by decide +kernel
theorem dX6_add_8 : decode cX6_add 8 = .ok (.iload_n 1, 1) := by decide +kernel
theorem dX6_add_9 : decode cX6_add 9 = .ok (.iastore, 1) := by decide +kernel
theorem dX6_add_10 : decode cX6_add 10 = .ok (.aload_n 0, 1) := by decide +kernel
theorem dX6_add_11 : decode cX6_add 11 = .ok (.getfield 15, 3) := by decide +kernel
theorem dX6_add_14 : decode cX6_add 14 = .ok (.aload_n 0, 1) := by decide +kernel
theorem dX6_add_15 : decode cX6_add 15 = .ok (.getfield 28, 3) := by decide +kernel
theorem dX6_add_18 : decode cX6_add 18 = .ok (.iload_n 2, 1) := by decide +kernel
theorem dX6_add_19 : decode cX6_add 19 = .ok (.iastore, 1) := by decide +kernel
theorem dX6_add_20 : decode cX6_add 20 = .ok (.aload_n 0, 1) := by decide +kernel
theorem dX6_add_21 : decode cX6_add 21 = .ok (.getfield 18, 3) := by decide +kernel
theorem dX6_add_24 : decode cX6_add 24 = .ok (.aload_n 0, 1) := by decide +kernel
theorem dX6_add_25 : decode cX6_add 25 = .ok (.getfield 28, 3) := by decide +kernel
theorem dX6_add_28 : decode cX6_add 28 = .ok (.iload_n 3, 1) := by decide +kernel
theorem dX6_add_29 : decode cX6_add 29 = .ok (.iastore, 1) := by decide +kernel
theorem dX6_add_30 : decode cX6_add 30 = .ok (.aload_n 0, 1) := by decide +kernel
theorem dX6_add_31 : decode cX6_add 31 = .ok (.getfield 21, 3) := by decide +kernel
theorem dX6_add_34 : decode cX6_add 34 = .ok (.aload_n 0, 1) := by decide +kernel
theorem dX6_add_35 : decode cX6_add 35 = .ok (.getfield 28, 3) := by decide +kernel
theorem dX6_add_38 : decode cX6_add 38 = .ok (.iload 4, 2) := by decide +kernel
theorem dX6_add_40 : decode cX6_add 40 = .ok (.bastore, 1) := by decide +kernel
theorem dX6_add_41 : decode cX6_add 41 = .ok (.aload_n 0, 1) := by decide +kernel
theorem dX6_add_42 : decode cX6_add 42 = .ok (.getfield 25, 3) := by decide +kernel
theorem dX6_add_45 : decode cX6_add 45 = .ok (.aload_n 0, 1) := by decide +kernel
theorem dX6_add_46 : decode cX6_add 46 = .ok (.getfield 28, 3) := by decide +kernel
theorem dX6_add_49 : decode cX6_add 49 = .ok (.iload 5, 2) := by decide +kernel
theorem dX6_add_51 : decode cX6_add 51 = .ok (.iastore, 1) := by decide +kernel
theorem dX6_add_52 : decode cX6_add 52 = .ok (.aload_n 0, 1) := by decide +kernel
theorem dX6_add_53 : decode cX6_add 53 = .ok (.dup, 1) := by decide +kernel
theorem dX6_add_54 : decode cX6_add 54 = .ok (.getfield 28, 3) := by decide +kernel
theorem dX6_add_57 : decode cX6_add 57 = .ok (.iconst 1, 1) := by decide +kernel
theorem dX6_add_58 : decode cX6_add 58 = .ok (.iadd, 1) := by decide +kernel
theorem dX6_add_59 : decode cX6_add 59 = .ok (.putfield 28, 3) := by decide +kernel
theorem dX6_add_62 : decode cX6_add 62 = .ok (.return_, 1) := by decide +kernel
set_option maxRecDepth 20000 in
theorem ggX6_findSeen_J7_fill_53178 : GoodIn wsX6_findSeen wsJ7_fill_53178 := goodIn_r _ [8] (by decide +kernel) (by decide +kernel)
set_option maxRecDepth 20000 in
theorem gX6_findSeen_J7_fill_53178 : GoodIn wsX6_findSeen (va_wsS RX6 38 yJ7_fill_53178 wsJ7_fill_53178) := goodIn_app (goodIn_of _ (by decide +kernel)) ggX6_findSeen_J7_fill_53178
theorem dX6_findSeen_0 : decode cX6_findSeen 0 = .ok (.aload_n 0, 1) := by decide +kernel
theorem dX6_findSeen_1 : decode cX6_findSeen 1 = .ok (.getfield 32, 3) := by decide +kernel
theorem dX6_findSeen_4 : decode cX6_findSeen 4 = .ok (.iconst (-1), 1) := by decide +kernel
theorem dX6_findSeen_5 : decode cX6_findSeen 5 = .ok (.invokestatic 38, 3) := by decide +kernel
theorem dX6_findSeen_8 : decode cX6_findSeen 8 = .ok (.iconst 0, 1) := by decide +kernel
theorem dX6_findSeen_9 : decode cX6_findSeen 9 = .ok (.istore_n 2, 1) := by decide +kernel
theorem dX6_findSeen_10 : decode cX6_findSeen 10 = .ok (.iload_n 2, 1) := by decide +kernel
theorem dX6_findSeen_11 : decode cX6_findSeen 11 = .ok (.aload_n 0, 1) := by decide +kernel
theorem dX6_findSeen_12 : decode cX6_findSeen 12 = .ok (.getfield 28, 3) := by decide +kernel
theorem dX6_findSeen_15 : decode cX6_findSeen 15 = .ok (.if_icmp .ge 42, 3) := by decide +kernel
theorem dX6_findSeen_18 : decode cX6_findSeen 18 = .ok (.aload_n 0, 1) := by decide +kernel
theorem dX6_findSeen_19 : decode cX6_findSeen 19 = .ok (.getfield 9, 3) := by decide +kernel
theorem dX6_findSeen_22 : decode cX6_findSeen 22 = .ok (.iload_n 2, 1) := by decide +kernel
theorem dX6_findSeen_23 : decode cX6_findSeen 23 = .ok (.iaload, 1) := by decide +kernel
theorem dX6_findSeen_24 : decode cX6_findSeen 24 = .ok (.iconst (-1), 1) := by decide +kernel
theorem dX6_findSeen_25 : decode cX6_findSeen 25 = .ok (.if_icmp .eq 26, 3) := by decide +kernel
theorem dX6_findSeen_28 : decode cX6_findSeen 28 = .ok (.aload_n 1, 1) := by decide +kernel
theorem dX6_findSeen_29 : decode cX6_findSeen 29 = .ok (.aload_n 0, 1) := by decide +kernel
theorem dX6_findSeen_30 : decode cX6_findSeen 30 = .ok (.getfield 9, 3) := by decide +kernel
theorem dX6_findSeen_33 : decode cX6_findSeen 33 = .ok (.iload_n 2, 1) := by decide +kernel
theorem dX6_findSeen_34 : decode cX6_findSeen 34 = .ok (.iaload, 1) := by decide +kernel
theorem dX6_findSeen_35 : decode cX6_findSeen 35 = .ok (.baload, 1) := by decide +kernel
theorem dX6_findSeen_36 : decode cX6_findSeen 36 = .ok (.ifCond .eq 15, 3) := by decide +kernel
theorem dX6_findSeen_39 : decode cX6_findSeen 39 = .ok (.aload_n 0, 1) := by decide +kernel
theorem dX6_findSeen_40 : decode cX6_findSeen 40 = .ok (.getfield 32, 3) := by decide +kernel
theorem dX6_findSeen_43 : decode cX6_findSeen 43 = .ok (.aload_n 0, 1) := by decide +kernel
theorem dX6_findSeen_44 : decode cX6_findSeen 44 = .ok (.getfield 15, 3) := by decide +kernel
theorem dX6_findSeen_47 : decode cX6_findSeen 47 = .ok (.iload_n 2, 1) := by decide +kernel
theorem dX6_findSeen_48 : decode cX6_findSeen 48 = .ok (.iaload, 1) := by decide +kernel
theorem dX6_findSeen_49 : decode cX6_findSeen 49 = .ok (.iload_n 2, 1) := by decide +kernel
theorem dX6_findSeen_50 : decode cX6_findSeen 50 = .ok (.iastore, 1) := by decide +kernel
theorem dX6_findSeen_51 : decode cX6_findSeen 51 = .ok (.iinc 2 1, 3) := by decide +kernel
theorem dX6_findSeen_54 : decode cX6_findSeen 54 = .ok (.goto (-44), 3) := by decide +kernel
theorem dX6_findSeen_57 : decode cX6_findSeen 57 = .ok (.return_, 1) := by decide +kernel
theorem dX6_hasFound_0 : decode cX6_hasFound 0 = .ok (.aload_n 0, 1) := by decide +kernel
theorem dX6_hasFound_1 : decode cX6_hasFound 1 = .ok (.getfield 32, 3) := by decide +kernel
theorem dX6_hasFound_4 : decode cX6_hasFound 4 = .ok (.iload_n 1, 1) := by decide +kernel
theorem dX6_hasFound_5 : decode cX6_hasFound 5 = .ok (.iaload, 1) := by decide +kernel
theorem dX6_hasFound_6 : decode cX6_hasFound 6 = .ok (.iconst (-1), 1) := by decide +kernel
theorem dX6_hasFound_7 : decode cX6_hasFound 7 = .ok (.if_icmp .eq 21, 3) := by decide +kernel
theorem dX6_hasFound_10 : decode cX6_hasFound 10 = .ok (.aload_n 0, 1) := by decide +kernel
theorem dX6_hasFound_11 : decode cX6_hasFound 11 = .ok (.getfield 21, 3) := by decide +kernel
theorem dX6_hasFound_14 : decode cX6_hasFound 14 = .ok (.aload_n 0, 1) := by decide +kernel
theorem dX6_hasFound_15 : decode cX6_hasFound 15 = .ok (.getfield 32, 3) := by decide +kernel
theorem dX6_hasFound_18 : decode cX6_hasFound 18 = .ok (.iload_n 1, 1) := by decide +kernel
theorem dX6_hasFound_19 : decode cX6_hasFound 19 = .ok (.iaload, 1) := by decide +kernel
theorem dX6_hasFound_20 : decode cX6_hasFound 20 = .ok (.baload, 1) := by decide +kernel
theorem dX6_hasFound_21 : decode cX6_hasFound 21 = .ok (.ifCond .ne 7, 3) := by decide +kernel
theorem dX6_hasFound_24 : decode cX6_hasFound 24 = .ok (.iconst 1, 1) := by decide +kernel
theorem dX6_hasFound_25 : decode cX6_hasFound 25 = .ok (.goto 4, 3) := by decide +kernel
theorem dX6_hasFound_28 : decode cX6_hasFound 28 = .ok (.iconst 0, 1) := by decide +kernel
theorem dX6_hasFound_29 : decode cX6_hasFound 29 = .ok (.ireturn, 1) := by decide +kernel
theorem dX6_valueFound_0 : decode cX6_valueFound 0 = .ok (.aload_n 0, 1) := by decide +kernel
theorem dX6_valueFound_1 : decode cX6_valueFound 1 = .ok (.getfield 32, 3) := by decide +kernel
theorem dX6_valueFound_4 : decode cX6_valueFound 4 = .ok (.iload_n 1, 1) := by decide +kernel
theorem dX6_valueFound_5 : decode cX6_valueFound 5 = .ok (.iaload, 1) := by decide +kernel
theorem dX6_valueFound_6 : decode cX6_valueFound 6 = .ok (.iconst (-1), 1) := by decide +kernel
theorem dX6_valueFound_7 : decode cX6_valueFound 7 = .ok (.if_icmp .ne 9, 3) := by decide +kernel
theorem dX6_valueFound_10 : decode cX6_valueFound 10 = .ok (.ldc2_w 44, 3) := by decide +kernel
theorem dX6_valueFound_13 : decode cX6_valueFound 13 = .ok (.goto 15, 3) := by decide +kernel
theorem dX6_valueFound_16 : decode cX6_valueFound 16 = .ok (.aload_n 0, 1) := by decide +kernel
theorem dX6_valueFound_17 : decode cX6_valueFound 17 = .ok (.getfield 18, 3) := by decide +kernel
theorem dX6_valueFound_20 : decode cX6_valueFound 20 = .ok (.aload_n 0, 1) := by decide +kernel
theorem dX6_valueFound_21 : decode cX6_valueFound 21 = .ok (.getfield 32, 3) := by decide +kernel
theorem dX6_valueFound_24 : decode cX6_valueFound 24 = .ok (.iload_n 1, 1) := by decide +kernel
theorem dX6_valueFound_25 : decode cX6_valueFound 25 = .ok (.iaload, 1) := by decide +kernel
theorem dX6_valueFound_26 : decode cX6_valueFound 26 = .ok (.iaload, 1) := by decide +kernel
theorem dX6_valueFound_27 : decode cX6_valueFound 27 = .ok (.i2l, 1) := by decide +kernel
theorem dX6_valueFound_28 : decode cX6_valueFound 28 = .ok (.lreturn, 1) := by decide +kernel
set_option maxRecDepth 20000 in
theorem ggX6_keysOf_X6_findOwn : GoodIn wsX6_keysOf wsX6_findOwn := goodIn_r _ [6, 7, 8, 9, 10, 11, 12, 13, 14, 15, 16, 17, 18, 19, 20, 21] (by decide +kernel) (by decide +kernel)
set_option maxRecDepth 20000 in
theorem gX6_keysOf_X6_findOwn : GoodIn wsX6_keysOf (wsV RX6 46 RX6 yX6_findOwn wsX6_findOwn) := goodIn_app (goodIn_of _ (by decide +kernel)) ggX6_keysOf_X6_findOwn
theorem dX6_keysOf_0 : decode cX6_keysOf 0 = .ok (.aload_n 0, 1) := by decide +kernel
theorem dX6_keysOf_1 : decode cX6_keysOf 1 = .ok (.iload_n 1, 1) := by decide +kernel
theorem dX6_keysOf_2 : decode cX6_keysOf 2 = .ok (.aload_n 0, 1) := by decide +kernel
theorem dX6_keysOf_3 : decode cX6_keysOf 3 = .ok (.getfield 32, 3) := by decide +kernel
theorem dX6_keysOf_6 : decode cX6_keysOf 6 = .ok (.invokevirtual 46, 3) := by decide +kernel
theorem dX6_keysOf_9 : decode cX6_keysOf 9 = .ok (.iconst 0, 1) := by decide +kernel
theorem dX6_keysOf_10 : decode cX6_keysOf 10 = .ok (.istore_n 2, 1) := by decide +kernel
theorem dX6_keysOf_11 : decode cX6_keysOf 11 = .ok (.iconst 0, 1) := by decide +kernel
theorem dX6_keysOf_12 : decode cX6_keysOf 12 = .ok (.istore_n 3, 1) := by decide +kernel
theorem dX6_keysOf_13 : decode cX6_keysOf 13 = .ok (.iload_n 3, 1) := by decide +kernel
theorem dX6_keysOf_14 : decode cX6_keysOf 14 = .ok (.sipush 512, 3) := by decide +kernel
theorem dX6_keysOf_17 : decode cX6_keysOf 17 = .ok (.if_icmp .ge 22, 3) := by decide +kernel
theorem dX6_keysOf_20 : decode cX6_keysOf 20 = .ok (.aload_n 0, 1) := by decide +kernel
theorem dX6_keysOf_21 : decode cX6_keysOf 21 = .ok (.getfield 32, 3) := by decide +kernel
theorem dX6_keysOf_24 : decode cX6_keysOf 24 = .ok (.iload_n 3, 1) := by decide +kernel
theorem dX6_keysOf_25 : decode cX6_keysOf 25 = .ok (.iaload, 1) := by decide +kernel
theorem dX6_keysOf_26 : decode cX6_keysOf 26 = .ok (.iconst (-1), 1) := by decide +kernel
theorem dX6_keysOf_27 : decode cX6_keysOf 27 = .ok (.if_icmp .eq 6, 3) := by decide +kernel
theorem dX6_keysOf_30 : decode cX6_keysOf 30 = .ok (.iinc 2 1, 3) := by decide +kernel
theorem dX6_keysOf_33 : decode cX6_keysOf 33 = .ok (.iinc 3 1, 3) := by decide +kernel
theorem dX6_keysOf_36 : decode cX6_keysOf 36 = .ok (.goto (-23), 3) := by decide +kernel
theorem dX6_keysOf_39 : decode cX6_keysOf 39 = .ok (.iload_n 2, 1) := by decide +kernel
theorem dX6_keysOf_40 : decode cX6_keysOf 40 = .ok (.ireturn, 1) := by decide +kernel
set_option maxRecDepth 20000 in
theorem ggX6_undo_X6_findOwn : GoodIn wsX6_undo wsX6_findOwn := goodIn_r _ [7, 8, 9, 10, 11, 12, 13, 14, 26, 27, 28, 29, 30, 31, 32, 33] (by decide +kernel) (by decide +kernel)
set_option maxRecDepth 20000 in
theorem gX6_undo_X6_findOwn : GoodIn wsX6_undo (wsV RX6 46 RX6 yX6_findOwn wsX6_findOwn) := goodIn_app (goodIn_of _ (by decide +kernel)) ggX6_undo_X6_findOwn
set_option maxRecDepth 20000 in
theorem ggX6_undo_X6_dropFrom : GoodIn wsX6_undo wsX6_dropFrom := goodIn_r _ [18, 8, 9, 19, 26, 27, 28, 29, 30, 31, 32, 33] (by decide +kernel) (by decide +kernel)
set_option maxRecDepth 20000 in
theorem gX6_undo_X6_dropFrom : GoodIn wsX6_undo (wsV RX6 50 RX6 yX6_dropFrom wsX6_dropFrom) := goodIn_app (goodIn_of _ (by decide +kernel)) ggX6_undo_X6_dropFrom
set_option maxRecDepth 20000 in
theorem ggX6_undo_X6_sayTheSame : GoodIn wsX6_undo wsX6_sayTheSame := goodIn_r _ [23, 24, 25, 26, 27, 28, 29, 30, 31, 32, 33] (by decide +kernel) (by decide +kernel)
set_option maxRecDepth 20000 in
theorem gX6_undo_X6_sayTheSame : GoodIn wsX6_undo (wsV RX6 54 RX6 yX6_sayTheSame wsX6_sayTheSame) := goodIn_app (goodIn_of _ (by decide +kernel)) ggX6_undo_X6_sayTheSame
theorem dX6_undo_0 : decode cX6_undo 0 = .ok (.aload_n 0, 1) := by decide +kernel
theorem dX6_undo_1 : decode cX6_undo 1 = .ok (.iload_n 1, 1) := by decide +kernel
theorem dX6_undo_2 : decode cX6_undo 2 = .ok (.aload_n 0, 1) := by decide +kernel
theorem dX6_undo_3 : decode cX6_undo 3 = .ok (.getfield 32, 3) := by decide +kernel
theorem dX6_undo_6 : decode cX6_undo 6 = .ok (.invokevirtual 46, 3) := by decide +kernel
theorem dX6_undo_9 : decode cX6_undo 9 = .ok (.aload_n 0, 1) := by decide +kernel
theorem dX6_undo_10 : decode cX6_undo 10 = .ok (.iload_n 1, 1) := by decide +kernel
theorem dX6_undo_11 : decode cX6_undo 11 = .ok (.iload_n 2, 1) := by decide +kernel
theorem dX6_undo_12 : decode cX6_undo 12 = .ok (.invokevirtual 50, 3) := by decide +kernel
theorem dX6_undo_15 : decode cX6_undo 15 = .ok (.aload_n 0, 1) := by decide +kernel
theorem dX6_undo_16 : decode cX6_undo 16 = .ok (.iload_n 1, 1) := by decide +kernel
theorem dX6_undo_17 : decode cX6_undo 17 = .ok (.aload_n 0, 1) := by decide +kernel
theorem dX6_undo_18 : decode cX6_undo 18 = .ok (.getfield 35, 3) := by decide +kernel
theorem dX6_undo_21 : decode cX6_undo 21 = .ok (.invokevirtual 46, 3) := by decide +kernel
theorem dX6_undo_24 : decode cX6_undo 24 = .ok (.iconst 0, 1) := by decide +kernel
theorem dX6_undo_25 : decode cX6_undo 25 = .ok (.istore_n 3, 1) := by decide +kernel
theorem dX6_undo_26 : decode cX6_undo 26 = .ok (.iconst 0, 1) := by decide +kernel
theorem dX6_undo_27 : decode cX6_undo 27 = .ok (.istore 4, 2) := by decide +kernel
theorem dX6_undo_29 : decode cX6_undo 29 = .ok (.iload 4, 2) := by decide +kernel
theorem dX6_undo_31 : decode cX6_undo 31 = .ok (.sipush 512, 3) := by decide +kernel
theorem dX6_undo_34 : decode cX6_undo 34 = .ok (.if_icmp .ge 33, 3) := by decide +kernel
theorem dX6_undo_37 : decode cX6_undo 37 = .ok (.aload_n 0, 1) := by decide +kernel
theorem dX6_undo_38 : decode cX6_undo 38 = .ok (.aload_n 0, 1) := by decide +kernel
theorem dX6_undo_39 : decode cX6_undo 39 = .ok (.getfield 32, 3) := by decide +kernel
theorem dX6_undo_42 : decode cX6_undo 42 = .ok (.iload 4, 2) := by decide +kernel
theorem dX6_undo_44 : decode cX6_undo 44 = .ok (.iaload, 1) := by decide +kernel
theorem dX6_undo_45 : decode cX6_undo 45 = .ok (.aload_n 0, 1) := by decide +kernel
theorem dX6_undo_46 : decode cX6_undo 46 = .ok (.getfield 35, 3) := by decide +kernel
theorem dX6_undo_49 : decode cX6_undo 49 = .ok (.iload 4, 2) := by decide +kernel
theorem dX6_undo_51 : decode cX6_undo 51 = .ok (.iaload, 1) := by decide +kernel
theorem dX6_undo_52 : decode cX6_undo 52 = .ok (.invokevirtual 54, 3) := by decide +kernel
theorem dX6_undo_55 : decode cX6_undo 55 = .ok (.ifCond .ne 6, 3) := by decide +kernel
theorem dX6_undo_58 : decode cX6_undo 58 = .ok (.iinc 3 1, 3) := by decide +kernel
theorem dX6_undo_61 : decode cX6_undo 61 = .ok (.iinc 4 1, 3) := by decide +kernel
theorem dX6_undo_64 : decode cX6_undo 64 = .ok (.goto (-35), 3) := by decide +kernel
theorem dX6_undo_67 : decode cX6_undo 67 = .ok (.iload_n 3, 1) := by decide +kernel
theorem dX6_undo_68 : decode cX6_undo 68 = .ok (.ireturn, 1) := by decide +kernel
theorem dX6_handOver_0 : decode cX6_handOver 0 = .ok (.iconst 0, 1) := by decide +kernel
theorem dX6_handOver_1 : decode cX6_handOver 1 = .ok (.istore 4, 2) := by decide +kernel
theorem dX6_handOver_3 : decode cX6_handOver 3 = .ok (.iload 4, 2) := by decide +kernel
theorem dX6_handOver_5 : decode cX6_handOver 5 = .ok (.aload_n 0, 1) := by decide +kernel
theorem dX6_handOver_6 : decode cX6_handOver 6 = .ok (.getfield 28, 3) := by decide +kernel
theorem dX6_handOver_9 : decode cX6_handOver 9 = .ok (.if_icmp .ge 36, 3) := by decide +kernel
theorem dX6_handOver_12 : decode cX6_handOver 12 = .ok (.aload_n 0, 1) := by decide +kernel
theorem dX6_handOver_13 : decode cX6_handOver 13 = .ok (.getfield 9, 3) := by decide +kernel
theorem dX6_handOver_16 : decode cX6_handOver 16 = .ok (.iload 4, 2) := by decide +kernel
theorem dX6_handOver_18 : decode cX6_handOver 18 = .ok (.iaload, 1) := by decide +kernel
theorem dX6_handOver_19 : decode cX6_handOver 19 = .ok (.iload_n 1, 1) := by decide +kernel
theorem dX6_handOver_20 : decode cX6_handOver 20 = .ok (.if_icmp .ne 19, 3) := by decide +kernel
theorem dX6_handOver_23 : decode cX6_handOver 23 = .ok (.aload_n 0, 1) := by decide +kernel
theorem dX6_handOver_24 : decode cX6_handOver 24 = .ok (.getfield 9, 3) := by decide +kernel
theorem dX6_handOver_27 : decode cX6_handOver 27 = .ok (.iload 4, 2) := by decide +kernel
theorem dX6_handOver_29 : decode cX6_handOver 29 = .ok (.iload_n 2, 1) := by decide +kernel
theorem dX6_handOver_30 : decode cX6_handOver 30 = .ok (.iastore, 1) := by decide +kernel
theorem dX6_handOver_31 : decode cX6_handOver 31 = .ok (.aload_n 0, 1) := by decide +kernel
theorem dX6_handOver_32 : decode cX6_handOver 32 = .ok (.getfield 25, 3) := by decide +kernel
theorem dX6_handOver_35 : decode cX6_handOver 35 = .ok (.iload 4, 2) := by decide +kernel
theorem dX6_handOver_37 : decode cX6_handOver 37 = .ok (.iload_n 3, 1) := by decide +kernel
theorem dX6_handOver_38 : decode cX6_handOver 38 = .ok (.iastore, 1) := by decide +kernel
theorem dX6_handOver_39 : decode cX6_handOver 39 = .ok (.iinc 4 1, 3) := by decide +kernel
theorem dX6_handOver_42 : decode cX6_handOver 42 = .ok (.goto (-39), 3) := by decide +kernel
theorem dX6_handOver_45 : decode cX6_handOver 45 = .ok (.return_, 1) := by decide +kernel
set_option maxRecDepth 20000 in
theorem ggX6_drop_X6_dropFrom : GoodIn wsX6_drop wsX6_dropFrom := goodIn_r _ [5, 6, 7, 8, 9, 10, 11, 12, 13, 14, 15, 16] (by decide +kernel) (by decide +kernel)
set_option maxRecDepth 20000 in
theorem gX6_drop_X6_dropFrom : GoodIn wsX6_drop (wsV RX6 50 RX6 yX6_dropFrom wsX6_dropFrom) := goodIn_app (goodIn_of _ (by decide +kernel)) ggX6_drop_X6_dropFrom
theorem dX6_drop_0 : decode cX6_drop 0 = .ok (.aload_n 0, 1) := by decide +kernel
theorem dX6_drop_1 : decode cX6_drop 1 = .ok (.iload_n 1, 1) := by decide +kernel
theorem dX6_drop_2 : decode cX6_drop 2 = .ok (.iconst 0, 1) := by decide +kernel
theorem dX6_drop_3 : decode cX6_drop 3 = .ok (.invokevirtual 50, 3) := by decide +kernel
theorem dX6_drop_6 : decode cX6_drop 6 = .ok (.return_, 1) := by decide +kernel
theorem dX6_dropFrom_0 : decode cX6_dropFrom 0 = .ok (.iconst 0, 1) := by decide +kernel
theorem dX6_dropFrom_1 : decode cX6_dropFrom 1 = .ok (.istore_n 3, 1) := by decide +kernel
theorem dX6_dropFrom_2 : decode cX6_dropFrom 2 = .ok (.iload_n 3, 1) := by decide +kernel
theorem dX6_dropFrom_3 : decode cX6_dropFrom 3 = .ok (.aload_n 0, 1) := by decide +kernel
theorem dX6_dropFrom_4 : decode cX6_dropFrom 4 = .ok (.getfield 28, 3) := by decide +kernel
theorem dX6_dropFrom_7 : decode cX6_dropFrom 7 = .ok (.if_icmp .ge 36, 3) := by decide +kernel
theorem dX6_dropFrom_10 : decode cX6_dropFrom 10 = .ok (.aload_n 0, 1) := by decide +kernel
theorem dX6_dropFrom_11 : decode cX6_dropFrom 11 = .ok (.getfield 9, 3) := by decide +kernel
theorem dX6_dropFrom_14 : decode cX6_dropFrom 14 = .ok (.iload_n 3, 1) := by decide +kernel
theorem dX6_dropFrom_15 : decode cX6_dropFrom 15 = .ok (.iaload, 1) := by decide +kernel
theorem dX6_dropFrom_16 : decode cX6_dropFrom 16 = .ok (.iload_n 1, 1) := by decide +kernel
theorem dX6_dropFrom_17 : decode cX6_dropFrom 17 = .ok (.if_icmp .ne 20, 3) := by decide +kernel
theorem dX6_dropFrom_20 : decode cX6_dropFrom 20 = .ok (.aload_n 0, 1) := by decide +kernel
theorem dX6_dropFrom_21 : decode cX6_dropFrom 21 = .ok (.getfield 25, 3) := by decide +kernel
theorem dX6_dropFrom_24 : decode cX6_dropFrom 24 = .ok (.iload_n 3, 1) := by decide +kernel
theorem dX6_dropFrom_25 : decode cX6_dropFrom 25 = .ok (.iaload, 1) := by decide +kernel
theorem dX6_dropFrom_26 : decode cX6_dropFrom 26 = .ok (.iload_n 2, 1) := by decide +kernel
theorem dX6_dropFrom_27 : decode cX6_dropFrom 27 = .ok (.if_icmp .lt 10, 3) := by decide +kernel
theorem dX6_dropFrom_30 : decode cX6_dropFrom 30 = .ok (.aload_n 0, 1) := by decide +kernel
theorem dX6_dropFrom_31 : decode cX6_dropFrom 31 = .ok (.getfield 9, 3) := by decide +kernel
theorem dX6_dropFrom_34 : decode cX6_dropFrom 34 = .ok (.iload_n 3, 1) := by decide +kernel
theorem dX6_dropFrom_35 : decode cX6_dropFrom 35 = .ok (.iconst (-1), 1) := by decide +kernel
theorem dX6_dropFrom_36 : decode cX6_dropFrom 36 = .ok (.iastore, 1) := by decide +kernel
theorem dX6_dropFrom_37 : decode cX6_dropFrom 37 = .ok (.iinc 3 1, 3) := by decide +kernel
theorem dX6_dropFrom_40 : decode cX6_dropFrom 40 = .ok (.goto (-38), 3) := by decide +kernel
theorem dX6_dropFrom_43 : decode cX6_dropFrom 43 = .ok (.return_, 1) := by decide +kernel
set_option maxRecDepth 20000 in
theorem ggX6_findOwn_J7_fill_53178 : GoodIn wsX6_findOwn wsJ7_fill_53178 := goodIn_r _ [7] (by decide +kernel) (by decide +kernel)
set_option maxRecDepth 20000 in
theorem gX6_findOwn_J7_fill_53178 : GoodIn wsX6_findOwn (va_wsS RX6 38 yJ7_fill_53178 wsJ7_fill_53178) := goodIn_app (goodIn_of _ (by decide +kernel)) ggX6_findOwn_J7_fill_53178
theorem dX6_findOwn_0 : decode cX6_findOwn 0 = .ok (.aload_n 2, 1) := by decide +kernel
theorem dX6_findOwn_1 : decode cX6_findOwn 1 = .ok (.iconst (-1), 1) := by decide +kernel
theorem dX6_findOwn_2 : decode cX6_findOwn 2 = .ok (.invokestatic 38, 3) := by decide +kernel
theorem dX6_findOwn_5 : decode cX6_findOwn 5 = .ok (.iconst 0, 1) := by decide +kernel
theorem dX6_findOwn_6 : decode cX6_findOwn 6 = .ok (.istore_n 3, 1) := by decide +kernel
theorem dX6_findOwn_7 : decode cX6_findOwn 7 = .ok (.iload_n 3, 1) := by decide +kernel
theorem dX6_findOwn_8 : decode cX6_findOwn 8 = .ok (.aload_n 0, 1) := by decide +kernel
theorem dX6_findOwn_9 : decode cX6_findOwn 9 = .ok (.getfield 28, 3) := by decide +kernel
theorem dX6_findOwn_12 : decode cX6_findOwn 12 = .ok (.if_icmp .ge 28, 3) := by decide +kernel
theorem dX6_findOwn_15 : decode cX6_findOwn 15 = .ok (.aload_n 0, 1) := by decide +kernel
theorem dX6_findOwn_16 : decode cX6_findOwn 16 = .ok (.getfield 9, 3) := by decide +kernel
theorem dX6_findOwn_19 : decode cX6_findOwn 19 = .ok (.iload_n 3, 1) := by decide +kernel
theorem dX6_findOwn_20 : decode cX6_findOwn 20 = .ok (.iaload, 1) := by decide +kernel
theorem dX6_findOwn_21 : decode cX6_findOwn 21 = .ok (.iload_n 1, 1) := by decide +kernel
theorem dX6_findOwn_22 : decode cX6_findOwn 22 = .ok (.if_icmp .ne 12, 3) := by decide +kernel
theorem dX6_findOwn_25 : decode cX6_findOwn 25 = .ok (.aload_n 2, 1) := by decide +kernel
theorem dX6_findOwn_26 : decode cX6_findOwn 26 = .ok (.aload_n 0, 1) := by decide +kernel
theorem dX6_findOwn_27 : decode cX6_findOwn 27 = .ok (.getfield 15, 3) := by decide +kernel
theorem dX6_findOwn_30 : decode cX6_findOwn 30 = .ok (.iload_n 3, 1) := by decide +kernel
theorem dX6_findOwn_31 : decode cX6_findOwn 31 = .ok (.iaload, 1) := by decide +kernel
theorem dX6_findOwn_32 : decode cX6_findOwn 32 = .ok (.iload_n 3, 1) := by decide +kernel
theorem dX6_findOwn_33 : decode cX6_findOwn 33 = .ok (.iastore, 1) := by decide +kernel
theorem dX6_findOwn_34 : decode cX6_findOwn 34 = .ok (.iinc 3 1, 3) := by decide +kernel
theorem dX6_findOwn_37 : decode cX6_findOwn 37 = .ok (.goto (-30), 3) := by decide +kernel
theorem dX6_findOwn_40 : decode cX6_findOwn 40 = .ok (.return_, 1) := by decide +kernel
theorem dX6_sayTheSame_0 : decode cX6_sayTheSame 0 = .ok (.iload_n 1, 1) := by decide +kernel
theorem dX6_sayTheSame_1 : decode cX6_sayTheSame 1 = .ok (.iconst (-1), 1) := by decide +kernel
theorem dX6_sayTheSame_2 : decode cX6_sayTheSame 2 = .ok (.if_icmp .eq 8, 3) := by decide +kernel
theorem dX6_sayTheSame_5 : decode cX6_sayTheSame 5 = .ok (.iload_n 2, 1) := by decide +kernel
theorem dX6_sayTheSame_6 : decode cX6_sayTheSame 6 = .ok (.iconst (-1), 1) := by decide +kernel
theorem dX6_sayTheSame_7 : decode cX6_sayTheSame 7 = .ok (.if_icmp .ne 14, 3) := by decide +kernel
theorem dX6_sayTheSame_10 : decode cX6_sayTheSame 10 = .ok (.iload_n 1, 1) := by decide +kernel
theorem dX6_sayTheSame_11 : decode cX6_sayTheSame 11 = .ok (.iload_n 2, 1) := by decide +kernel
theorem dX6_sayTheSame_12 : decode cX6_sayTheSame 12 = .ok (.if_icmp .ne 7, 3) := by decide +kernel
theorem dX6_sayTheSame_15 : decode cX6_sayTheSame 15 = .ok (.iconst 1, 1) := by decide +kernel
theorem dX6_sayTheSame_16 : decode cX6_sayTheSame 16 = .ok (.goto 4, 3) := by decide +kernel
theorem dX6_sayTheSame_19 : decode cX6_sayTheSame 19 = .ok (.iconst 0, 1) := by decide +kernel
theorem dX6_sayTheSame_20 : decode cX6_sayTheSame 20 = .ok (.ireturn, 1) := by decide +kernel
theorem dX6_sayTheSame_21 : decode cX6_sayTheSame 21 = .ok (.aload_n 0, 1) := by decide +kernel
theorem dX6_sayTheSame_22 : decode cX6_sayTheSame 22 = .ok (.getfield 21, 3) := by decide +kernel
theorem dX6_sayTheSame_25 : decode cX6_sayTheSame 25 = .ok (.iload_n 1, 1) := by decide +kernel
theorem dX6_sayTheSame_26 : decode cX6_sayTheSame 26 = .ok (.baload, 1) := by decide +kernel
theorem dX6_sayTheSame_27 : decode cX6_sayTheSame 27 = .ok (.aload_n 0, 1) := by decide +kernel
theorem dX6_sayTheSame_28 : decode cX6_sayTheSame 28 = .ok (.getfield 21, 3) := by decide +kernel
theorem dX6_sayTheSame_31 : decode cX6_sayTheSame 31 = .ok (.iload_n 2, 1) := by decide +kernel
theorem dX6_sayTheSame_32 : decode cX6_sayTheSame 32 = .ok (.baload, 1) := by decide +kernel
theorem dX6_sayTheSame_33 : decode cX6_sayTheSame 33 = .ok (.if_icmp .ne 31, 3) := by decide +kernel
theorem dX6_sayTheSame_36 : decode cX6_sayTheSame 36 = .ok (.aload_n 0, 1) := by decide +kernel
theorem dX6_sayTheSame_37 : decode cX6_sayTheSame 37 = .ok (.getfield 21, 3) := by decide +kernel
theorem dX6_sayTheSame_40 : decode cX6_sayTheSame 40 = .ok (.iload_n 1, 1) := by decide +kernel
theorem dX6_sayTheSame_41 : decode cX6_sayTheSame 41 = .ok (.baload, 1) := by decide +kernel
theorem dX6_sayTheSame_42 : decode cX6_sayTheSame 42 = .ok (.ifCond .ne 18, 3) := by decide +kernel
theorem dX6_sayTheSame_45 : decode cX6_sayTheSame 45 = .ok (.aload_n 0, 1) := by decide +kernel
theorem dX6_sayTheSame_46 : decode cX6_sayTheSame 46 = .ok (.getfield 18, 3) := by decide +kernel
theorem dX6_sayTheSame_49 : decode cX6_sayTheSame 49 = .ok (.iload_n 1, 1) := by decide +kernel
theorem dX6_sayTheSame_50 : decode cX6_sayTheSame 50 = .ok (.iaload, 1) := by decide +kernel
theorem dX6_sayTheSame_51 : decode cX6_sayTheSame 51 = .ok (.aload_n 0, 1) := by decide +kernel
theorem dX6_sayTheSame_52 : decode cX6_sayTheSame 52 = .ok (.getfield 18, 3) := by decide +kernel
theorem dX6_sayTheSame_55 : decode cX6_sayTheSame 55 = .ok (.iload_n 2, 1) := by decide +kernel
theorem dX6_sayTheSame_56 : decode cX6_sayTheSame 56 = .ok (.iaload, 1) := by decide +kernel
theorem dX6_sayTheSame_57 : decode cX6_sayTheSame 57 = .ok (.if_icmp .ne 7, 3) := by decide +kernel
theorem dX6_sayTheSame_60 : decode cX6_sayTheSame 60 = .ok (.iconst 1, 1) := by decide +kernel
theorem dX6_sayTheSame_61 : decode cX6_sayTheSame 61 = .ok (.goto 4, 3) := by decide +kernel
theorem dX6_sayTheSame_64 : decode cX6_sayTheSame 64 = .ok (.iconst 0, 1) := by decide +kernel
theorem dX6_sayTheSame_65 : decode cX6_sayTheSame 65 = .ok (.ireturn, 1) := by decide +kernel
set_option maxRecDepth 20000 in
theorem ggX7_init_X0_init : GoodIn wsX7_init wsX0_init := goodIn_r _ [33, 34, 2, 3, 35, 36, 37, 38, 39, 40, 79, 80, 81, 82] (by decide +kernel) (by decide +kernel)
set_option maxRecDepth 20000 in
theorem gX7_init_X0_init_n9 : GoodIn wsX7_init (wsX0_init) := ggX7_init_X0_init
set_option maxRecDepth 20000 in
theorem ggX7_init_X2_init : GoodIn wsX7_init wsX2_init := goodIn_r _ [42, 43, 2, 3, 35, 44, 45, 90, 91] (by decide +kernel) (by decide +kernel)
set_option maxRecDepth 20000 in
theorem gX7_init_X2_init_n18 : GoodIn wsX7_init (wsX2_init) := ggX7_init_X2_init
set_option maxRecDepth 20000 in
theorem ggX7_init_X6_init : GoodIn wsX7_init wsX6_init := goodIn_r _ [47, 48, 2, 3, 35, 49, 50, 51, 38, 52, 53, 54, 55, 56, 92, 93, 94, 95, 96, 97, 98, 99] (by decide +kernel) (by decide +kernel)
set_option maxRecDepth 20000 in
theorem gX7_init_X6_init_n25 : GoodIn wsX7_init (wsX6_init) := ggX7_init_X6_init
set_option maxRecDepth 20000 in
theorem ggX7_init_X1_init : GoodIn wsX7_init wsX1_init := goodIn_r _ [58, 59, 2, 3, 35, 60, 61, 62, 63, 100, 101, 102, 103] (by decide +kernel) (by decide +kernel)
set_option maxRecDepth 20000 in
theorem gX7_init_X1_init_n32 : GoodIn wsX7_init (wsX1_init) := ggX7_init_X1_init
set_option maxRecDepth 20000 in
theorem ggX7_init_X3_init : GoodIn wsX7_init wsX3_init := goodIn_r _ [65, 66, 2, 3, 35, 67, 68, 104, 105] (by decide +kernel) (by decide +kernel)
set_option maxRecDepth 20000 in
theorem gX7_init_X3_init_n39 : GoodIn wsX7_init (wsX3_init) := ggX7_init_X3_init
set_option maxRecDepth 20000 in
theorem ggX7_init_X5_init : GoodIn wsX7_init wsX5_init := goodIn_r _ [70, 71, 2, 3, 35, 72, 73, 106, 107] (by decide +kernel) (by decide +kernel)
set_option maxRecDepth 20000 in
theorem gX7_init_X5_init_n46 : GoodIn wsX7_init (wsX5_init) := ggX7_init_X5_init
set_option maxRecDepth 20000 in
theorem ggX7_init_X4_init : GoodIn wsX7_init wsX4_init := goodIn_r _ [75, 76, 2, 3, 77, 78, 108] (by decide +kernel) (by decide +kernel)
set_option maxRecDepth 20000 in
theorem gX7_init_X4_init_n53 : GoodIn wsX7_init (wsX4_init) := ggX7_init_X4_init
theorem dX7_init_0 : decode cX7_init 0 = .ok (.aload_n 0, 1) := by decide +kernel
theorem dX7_init_1 : decode cX7_init 1 = .ok (.invokespecial 1, 3) := by decide +kernel
theorem dX7_init_4 : decode cX7_init 4 = .ok (.aload_n 0, 1) := by decide +kernel
theorem dX7_init_5 : decode cX7_init 5 = .ok (.new 7, 3) := by decide +kernel
theorem dX7_init_8 : decode cX7_init 8 = .ok (.dup, 1) := by decide +kernel
theorem dX7_init_9 : decode cX7_init 9 = .ok (.invokespecial 9, 3) := by decide +kernel
theorem dX7_init_12 : decode cX7_init 12 = .ok (.putfield 10, 3) := by decide +kernel
theorem dX7_init_15 : decode cX7_init 15 = .ok (.aload_n 0, 1) := by decide +kernel
theorem dX7_init_16 : decode cX7_init 16 = .ok (.new 16, 3) := by decide +kernel
theorem dX7_init_19 : decode cX7_init 19 = .ok (.dup, 1) := by decide +kernel
theorem dX7_init_20 : decode cX7_init 20 = .ok (.invokespecial 18, 3) := by decide +kernel
theorem dX7_init_23 : decode cX7_init 23 = .ok (.putfield 19, 3) := by decide +kernel
theorem dX7_init_26 : decode cX7_init 26 = .ok (.aload_n 0, 1) := by decide +kernel
theorem dX7_init_27 : decode cX7_init 27 = .ok (.new 23, 3) := by decide +kernel
theorem dX7_init_30 : decode cX7_init 30 = .ok (.dup, 1) := by decide +kernel
theorem dX7_init_31 : decode cX7_init 31 = .ok (.invokespecial 25, 3) := by decide +kernel
theorem dX7_init_34 : decode cX7_init 34 = .ok (.putfield 26, 3) := by decide +kernel
theorem dX7_init_37 : decode cX7_init 37 = .ok (.aload_n 0, 1) := by decide +kernel
theorem dX7_init_38 : decode cX7_init 38 = .ok (.new 30, 3) := by decide +kernel
theorem dX7_init_41 : decode cX7_init 41 = .ok (.dup, 1) := by decide +kernel
theorem dX7_init_42 : decode cX7_init 42 = .ok (.invokespecial 32, 3) := by decide +kernel
theorem dX7_init_45 : decode cX7_init 45 = .ok (.putfield 33, 3) := by decide +kernel
theorem dX7_init_48 : decode cX7_init 48 = .ok (.aload_n 0, 1) := by decide +kernel
theorem dX7_init_49 : decode cX7_init 49 = .ok (.new 37, 3) := by decide +kernel
theorem dX7_init_52 : decode cX7_init 52 = .ok (.dup, 1) := by decide +kernel
theorem dX7_init_53 : decode cX7_init 53 = .ok (.invokespecial 39, 3) := by decide +kernel
theorem dX7_init_56 : decode cX7_init 56 = .ok (.putfield 40, 3) := by decide +kernel
theorem dX7_init_59 : decode cX7_init 59 = .ok (.aload_n 0, 1) := by decide +kernel
theorem dX7_init_60 : decode cX7_init 60 = .ok (.new 44, 3) := by decide +kernel
theorem dX7_init_63 : decode cX7_init 63 = .ok (.dup, 1) := by decide +kernel
theorem dX7_init_64 : decode cX7_init 64 = .ok (.invokespecial 46, 3) := by decide +kernel
theorem dX7_init_67 : decode cX7_init 67 = .ok (.putfield 47, 3) := by decide +kernel
theorem dX7_init_70 : decode cX7_init 70 = .ok (.aload_n 0, 1) := by decide +kernel
theorem dX7_init_71 : decode cX7_init 71 = .ok (.new 51, 3) := by decide +kernel
theorem dX7_init_74 : decode cX7_init 74 = .ok (.dup, 1) := by decide +kernel
theorem dX7_init_75 : decode cX7_init 75 = .ok (.invokespecial 53, 3) := by decide +kernel
theorem dX7_init_78 : decode cX7_init 78 = .ok (.putfield 54, 3) := by decide +kernel
theorem dX7_init_81 : decode cX7_init 81 = .ok (.return_, 1) := by decide +kernel
set_option maxRecDepth 20000 in
theorem ggX7_open_X0_canBeAsked : GoodIn wsX7_open wsX0_canBeAsked := goodIn_r _ [6, 7, 8, 9, 5, 10, 11, 12, 13, 14, 15, 16, 33, 34, 35, 36] (by decide +kernel) (by decide +kernel)
set_option maxRecDepth 20000 in
theorem gX7_open_X0_canBeAsked : GoodIn wsX7_open (wsV RX7 58 RX0 yX0_canBeAsked wsX0_canBeAsked) := goodIn_app (goodIn_of _ (by decide +kernel)) ggX7_open_X0_canBeAsked
set_option maxRecDepth 20000 in
theorem ggX7_open_X0_isFull : GoodIn wsX7_open wsX0_isFull := goodIn_r _ [20, 16, 33, 34, 35, 36] (by decide +kernel) (by decide +kernel)
set_option maxRecDepth 20000 in
theorem gX7_open_X0_isFull : GoodIn wsX7_open (wsV RX7 62 RX0 yX0_isFull wsX0_isFull) := goodIn_app (goodIn_of _ (by decide +kernel)) ggX7_open_X0_isFull
set_option maxRecDepth 20000 in
theorem ggX7_open_X0_add : GoodIn wsX7_open wsX0_add := goodIn_r _ [24, 16, 25, 11, 33, 34, 35, 36] (by decide +kernel) (by decide +kernel)
set_option maxRecDepth 20000 in
theorem gX7_open_X0_add : GoodIn wsX7_open (wsV RX7 66 RX0 yX0_add wsX0_add) := goodIn_app (goodIn_of _ (by decide +kernel)) ggX7_open_X0_add
theorem dX7_open_0 : decode cX7_open 0 = .ok (.aload_n 0, 1) := by decide +kernel
theorem dX7_open_1 : decode cX7_open 1 = .ok (.getfield 10, 3) := by decide +kernel
theorem dX7_open_4 : decode cX7_open 4 = .ok (.iload_n 1, 1) := by decide +kernel
theorem dX7_open_5 : decode cX7_open 5 = .ok (.invokevirtual 58, 3) := by decide +kernel
theorem dX7_open_8 : decode cX7_open 8 = .ok (.ifCond .eq 13, 3) := by decide +kernel
theorem dX7_open_11 : decode cX7_open 11 = .ok (.aload_n 0, 1) := by decide +kernel
theorem dX7_open_12 : decode cX7_open 12 = .ok (.getfield 10, 3) := by decide +kernel
theorem dX7_open_15 : decode cX7_open 15 = .ok (.invokevirtual 62, 3) := by decide +kernel
theorem dX7_open_18 : decode cX7_open 18 = .ok (.ifCond .eq 5, 3) := by decide +kernel
theorem dX7_open_21 : decode cX7_open 21 = .ok (.iconst (-1), 1) := by decide +kernel
theorem dX7_open_22 : decode cX7_open 22 = .ok (.ireturn, 1) := by decide +kernel
theorem dX7_open_23 : decode cX7_open 23 = .ok (.aload_n 0, 1) := by decide +kernel
theorem dX7_open_24 : decode cX7_open 24 = .ok (.getfield 10, 3) := by decide +kernel
theorem dX7_open_27 : decode cX7_open 27 = .ok (.iload_n 1, 1) := by decide +kernel
theorem dX7_open_28 : decode cX7_open 28 = .ok (.invokevirtual 66, 3) := by decide +kernel
theorem dX7_open_31 : decode cX7_open 31 = .ok (.ireturn, 1) := by decide +kernel
set_option maxRecDepth 20000 in
theorem ggX7_get_X0_canBeAsked : GoodIn wsX7_get wsX0_canBeAsked := goodIn_r _ [10, 11, 12, 13, 9, 14, 15, 16, 17, 18, 19, 20, 134, 135, 136, 137] (by decide +kernel) (by decide +kernel)
set_option maxRecDepth 20000 in
theorem gX7_get_X0_canBeAsked : GoodIn wsX7_get (wsV RX7 58 RX0 yX0_canBeAsked wsX0_canBeAsked) := goodIn_app (goodIn_of _ (by decide +kernel)) ggX7_get_X0_canBeAsked
set_option maxRecDepth 20000 in
theorem ggX7_get_X2_findOrAdd : GoodIn wsX7_get wsX2_findOrAdd := goodIn_r _ [25, 26, 27, 28, 29, 30, 24, 31, 138, 139] (by decide +kernel) (by decide +kernel)
set_option maxRecDepth 20000 in
theorem gX7_get_X2_findOrAdd : GoodIn wsX7_get (wsV RX7 72 RX2 yX2_findOrAdd wsX2_findOrAdd) := goodIn_app (goodIn_of _ (by decide +kernel)) ggX7_get_X2_findOrAdd
set_option maxRecDepth 20000 in
theorem ggX7_get_X1_isFull : GoodIn wsX7_get wsX1_isFull := goodIn_r _ [36, 37, 140, 141, 142, 143] (by decide +kernel) (by decide +kernel)
set_option maxRecDepth 20000 in
theorem gX7_get_X1_isFull : GoodIn wsX7_get (wsV RX7 75 RX1 yX1_isFull wsX1_isFull) := goodIn_app (goodIn_of _ (by decide +kernel)) ggX7_get_X1_isFull
set_option maxRecDepth 20000 in
theorem ggX7_get_X7_mustWait : GoodIn wsX7_get wsX7_mustWait := goodIn_r _ [42, 43, 44, 45, 46, 41, 47, 1, 4, 48, 49, 50, 9, 51, 20, 52, 53, 54, 55, 56, 57, 58, 59, 60, 35, 61, 37, 62, 63, 64, 65, 66, 67, 68, 69, 70, 71, 72, 73, 74, 75, 76, 77, 78, 79, 127, 128, 129, 130, 131, 132, 133, 134, 135, 136, 137, 140, 141, 142, 143, 144, 145] (by decide +kernel) (by decide +kernel)
set_option maxRecDepth 20000 in
theorem gX7_get_X7_mustWait : GoodIn wsX7_get (wsV RX7 76 RX7 yX7_mustWait wsX7_mustWait) := goodIn_app (goodIn_of _ (by decide +kernel)) ggX7_get_X7_mustWait
set_option maxRecDepth 20000 in
theorem ggX7_get_X1_add : GoodIn wsX7_get wsX1_add := goodIn_r _ [83, 68, 84, 85, 86, 87, 62, 37, 67, 88, 89, 90, 35, 91, 140, 141, 142, 143] (by decide +kernel) (by decide +kernel)
set_option maxRecDepth 20000 in
theorem gX7_get_X1_add : GoodIn wsX7_get (wsV RX7 82 RX1 yX1_add wsX1_add) := goodIn_app (goodIn_of _ (by decide +kernel)) ggX7_get_X1_add
set_option maxRecDepth 20000 in
theorem ggX7_get_X7_valueSeen : GoodIn wsX7_get wsX7_valueSeen := goodIn_r _ [95, 3, 96, 97, 98, 29, 30, 24, 31, 26, 27, 99, 100, 101, 41, 102, 1, 48, 49, 50, 9, 51, 20, 52, 53, 54, 55, 56, 57, 103, 104, 105, 106, 107, 108, 109, 110, 111, 112, 113, 114, 115, 116, 117, 118, 119, 120, 121, 122, 123, 124, 125, 126, 127, 128, 129, 130, 131, 132, 133, 138, 139, 134, 135, 136, 137, 146, 147, 148, 149, 150, 151, 152, 153] (by decide +kernel) (by decide +kernel)
set_option maxRecDepth 20000 in
theorem gX7_get_X7_valueSeen : GoodIn wsX7_get (wsV RX7 85 RX7 yX7_valueSeen wsX7_valueSeen) := goodIn_app (goodIn_of _ (by decide +kernel)) ggX7_get_X7_valueSeen
theorem dX7_get_0 : decode cX7_get 0 = .ok (.aload_n 0, 1) := by decide +kernel
theorem dX7_get_1 : decode cX7_get 1 = .ok (.getfield 10, 3) := by decide +kernel
theorem dX7_get_4 : decode cX7_get 4 = .ok (.iload_n 1, 1) := by decide +kernel
theorem dX7_get_5 : decode cX7_get 5 = .ok (.invokevirtual 58, 3) := by decide +kernel
theorem dX7_get_8 : decode cX7_get 8 = .ok (.ifCond .ne 7, 3) := by decide +kernel
theorem dX7_get_11 : decode cX7_get 11 = .ok (.ldc2_w 70, 3) := by decide +kernel
theorem dX7_get_14 : decode cX7_get 14 = .ok (.lreturn, 1) := by decide +kernel
theorem dX7_get_15 : decode cX7_get 15 = .ok (.iload_n 1, 1) := by decide +kernel
theorem dX7_get_16 : decode cX7_get 16 = .ok (.ifCond .eq 55, 3) := by decide +kernel
theorem dX7_get_19 : decode cX7_get 19 = .ok (.aload_n 0, 1) := by decide +kernel
theorem dX7_get_20 : decode cX7_get 20 = .ok (.getfield 19, 3) := by decide +kernel
theorem dX7_get_23 : decode cX7_get 23 = .ok (.iload_n 2, 1) := by decide +kernel
theorem dX7_get_24 : decode cX7_get 24 = .ok (.invokevirtual 72, 3) := by decide +kernel
theorem dX7_get_27 : decode cX7_get 27 = .ok (.istore_n 3, 1) := by decide +kernel
theorem dX7_get_28 : decode cX7_get 28 = .ok (.iload_n 3, 1) := by decide +kernel
theorem dX7_get_29 : decode cX7_get 29 = .ok (.iconst (-1), 1) := by decide +kernel
theorem dX7_get_30 : decode cX7_get 30 = .ok (.if_icmp .eq 13, 3) := by decide +kernel
theorem dX7_get_33 : decode cX7_get 33 = .ok (.aload_n 0, 1) := by decide +kernel
theorem dX7_get_34 : decode cX7_get 34 = .ok (.getfield 33, 3) := by decide +kernel
theorem dX7_get_37 : decode cX7_get 37 = .ok (.invokevirtual 75, 3) := by decide +kernel
theorem dX7_get_40 : decode cX7_get 40 = .ok (.ifCond .eq 7, 3) := by decide +kernel
theorem dX7_get_43 : decode cX7_get 43 = .ok (.ldc2_w 70, 3) := by decide +kernel
theorem dX7_get_46 : decode cX7_get 46 = .ok (.lreturn, 1) := by decide +kernel
theorem dX7_get_47 : decode cX7_get 47 = .ok (.aload_n 0, 1) := by decide +kernel
theorem dX7_get_48 : decode cX7_get 48 = .ok (.iload_n 1, 1) := by decide +kernel
theorem dX7_get_49 : decode cX7_get 49 = .ok (.iload_n 3, 1) := by decide +kernel
theorem dX7_get_50 : decode cX7_get 50 = .ok (.iconst 1, 1) := by decide +kernel
theorem dX7_get_51 : decode cX7_get 51 = .ok (.invokevirtual 76, 3) := by decide +kernel
theorem dX7_get_54 : decode cX7_get 54 = .ok (.ifCond .eq 7, 3) := by decide +kernel
theorem dX7_get_57 : decode cX7_get 57 = .ok (.ldc2_w 80, 3) := by decide +kernel
theorem dX7_get_60 : decode cX7_get 60 = .ok (.lreturn, 1) := by decide +kernel
theorem dX7_get_61 : decode cX7_get 61 = .ok (.aload_n 0, 1) := by decide +kernel
theorem dX7_get_62 : decode cX7_get 62 = .ok (.getfield 33, 3) := by decide +kernel
theorem dX7_get_65 : decode cX7_get 65 = .ok (.iload_n 1, 1) := by decide +kernel
theorem dX7_get_66 : decode cX7_get 66 = .ok (.iload_n 3, 1) := by decide +kernel
theorem dX7_get_67 : decode cX7_get 67 = .ok (.iconst 1, 1) := by decide +kernel
theorem dX7_get_68 : decode cX7_get 68 = .ok (.invokevirtual 82, 3) := by decide +kernel
theorem dX7_get_71 : decode cX7_get 71 = .ok (.aload_n 0, 1) := by decide +kernel
theorem dX7_get_72 : decode cX7_get 72 = .ok (.iload_n 1, 1) := by decide +kernel
theorem dX7_get_73 : decode cX7_get 73 = .ok (.iload_n 2, 1) := by decide +kernel
theorem dX7_get_74 : decode cX7_get 74 = .ok (.invokevirtual 85, 3) := by decide +kernel
theorem dX7_get_77 : decode cX7_get 77 = .ok (.lreturn, 1) := by decide +kernel
set_option maxRecDepth 20000 in
theorem ggX7_put_X7_change : GoodIn wsX7_put wsX7_change := goodIn_r _ [5, 6, 7, 8, 9, 10, 11, 12, 13, 14, 15, 16, 17, 18, 19, 20, 21, 22, 23, 24, 25, 26, 27, 28, 29, 30, 31, 32, 33, 34, 35, 36, 37, 38, 39, 40, 41, 42, 43, 44, 45, 46, 47, 48, 4, 49, 50, 51, 52, 53, 54, 55, 56, 57, 58, 59, 60, 61, 62, 63, 64, 65, 66, 67, 68, 69, 70, 71, 72, 73, 74, 75, 76, 77, 78, 79, 80, 81, 82, 83, 84, 85, 86, 87, 88, 89, 90, 91, 92, 93, 94, 95, 96, 97, 98, 99, 100, 101, 102, 103, 104, 105, 106, 107, 108, 109, 110, 111, 112, 113, 114, 115, 116, 117, 118, 119, 120, 121, 122, 123, 124, 125, 126, 127, 128, 129, 130, 131, 132, 133, 134, 135, 136, 137, 138, 139, 140, 141, 142, 143, 144, 145, 146, 147, 148, 149, 150, 151, 152, 153, 154, 155, 156, 157, 158, 159, 160, 161, 162, 163, 164, 165, 166, 167, 168, 169] (by decide +kernel) (by decide +kernel)
set_option maxRecDepth 20000 in
theorem gX7_put_X7_change : GoodIn wsX7_put (wsV RX7 89 RX7 yX7_change wsX7_change) := goodIn_app (goodIn_of _ (by decide +kernel)) ggX7_put_X7_change
theorem dX7_put_0 : decode cX7_put 0 = .ok (.aload_n 0, 1) := by decide +kernel
theorem dX7_put_1 : decode cX7_put 1 = .ok (.iload_n 1, 1) := by decide +kernel
theorem dX7_put_2 : decode cX7_put 2 = .ok (.iload_n 2, 1) := by decide +kernel
theorem dX7_put_3 : decode cX7_put 3 = .ok (.iload_n 3, 1) := by decide +kernel
theorem dX7_put_4 : decode cX7_put 4 = .ok (.iconst 0, 1) := by decide +kernel
theorem dX7_put_5 : decode cX7_put 5 = .ok (.invokevirtual 89, 3) := by decide +kernel
theorem dX7_put_8 : decode cX7_put 8 = .ok (.ireturn, 1) := by decide +kernel
set_option maxRecDepth 20000 in
theorem ggX7_take_X7_change : GoodIn wsX7_take wsX7_change := goodIn_r _ [5, 6, 7, 8, 9, 10, 11, 12, 13, 14, 15, 16, 17, 18, 19, 20, 21, 22, 23, 24, 25, 26, 27, 28, 29, 30, 31, 32, 33, 34, 35, 36, 37, 38, 39, 40, 41, 42, 43, 44, 45, 46, 47, 48, 4, 49, 50, 51, 52, 53, 54, 55, 56, 57, 58, 59, 60, 61, 62, 63, 64, 65, 66, 67, 68, 69, 70, 71, 72, 73, 74, 75, 76, 77, 78, 79, 80, 81, 82, 83, 84, 85, 86, 87, 88, 89, 90, 91, 92, 93, 94, 95, 96, 97, 98, 99, 100, 101, 102, 103, 104, 105, 106, 107, 108, 109, 110, 111, 112, 113, 114, 115, 116, 117, 118, 119, 120, 121, 122, 123, 124, 125, 126, 127, 128, 129, 130, 131, 132, 133, 134, 135, 136, 137, 138, 139, 140, 141, 142, 143, 144, 145, 146, 147, 148, 149, 150, 151, 152, 153, 154, 155, 156, 157, 158, 159, 160, 161, 162, 163, 164, 165, 166, 167, 168, 169] (by decide +kernel) (by decide +kernel)
set_option maxRecDepth 20000 in
theorem gX7_take_X7_change : GoodIn wsX7_take (wsV RX7 89 RX7 yX7_change wsX7_change) := goodIn_app (goodIn_of _ (by decide +kernel)) ggX7_take_X7_change
theorem dX7_take_0 : decode cX7_take 0 = .ok (.aload_n 0, 1) := by decide +kernel
theorem dX7_take_1 : decode cX7_take 1 = .ok (.iload_n 1, 1) := by decide +kernel
theorem dX7_take_2 : decode cX7_take 2 = .ok (.iload_n 2, 1) := by decide +kernel
theorem dX7_take_3 : decode cX7_take 3 = .ok (.iconst 0, 1) := by decide +kernel
theorem dX7_take_4 : decode cX7_take 4 = .ok (.iconst 1, 1) := by decide +kernel
theorem dX7_take_5 : decode cX7_take 5 = .ok (.invokevirtual 89, 3) := by decide +kernel
theorem dX7_take_8 : decode cX7_take 8 = .ok (.ireturn, 1) := by decide +kernel
set_option maxRecDepth 20000 in
theorem ggX7_mark_X0_isActive : GoodIn wsX7_mark wsX0_isActive := goodIn_r _ [7, 8, 9, 10, 11, 6, 12, 13, 36, 37, 38, 39] (by decide +kernel) (by decide +kernel)
set_option maxRecDepth 20000 in
theorem gX7_mark_X0_isActive : GoodIn wsX7_mark (wsV RX7 93 RX0 yX0_isActive wsX0_isActive) := goodIn_app (goodIn_of _ (by decide +kernel)) ggX7_mark_X0_isActive
set_option maxRecDepth 20000 in
theorem ggX7_mark_X3_isFull : GoodIn wsX7_mark wsX3_isFull := goodIn_r _ [18, 19, 40, 41] (by decide +kernel) (by decide +kernel)
set_option maxRecDepth 20000 in
theorem gX7_mark_X3_isFull : GoodIn wsX7_mark (wsV RX7 96 RX3 yX3_isFull wsX3_isFull) := goodIn_app (goodIn_of _ (by decide +kernel)) ggX7_mark_X3_isFull
set_option maxRecDepth 20000 in
theorem ggX7_mark_X3_add : GoodIn wsX7_mark wsX3_add := goodIn_r _ [23, 24, 19, 25, 26, 27, 17, 28, 40, 41] (by decide +kernel) (by decide +kernel)
set_option maxRecDepth 20000 in
theorem gX7_mark_X3_add : GoodIn wsX7_mark (wsV RX7 97 RX3 yX3_add wsX3_add) := goodIn_app (goodIn_of _ (by decide +kernel)) ggX7_mark_X3_add
theorem dX7_mark_0 : decode cX7_mark 0 = .ok (.aload_n 0, 1) := by decide +kernel
theorem dX7_mark_1 : decode cX7_mark 1 = .ok (.getfield 10, 3) := by decide +kernel
theorem dX7_mark_4 : decode cX7_mark 4 = .ok (.iload_n 1, 1) := by decide +kernel
theorem dX7_mark_5 : decode cX7_mark 5 = .ok (.invokevirtual 93, 3) := by decide +kernel
theorem dX7_mark_8 : decode cX7_mark 8 = .ok (.ifCond .eq 13, 3) := by decide +kernel
theorem dX7_mark_11 : decode cX7_mark 11 = .ok (.aload_n 0, 1) := by decide +kernel
theorem dX7_mark_12 : decode cX7_mark 12 = .ok (.getfield 40, 3) := by decide +kernel
theorem dX7_mark_15 : decode cX7_mark 15 = .ok (.invokevirtual 96, 3) := by decide +kernel
theorem dX7_mark_18 : decode cX7_mark 18 = .ok (.ifCond .eq 5, 3) := by decide +kernel
theorem dX7_mark_21 : decode cX7_mark 21 = .ok (.iconst (-1), 1) := by decide +kernel
theorem dX7_mark_22 : decode cX7_mark 22 = .ok (.ireturn, 1) := by decide +kernel
theorem dX7_mark_23 : decode cX7_mark 23 = .ok (.aload_n 0, 1) := by decide +kernel
theorem dX7_mark_24 : decode cX7_mark 24 = .ok (.getfield 40, 3) := by decide +kernel
theorem dX7_mark_27 : decode cX7_mark 27 = .ok (.iload_n 1, 1) := by decide +kernel
theorem dX7_mark_28 : decode cX7_mark 28 = .ok (.invokevirtual 97, 3) := by decide +kernel
theorem dX7_mark_31 : decode cX7_mark 31 = .ok (.ireturn, 1) := by decide +kernel
set_option maxRecDepth 20000 in
theorem ggX7_back_X7_canEndOrGoBack : GoodIn wsX7_back wsX7_canEndOrGoBack := goodIn_r _ [7, 8, 9, 10, 11, 12, 13, 14, 15, 16, 17, 18, 19, 20, 21, 22, 23, 24, 69, 70, 71, 72, 73, 74, 75, 76, 77, 78, 79] (by decide +kernel) (by decide +kernel)
set_option maxRecDepth 20000 in
theorem gX7_back_X7_canEndOrGoBack : GoodIn wsX7_back (wsV RX7 98 RX7 yX7_canEndOrGoBack wsX7_canEndOrGoBack) := goodIn_app (goodIn_of _ (by decide +kernel)) ggX7_back_X7_canEndOrGoBack
set_option maxRecDepth 20000 in
theorem ggX7_back_X3_find : GoodIn wsX7_back wsX3_find := goodIn_r _ [29, 30, 31, 80, 81] (by decide +kernel) (by decide +kernel)
set_option maxRecDepth 20000 in
theorem gX7_back_X3_find : GoodIn wsX7_back (wsV RX7 101 RX3 yX3_find wsX3_find) := goodIn_app (goodIn_of _ (by decide +kernel)) ggX7_back_X3_find
set_option maxRecDepth 20000 in
theorem ggX7_back_X3_dropAfter : GoodIn wsX7_back wsX3_dropAfter := goodIn_r _ [35, 30, 31, 80, 81] (by decide +kernel) (by decide +kernel)
set_option maxRecDepth 20000 in
theorem gX7_back_X3_dropAfter : GoodIn wsX7_back (wsV RX7 105 RX3 yX3_dropAfter wsX3_dropAfter) := goodIn_app (goodIn_of _ (by decide +kernel)) ggX7_back_X3_dropAfter
set_option maxRecDepth 20000 in
theorem ggX7_back_X3_timeOf : GoodIn wsX7_back wsX3_timeOf := goodIn_r _ [39] (by decide +kernel) (by decide +kernel)
set_option maxRecDepth 20000 in
theorem gX7_back_X3_timeOf : GoodIn wsX7_back (wsV RX7 109 RX3 yX3_timeOf wsX3_timeOf) := goodIn_app (goodIn_of _ (by decide +kernel)) ggX7_back_X3_timeOf
set_option maxRecDepth 20000 in
theorem ggX7_back_X6_undo : GoodIn wsX7_back wsX6_undo := goodIn_r _ [44, 45, 46, 47, 48, 49, 43, 50, 51, 52, 53, 54, 55, 56, 57, 58, 59, 60, 61, 62, 63, 64, 65, 66, 67, 68, 82, 83, 84, 85, 86, 87, 88, 89] (by decide +kernel) (by decide +kernel)
set_option maxRecDepth 20000 in
theorem gX7_back_X6_undo : GoodIn wsX7_back (wsV RX7 112 RX6 yX6_undo wsX6_undo) := goodIn_app (goodIn_of _ (by decide +kernel)) ggX7_back_X6_undo
theorem dX7_back_0 : decode cX7_back 0 = .ok (.aload_n 0, 1) := by decide +kernel
theorem dX7_back_1 : decode cX7_back 1 = .ok (.iload_n 1, 1) := by decide +kernel
theorem dX7_back_2 : decode cX7_back 2 = .ok (.invokevirtual 98, 3) := by decide +kernel
theorem dX7_back_5 : decode cX7_back 5 = .ok (.ifCond .ne 5, 3) := by decide +kernel
theorem dX7_back_8 : decode cX7_back 8 = .ok (.iconst (-1), 1) := by decide +kernel
theorem dX7_back_9 : decode cX7_back 9 = .ok (.ireturn, 1) := by decide +kernel
theorem dX7_back_10 : decode cX7_back 10 = .ok (.aload_n 0, 1) := by decide +kernel
theorem dX7_back_11 : decode cX7_back 11 = .ok (.getfield 40, 3) := by decide +kernel
theorem dX7_back_14 : decode cX7_back 14 = .ok (.iload_n 1, 1) := by decide +kernel
theorem dX7_back_15 : decode cX7_back 15 = .ok (.iload_n 2, 1) := by decide +kernel
theorem dX7_back_16 : decode cX7_back 16 = .ok (.invokevirtual 101, 3) := by decide +kernel
theorem dX7_back_19 : decode cX7_back 19 = .ok (.istore_n 3, 1) := by decide +kernel
theorem dX7_back_20 : decode cX7_back 20 = .ok (.iload_n 3, 1) := by decide +kernel
theorem dX7_back_21 : decode cX7_back 21 = .ok (.iconst (-1), 1) := by decide +kernel
theorem dX7_back_22 : decode cX7_back 22 = .ok (.if_icmp .ne 5, 3) := by decide +kernel
theorem dX7_back_25 : decode cX7_back 25 = .ok (.iconst (-1), 1) := by decide +kernel
theorem dX7_back_26 : decode cX7_back 26 = .ok (.ireturn, 1) := by decide +kernel
theorem dX7_back_27 : decode cX7_back 27 = .ok (.aload_n 0, 1) := by decide +kernel
theorem dX7_back_28 : decode cX7_back 28 = .ok (.getfield 40, 3) := by decide +kernel
theorem dX7_back_31 : decode cX7_back 31 = .ok (.iload_n 1, 1) := by decide +kernel
theorem dX7_back_32 : decode cX7_back 32 = .ok (.iload_n 3, 1) := by decide +kernel
theorem dX7_back_33 : decode cX7_back 33 = .ok (.invokevirtual 105, 3) := by decide +kernel
theorem dX7_back_36 : decode cX7_back 36 = .ok (.aload_n 0, 1) := by decide +kernel
theorem dX7_back_37 : decode cX7_back 37 = .ok (.getfield 26, 3) := by decide +kernel
theorem dX7_back_40 : decode cX7_back 40 = .ok (.iload_n 1, 1) := by decide +kernel
theorem dX7_back_41 : decode cX7_back 41 = .ok (.aload_n 0, 1) := by decide +kernel
theorem dX7_back_42 : decode cX7_back 42 = .ok (.getfield 40, 3) := by decide +kernel
theorem dX7_back_45 : decode cX7_back 45 = .ok (.iload_n 3, 1) := by decide +kernel
theorem dX7_back_46 : decode cX7_back 46 = .ok (.invokevirtual 109, 3) := by decide +kernel
theorem dX7_back_49 : decode cX7_back 49 = .ok (.invokevirtual 112, 3) := by decide +kernel
theorem dX7_back_52 : decode cX7_back 52 = .ok (.ireturn, 1) := by decide +kernel
set_option maxRecDepth 20000 in
theorem ggX7_commit_X7_canEndOrGoBack : GoodIn wsX7_commit wsX7_canEndOrGoBack := goodIn_r _ [9, 2, 10, 11, 12, 13, 14, 15, 16, 17, 18, 19, 20, 21, 22, 23, 24, 25, 111, 112, 113, 114, 115, 116, 117, 118, 119, 120, 121] (by decide +kernel) (by decide +kernel)
set_option maxRecDepth 20000 in
theorem gX7_commit_X7_canEndOrGoBack : GoodIn wsX7_commit (wsV RX7 98 RX7 yX7_canEndOrGoBack wsX7_canEndOrGoBack) := goodIn_app (goodIn_of _ (by decide +kernel)) ggX7_commit_X7_canEndOrGoBack
set_option maxRecDepth 20000 in
theorem ggX7_commit_X6_keysOf : GoodIn wsX7_commit wsX6_keysOf := goodIn_r _ [30, 31, 32, 33, 34, 29, 35, 36, 37, 38, 39, 40, 41, 42, 122, 123, 124, 125, 126, 127, 128, 129] (by decide +kernel) (by decide +kernel)
set_option maxRecDepth 20000 in
theorem gX7_commit_X6_keysOf : GoodIn wsX7_commit (wsV RX7 115 RX6 yX6_keysOf wsX6_keysOf) := goodIn_app (goodIn_of _ (by decide +kernel)) ggX7_commit_X6_keysOf
set_option maxRecDepth 20000 in
theorem ggX7_commit_X0_parentOf : GoodIn wsX7_commit wsX0_parentOf := goodIn_r _ [46, 25, 118, 119, 120, 121] (by decide +kernel) (by decide +kernel)
set_option maxRecDepth 20000 in
theorem gX7_commit_X0_parentOf : GoodIn wsX7_commit (wsV RX7 118 RX0 yX0_parentOf wsX0_parentOf) := goodIn_app (goodIn_of _ (by decide +kernel)) ggX7_commit_X0_parentOf
set_option maxRecDepth 20000 in
theorem ggX7_commit_X3_now : GoodIn wsX7_commit wsX3_now := goodIn_r _ [51, 52, 130, 131] (by decide +kernel) (by decide +kernel)
set_option maxRecDepth 20000 in
theorem gX7_commit_X3_now : GoodIn wsX7_commit (wsV RX7 121 RX3 yX3_now wsX3_now) := goodIn_app (goodIn_of _ (by decide +kernel)) ggX7_commit_X3_now
set_option maxRecDepth 20000 in
theorem ggX7_commit_X6_handOver : GoodIn wsX7_commit wsX6_handOver := goodIn_r _ [56, 36, 37, 57, 122, 123, 124, 125, 126, 127, 128, 129] (by decide +kernel) (by decide +kernel)
set_option maxRecDepth 20000 in
theorem gX7_commit_X6_handOver : GoodIn wsX7_commit (wsV RX7 125 RX6 yX6_handOver wsX6_handOver) := goodIn_app (goodIn_of _ (by decide +kernel)) ggX7_commit_X6_handOver
set_option maxRecDepth 20000 in
theorem ggX7_commit_X1_handOver : GoodIn wsX7_commit wsX1_handOver := goodIn_r _ [62, 63, 64, 65, 66, 67, 68, 69, 70, 71, 72, 73, 61, 74, 132, 133, 134, 135] (by decide +kernel) (by decide +kernel)
set_option maxRecDepth 20000 in
theorem gX7_commit_X1_handOver : GoodIn wsX7_commit (wsV RX7 128 RX1 yX1_handOver wsX1_handOver) := goodIn_app (goodIn_of _ (by decide +kernel)) ggX7_commit_X1_handOver
set_option maxRecDepth 20000 in
theorem ggX7_commit_X7_end : GoodIn wsX7_commit wsX7_end := goodIn_r _ [78, 2, 1, 4, 3, 79, 80, 81, 82, 13, 83, 15, 84, 85, 86, 29, 87, 88, 89, 90, 91, 36, 37, 57, 92, 93, 94, 61, 95, 63, 64, 96, 97, 98, 50, 99, 100, 101, 102, 103, 52, 104, 105, 106, 107, 108, 109, 110, 111, 112, 113, 114, 115, 116, 117, 118, 119, 120, 121, 122, 123, 124, 125, 126, 127, 128, 129, 132, 133, 134, 135, 130, 131, 136, 137] (by decide +kernel) (by decide +kernel)
set_option maxRecDepth 20000 in
theorem gX7_commit_X7_end : GoodIn wsX7_commit (wsV RX7 130 RX7 yX7_end wsX7_end) := goodIn_app (goodIn_of _ (by decide +kernel)) ggX7_commit_X7_end
end
section
theorem dX7_commit_0 : decode cX7_commit 0 = .ok (.aload_n 0, 1) := by decide +kernel
theorem dX7_commit_1 : decode cX7_commit 1 = .ok (.iload_n 1, 1) := by decide +kernel
theorem dX7_commit_2 : decode cX7_commit 2 = .ok (.invokevirtual 98, 3) := by decide +kernel
theorem dX7_commit_5 : decode cX7_commit 5 = .ok (.ifCond .ne 5, 3) := by decide +kernel
theorem dX7_commit_8 : decode cX7_commit 8 = .ok (.iconst (-1), 1) := by decide +kernel
theorem dX7_commit_9 : decode cX7_commit 9 = .ok (.ireturn, 1) := by decide +kernel
theorem dX7_commit_10 : decode cX7_commit 10 = .ok (.aload_n 0, 1) := by decide +kernel
theorem dX7_commit_11 : decode cX7_commit 11 = .ok (.getfield 26, 3) := by decide +kernel
theorem dX7_commit_14 : decode cX7_commit 14 = .ok (.iload_n 1, 1) := by decide +kernel
theorem dX7_commit_15 : decode cX7_commit 15 = .ok (.invokevirtual 115, 3) := by decide +kernel
theorem dX7_commit_18 : decode cX7_commit 18 = .ok (.istore_n 2, 1) := by decide +kernel
theorem dX7_commit_19 : decode cX7_commit 19 = .ok (.aload_n 0, 1) := by decide +kernel
theorem dX7_commit_20 : decode cX7_commit 20 = .ok (.getfield 10, 3) := by decide +kernel
theorem dX7_commit_23 : decode cX7_commit 23 = .ok (.iload_n 1, 1) := by decide +kernel
theorem dX7_commit_24 : decode cX7_commit 24 = .ok (.invokevirtual 118, 3) := by decide +kernel
theorem dX7_commit_27 : decode cX7_commit 27 = .ok (.istore_n 3, 1) := by decide +kernel
theorem dX7_commit_28 : decode cX7_commit 28 = .ok (.aload_n 0, 1) := by decide +kernel
theorem dX7_commit_29 : decode cX7_commit 29 = .ok (.getfield 26, 3) := by decide +kernel
theorem dX7_commit_32 : decode cX7_commit 32 = .ok (.iload_n 1, 1) := by decide +kernel
theorem dX7_commit_33 : decode cX7_commit 33 = .ok (.iload_n 3, 1) := by decide +kernel
theorem dX7_commit_34 : decode cX7_commit 34 = .ok (.aload_n 0, 1) := by decide +kernel
theorem dX7_commit_35 : decode cX7_commit 35 = .ok (.getfield 40, 3) := by decide +kernel
theorem dX7_commit_38 : decode cX7_commit 38 = .ok (.invokevirtual 121, 3) := by decide +kernel
theorem dX7_commit_41 : decode cX7_commit 41 = .ok (.invokevirtual 125, 3) := by decide +kernel
theorem dX7_commit_44 : decode cX7_commit 44 = .ok (.iload_n 3, 1) := by decide +kernel
theorem dX7_commit_45 : decode cX7_commit 45 = .ok (.ifCond .eq 12, 3) := by decide +kernel
theorem dX7_commit_48 : decode cX7_commit 48 = .ok (.aload_n 0, 1) := by decide +kernel
theorem dX7_commit_49 : decode cX7_commit 49 = .ok (.getfield 33, 3) := by decide +kernel
theorem dX7_commit_52 : decode cX7_commit 52 = .ok (.iload_n 1, 1) := by decide +kernel
theorem dX7_commit_53 : decode cX7_commit 53 = .ok (.iload_n 3, 1) := by decide +kernel
theorem dX7_commit_54 : decode cX7_commit 54 = .ok (.invokevirtual 128, 3) := by decide +kernel
theorem dX7_commit_57 : decode cX7_commit 57 = .ok (.aload_n 0, 1) := by decide +kernel
theorem dX7_commit_58 : decode cX7_commit 58 = .ok (.iload_n 1, 1) := by decide +kernel
theorem dX7_commit_59 : decode cX7_commit 59 = .ok (.iconst 1, 1) := by decide +kernel
theorem dX7_commit_60 : decode cX7_commit 60 = .ok (.invokevirtual 130, 3) := by decide +kernel
theorem dX7_commit_63 : decode cX7_commit 63 = .ok (.iload_n 2, 1) := by decide +kernel
theorem dX7_commit_64 : decode cX7_commit 64 = .ok (.ireturn, 1) := by decide +kernel
set_option maxRecDepth 20000 in
theorem ggX7_abort_X0_isActive : GoodIn wsX7_abort wsX0_isActive := goodIn_r _ [6, 7, 8, 9, 10, 5, 11, 12, 83, 84, 85, 86] (by decide +kernel) (by decide +kernel)
set_option maxRecDepth 20000 in
theorem gX7_abort_X0_isActive : GoodIn wsX7_abort (wsV RX7 93 RX0 yX0_isActive wsX0_isActive) := goodIn_app (goodIn_of _ (by decide +kernel)) ggX7_abort_X0_isActive
set_option maxRecDepth 20000 in
theorem ggX7_abort_X7_end : GoodIn wsX7_abort wsX7_end := goodIn_r _ [17, 1, 18, 19, 20, 21, 22, 23, 24, 5, 25, 7, 26, 27, 28, 29, 30, 31, 32, 33, 34, 35, 36, 37, 38, 39, 40, 41, 42, 43, 44, 45, 46, 47, 48, 49, 50, 51, 52, 53, 54, 55, 56, 57, 58, 59, 60, 61, 76, 77, 78, 79, 80, 81, 82, 83, 84, 85, 86, 87, 88, 89, 90, 91, 92, 93, 94, 95, 96, 97, 98, 99, 100, 101, 102] (by decide +kernel) (by decide +kernel)
set_option maxRecDepth 20000 in
theorem gX7_abort_X7_end : GoodIn wsX7_abort (wsV RX7 130 RX7 yX7_end wsX7_end) := goodIn_app (goodIn_of _ (by decide +kernel)) ggX7_abort_X7_end
set_option maxRecDepth 20000 in
theorem ggX7_abort_X0_opened : GoodIn wsX7_abort wsX0_opened := goodIn_r _ [65, 12, 83, 84, 85, 86] (by decide +kernel) (by decide +kernel)
set_option maxRecDepth 20000 in
theorem gX7_abort_X0_opened : GoodIn wsX7_abort (wsV RX7 133 RX0 yX0_opened wsX0_opened) := goodIn_app (goodIn_of _ (by decide +kernel)) ggX7_abort_X0_opened
set_option maxRecDepth 20000 in
theorem ggX7_abort_X0_isLeftBehind : GoodIn wsX7_abort wsX0_isLeftBehind := goodIn_r _ [69, 70, 71, 3, 4, 5, 6, 7, 8, 9, 10, 11, 12, 72, 73, 74, 75, 83, 84, 85, 86] (by decide +kernel) (by decide +kernel)
set_option maxRecDepth 20000 in
theorem gX7_abort_X0_isLeftBehind : GoodIn wsX7_abort (wsV RX7 136 RX0 yX0_isLeftBehind wsX0_isLeftBehind) := goodIn_app (goodIn_of _ (by decide +kernel)) ggX7_abort_X0_isLeftBehind
theorem dX7_abort_0 : decode cX7_abort 0 = .ok (.aload_n 0, 1) := by decide +kernel
theorem dX7_abort_1 : decode cX7_abort 1 = .ok (.getfield 10, 3) := by decide +kernel
theorem dX7_abort_4 : decode cX7_abort 4 = .ok (.iload_n 1, 1) := by decide +kernel
theorem dX7_abort_5 : decode cX7_abort 5 = .ok (.invokevirtual 93, 3) := by decide +kernel
theorem dX7_abort_8 : decode cX7_abort 8 = .ok (.ifCond .ne 5, 3) := by decide +kernel
theorem dX7_abort_11 : decode cX7_abort 11 = .ok (.iconst (-1), 1) := by decide +kernel
theorem dX7_abort_12 : decode cX7_abort 12 = .ok (.ireturn, 1) := by decide +kernel
theorem dX7_abort_13 : decode cX7_abort 13 = .ok (.aload_n 0, 1) := by decide +kernel
theorem dX7_abort_14 : decode cX7_abort 14 = .ok (.iload_n 1, 1) := by decide +kernel
theorem dX7_abort_15 : decode cX7_abort 15 = .ok (.iconst 2, 1) := by decide +kernel
theorem dX7_abort_16 : decode cX7_abort 16 = .ok (.invokevirtual 130, 3) := by decide +kernel
theorem dX7_abort_19 : decode cX7_abort 19 = .ok (.iconst 1, 1) := by decide +kernel
theorem dX7_abort_20 : decode cX7_abort 20 = .ok (.istore_n 2, 1) := by decide +kernel
theorem dX7_abort_21 : decode cX7_abort 21 = .ok (.iload_n 1, 1) := by decide +kernel
theorem dX7_abort_22 : decode cX7_abort 22 = .ok (.iconst 1, 1) := by decide +kernel
theorem dX7_abort_23 : decode cX7_abort 23 = .ok (.iadd, 1) := by decide +kernel
theorem dX7_abort_24 : decode cX7_abort 24 = .ok (.istore_n 3, 1) := by decide +kernel
theorem dX7_abort_25 : decode cX7_abort 25 = .ok (.iload_n 3, 1) := by decide +kernel
theorem dX7_abort_26 : decode cX7_abort 26 = .ok (.aload_n 0, 1) := by decide +kernel
theorem dX7_abort_27 : decode cX7_abort 27 = .ok (.getfield 10, 3) := by decide +kernel
theorem dX7_abort_30 : decode cX7_abort 30 = .ok (.invokevirtual 133, 3) := by decide +kernel
theorem dX7_abort_33 : decode cX7_abort 33 = .ok (.if_icmp .gt 29, 3) := by decide +kernel
theorem dX7_abort_36 : decode cX7_abort 36 = .ok (.aload_n 0, 1) := by decide +kernel
theorem dX7_abort_37 : decode cX7_abort 37 = .ok (.getfield 10, 3) := by decide +kernel
theorem dX7_abort_40 : decode cX7_abort 40 = .ok (.iload_n 3, 1) := by decide +kernel
theorem dX7_abort_41 : decode cX7_abort 41 = .ok (.invokevirtual 136, 3) := by decide +kernel
theorem dX7_abort_44 : decode cX7_abort 44 = .ok (.ifCond .eq 12, 3) := by decide +kernel
theorem dX7_abort_47 : decode cX7_abort 47 = .ok (.aload_n 0, 1) := by decide +kernel
theorem dX7_abort_48 : decode cX7_abort 48 = .ok (.iload_n 3, 1) := by decide +kernel
theorem dX7_abort_49 : decode cX7_abort 49 = .ok (.iconst 2, 1) := by decide +kernel
theorem dX7_abort_50 : decode cX7_abort 50 = .ok (.invokevirtual 130, 3) := by decide +kernel
theorem dX7_abort_53 : decode cX7_abort 53 = .ok (.iinc 2 1, 3) := by decide +kernel
theorem dX7_abort_56 : decode cX7_abort 56 = .ok (.iinc 3 1, 3) := by decide +kernel
theorem dX7_abort_59 : decode cX7_abort 59 = .ok (.goto (-34), 3) := by decide +kernel
theorem dX7_abort_62 : decode cX7_abort 62 = .ok (.iload_n 2, 1) := by decide +kernel
theorem dX7_abort_63 : decode cX7_abort 63 = .ok (.ireturn, 1) := by decide +kernel
set_option maxRecDepth 20000 in
theorem ggX7_state_X0_exists : GoodIn wsX7_state wsX0_exists := goodIn_r _ [6, 7, 20, 21, 22, 23] (by decide +kernel) (by decide +kernel)
set_option maxRecDepth 20000 in
theorem gX7_state_X0_exists : GoodIn wsX7_state (wsV RX7 139 RX0 yX0_exists wsX0_exists) := goodIn_app (goodIn_of _ (by decide +kernel)) ggX7_state_X0_exists
set_option maxRecDepth 20000 in
theorem ggX7_state_X0_stateOf : GoodIn wsX7_state wsX0_stateOf := goodIn_r _ [11, 12, 20, 21, 22, 23] (by decide +kernel) (by decide +kernel)
set_option maxRecDepth 20000 in
theorem gX7_state_X0_stateOf : GoodIn wsX7_state (wsV RX7 142 RX0 yX0_stateOf wsX0_stateOf) := goodIn_app (goodIn_of _ (by decide +kernel)) ggX7_state_X0_stateOf
theorem dX7_state_0 : decode cX7_state 0 = .ok (.aload_n 0, 1) := by decide +kernel
theorem dX7_state_1 : decode cX7_state 1 = .ok (.getfield 10, 3) := by decide +kernel
theorem dX7_state_4 : decode cX7_state 4 = .ok (.iload_n 1, 1) := by decide +kernel
theorem dX7_state_5 : decode cX7_state 5 = .ok (.invokevirtual 139, 3) := by decide +kernel
theorem dX7_state_8 : decode cX7_state 8 = .ok (.ifCond .eq 14, 3) := by decide +kernel
theorem dX7_state_11 : decode cX7_state 11 = .ok (.aload_n 0, 1) := by decide +kernel
theorem dX7_state_12 : decode cX7_state 12 = .ok (.getfield 10, 3) := by decide +kernel
theorem dX7_state_15 : decode cX7_state 15 = .ok (.iload_n 1, 1) := by decide +kernel
theorem dX7_state_16 : decode cX7_state 16 = .ok (.invokevirtual 142, 3) := by decide +kernel
theorem dX7_state_19 : decode cX7_state 19 = .ok (.goto 4, 3) := by decide +kernel
theorem dX7_state_22 : decode cX7_state 22 = .ok (.iconst (-1), 1) := by decide +kernel
theorem dX7_state_23 : decode cX7_state 23 = .ok (.ireturn, 1) := by decide +kernel
set_option maxRecDepth 20000 in
theorem ggX7_told_X0_exists : GoodIn wsX7_told wsX0_exists := goodIn_r _ [9, 10, 60, 61, 62, 63] (by decide +kernel) (by decide +kernel)
set_option maxRecDepth 20000 in
theorem gX7_told_X0_exists : GoodIn wsX7_told (wsV RX7 139 RX0 yX0_exists wsX0_exists) := goodIn_app (goodIn_of _ (by decide +kernel)) ggX7_told_X0_exists
set_option maxRecDepth 20000 in
theorem ggX7_told_X0_parentOf : GoodIn wsX7_told wsX0_parentOf := goodIn_r _ [14, 15, 60, 61, 62, 63] (by decide +kernel) (by decide +kernel)
set_option maxRecDepth 20000 in
theorem gX7_told_X0_parentOf : GoodIn wsX7_told (wsV RX7 118 RX0 yX0_parentOf wsX0_parentOf) := goodIn_app (goodIn_of _ (by decide +kernel)) ggX7_told_X0_parentOf
set_option maxRecDepth 20000 in
theorem ggX7_told_X0_activeChildrenOf : GoodIn wsX7_told wsX0_activeChildrenOf := goodIn_r _ [19, 10, 15, 20, 60, 61, 62, 63] (by decide +kernel) (by decide +kernel)
set_option maxRecDepth 20000 in
theorem gX7_told_X0_activeChildrenOf : GoodIn wsX7_told (wsV RX7 145 RX0 yX0_activeChildrenOf wsX0_activeChildrenOf) := goodIn_app (goodIn_of _ (by decide +kernel)) ggX7_told_X0_activeChildrenOf
set_option maxRecDepth 20000 in
theorem ggX7_told_X3_countOf : GoodIn wsX7_told wsX3_countOf := goodIn_r _ [25, 26, 27, 64, 65] (by decide +kernel) (by decide +kernel)
set_option maxRecDepth 20000 in
theorem gX7_told_X3_countOf : GoodIn wsX7_told (wsV RX7 148 RX3 yX3_countOf wsX3_countOf) := goodIn_app (goodIn_of _ (by decide +kernel)) ggX7_told_X3_countOf
set_option maxRecDepth 20000 in
theorem ggX7_told_X6_keysOf : GoodIn wsX7_told wsX6_keysOf := goodIn_r _ [32, 33, 34, 35, 36, 31, 37, 38, 39, 40, 41, 42, 43, 44, 66, 67, 68, 69, 70, 71, 72, 73] (by decide +kernel) (by decide +kernel)
set_option maxRecDepth 20000 in
theorem gX7_told_X6_keysOf : GoodIn wsX7_told (wsV RX7 115 RX6 yX6_keysOf wsX6_keysOf) := goodIn_app (goodIn_of _ (by decide +kernel)) ggX7_told_X6_keysOf
set_option maxRecDepth 20000 in
theorem ggX7_told_X1_countOf : GoodIn wsX7_told wsX1_countOf := goodIn_r _ [49, 50, 51, 52, 74, 75, 76, 77] (by decide +kernel) (by decide +kernel)
set_option maxRecDepth 20000 in
theorem gX7_told_X1_countOf : GoodIn wsX7_told (wsV RX7 151 RX1 yX1_countOf wsX1_countOf) := goodIn_app (goodIn_of _ (by decide +kernel)) ggX7_told_X1_countOf
theorem dX7_told_0 : decode cX7_told 0 = .ok (.aload_n 0, 1) := by decide +kernel
theorem dX7_told_1 : decode cX7_told 1 = .ok (.getfield 10, 3) := by decide +kernel
theorem dX7_told_4 : decode cX7_told 4 = .ok (.iload_n 1, 1) := by decide +kernel
theorem dX7_told_5 : decode cX7_told 5 = .ok (.invokevirtual 139, 3) := by decide +kernel
theorem dX7_told_8 : decode cX7_told 8 = .ok (.ifCond .ne 5, 3) := by decide +kernel
theorem dX7_told_11 : decode cX7_told 11 = .ok (.iconst (-1), 1) := by decide +kernel
theorem dX7_told_12 : decode cX7_told 12 = .ok (.ireturn, 1) := by decide +kernel
theorem dX7_told_13 : decode cX7_told 13 = .ok (.iload_n 2, 1) := by decide +kernel
theorem dX7_told_14 : decode cX7_told 14 = .ok (.tableswitch 94 0 5 #[38, 47, 56, 65, 74, 84], 38) := by decide +kernel
theorem dX7_told_52 : decode cX7_told 52 = .ok (.aload_n 0, 1) := by decide +kernel
theorem dX7_told_53 : decode cX7_told 53 = .ok (.getfield 10, 3) := by decide +kernel
theorem dX7_told_56 : decode cX7_told 56 = .ok (.iload_n 1, 1) := by decide +kernel
theorem dX7_told_57 : decode cX7_told 57 = .ok (.invokevirtual 118, 3) := by decide +kernel
theorem dX7_told_60 : decode cX7_told 60 = .ok (.ireturn, 1) := by decide +kernel
theorem dX7_told_61 : decode cX7_told 61 = .ok (.aload_n 0, 1) := by decide +kernel
theorem dX7_told_62 : decode cX7_told 62 = .ok (.getfield 10, 3) := by decide +kernel
theorem dX7_told_65 : decode cX7_told 65 = .ok (.iload_n 1, 1) := by decide +kernel
theorem dX7_told_66 : decode cX7_told 66 = .ok (.invokevirtual 145, 3) := by decide +kernel
theorem dX7_told_69 : decode cX7_told 69 = .ok (.ireturn, 1) := by decide +kernel
theorem dX7_told_70 : decode cX7_told 70 = .ok (.aload_n 0, 1) := by decide +kernel
theorem dX7_told_71 : decode cX7_told 71 = .ok (.getfield 40, 3) := by decide +kernel
theorem dX7_told_74 : decode cX7_told 74 = .ok (.iload_n 1, 1) := by decide +kernel
theorem dX7_told_75 : decode cX7_told 75 = .ok (.invokevirtual 148, 3) := by decide +kernel
theorem dX7_told_78 : decode cX7_told 78 = .ok (.ireturn, 1) := by decide +kernel
theorem dX7_told_79 : decode cX7_told 79 = .ok (.aload_n 0, 1) := by decide +kernel
theorem dX7_told_80 : decode cX7_told 80 = .ok (.getfield 26, 3) := by decide +kernel
theorem dX7_told_83 : decode cX7_told 83 = .ok (.iload_n 1, 1) := by decide +kernel
theorem dX7_told_84 : decode cX7_told 84 = .ok (.invokevirtual 115, 3) := by decide +kernel
theorem dX7_told_87 : decode cX7_told 87 = .ok (.ireturn, 1) := by decide +kernel
theorem dX7_told_88 : decode cX7_told 88 = .ok (.aload_n 0, 1) := by decide +kernel
theorem dX7_told_89 : decode cX7_told 89 = .ok (.getfield 33, 3) := by decide +kernel
theorem dX7_told_92 : decode cX7_told 92 = .ok (.iload_n 1, 1) := by decide +kernel
theorem dX7_told_93 : decode cX7_told 93 = .ok (.iconst 1, 1) := by decide +kernel
theorem dX7_told_94 : decode cX7_told 94 = .ok (.invokevirtual 151, 3) := by decide +kernel
theorem dX7_told_97 : decode cX7_told 97 = .ok (.ireturn, 1) := by decide +kernel
theorem dX7_told_98 : decode cX7_told 98 = .ok (.aload_n 0, 1) := by decide +kernel
theorem dX7_told_99 : decode cX7_told 99 = .ok (.getfield 33, 3) := by decide +kernel
theorem dX7_told_102 : decode cX7_told 102 = .ok (.iload_n 1, 1) := by decide +kernel
theorem dX7_told_103 : decode cX7_told 103 = .ok (.iconst 2, 1) := by decide +kernel
theorem dX7_told_104 : decode cX7_told 104 = .ok (.invokevirtual 151, 3) := by decide +kernel
theorem dX7_told_107 : decode cX7_told 107 = .ok (.ireturn, 1) := by decide +kernel
theorem dX7_told_108 : decode cX7_told 108 = .ok (.iconst (-1), 1) := by decide +kernel
theorem dX7_told_109 : decode cX7_told 109 = .ok (.ireturn, 1) := by decide +kernel
set_option maxRecDepth 20000 in
theorem ggX7_held_X0_isActive : GoodIn wsX7_held wsX0_isActive := goodIn_r _ [8, 9, 10, 11, 12, 7, 13, 14, 42, 43, 44, 45] (by decide +kernel) (by decide +kernel)
set_option maxRecDepth 20000 in
theorem gX7_held_X0_isActive : GoodIn wsX7_held (wsV RX7 93 RX0 yX0_isActive wsX0_isActive) := goodIn_app (goodIn_of _ (by decide +kernel)) ggX7_held_X0_isActive
set_option maxRecDepth 20000 in
theorem ggX7_held_X2_find : GoodIn wsX7_held wsX2_find := goodIn_r _ [19, 20, 21, 46, 47] (by decide +kernel) (by decide +kernel)
set_option maxRecDepth 20000 in
theorem gX7_held_X2_find : GoodIn wsX7_held (wsV RX7 153 RX2 yX2_find wsX2_find) := goodIn_app (goodIn_of _ (by decide +kernel)) ggX7_held_X2_find
set_option maxRecDepth 20000 in
theorem ggX7_held_X1_kindOf : GoodIn wsX7_held wsX1_kindOf := goodIn_r _ [26, 27, 28, 29, 30, 25, 31, 32, 33, 34, 48, 49, 50, 51] (by decide +kernel) (by decide +kernel)
set_option maxRecDepth 20000 in
theorem gX7_held_X1_kindOf : GoodIn wsX7_held (wsV RX7 155 RX1 yX1_kindOf wsX1_kindOf) := goodIn_app (goodIn_of _ (by decide +kernel)) ggX7_held_X1_kindOf
theorem dX7_held_0 : decode cX7_held 0 = .ok (.aload_n 0, 1) := by decide +kernel
theorem dX7_held_1 : decode cX7_held 1 = .ok (.getfield 10, 3) := by decide +kernel
theorem dX7_held_4 : decode cX7_held 4 = .ok (.iload_n 1, 1) := by decide +kernel
theorem dX7_held_5 : decode cX7_held 5 = .ok (.invokevirtual 93, 3) := by decide +kernel
theorem dX7_held_8 : decode cX7_held 8 = .ok (.ifCond .ne 5, 3) := by decide +kernel
theorem dX7_held_11 : decode cX7_held 11 = .ok (.iconst (-1), 1) := by decide +kernel
theorem dX7_held_12 : decode cX7_held 12 = .ok (.ireturn, 1) := by decide +kernel
theorem dX7_held_13 : decode cX7_held 13 = .ok (.aload_n 0, 1) := by decide +kernel
theorem dX7_held_14 : decode cX7_held 14 = .ok (.getfield 33, 3) := by decide +kernel
theorem dX7_held_17 : decode cX7_held 17 = .ok (.iload_n 1, 1) := by decide +kernel
theorem dX7_held_18 : decode cX7_held 18 = .ok (.aload_n 0, 1) := by decide +kernel
theorem dX7_held_19 : decode cX7_held 19 = .ok (.getfield 19, 3) := by decide +kernel
theorem dX7_held_22 : decode cX7_held 22 = .ok (.iload_n 2, 1) := by decide +kernel
theorem dX7_held_23 : decode cX7_held 23 = .ok (.invokevirtual 153, 3) := by decide +kernel
theorem dX7_held_26 : decode cX7_held 26 = .ok (.invokevirtual 155, 3) := by decide +kernel
theorem dX7_held_29 : decode cX7_held 29 = .ok (.ireturn, 1) := by decide +kernel
set_option maxRecDepth 20000 in
theorem ggX7_blocker_X0_isActive : GoodIn wsX7_blocker wsX0_isActive := goodIn_r _ [7, 8, 9, 10, 11, 6, 12, 13, 57, 58, 59, 60] (by decide +kernel) (by decide +kernel)
set_option maxRecDepth 20000 in
theorem gX7_blocker_X0_isActive : GoodIn wsX7_blocker (wsV RX7 93 RX0 yX0_isActive wsX0_isActive) := goodIn_app (goodIn_of _ (by decide +kernel)) ggX7_blocker_X0_isActive
set_option maxRecDepth 20000 in
theorem ggX7_blocker_X2_find : GoodIn wsX7_blocker wsX2_find := goodIn_r _ [18, 19, 20, 61, 62] (by decide +kernel) (by decide +kernel)
set_option maxRecDepth 20000 in
theorem gX7_blocker_X2_find : GoodIn wsX7_blocker (wsV RX7 153 RX2 yX2_find wsX2_find) := goodIn_app (goodIn_of _ (by decide +kernel)) ggX7_blocker_X2_find
set_option maxRecDepth 20000 in
theorem ggX7_blocker_X7_leastInTheWay : GoodIn wsX7_blocker wsX7_leastInTheWay := goodIn_r _ [25, 1, 26, 27, 28, 29, 6, 30, 13, 31, 32, 33, 34, 35, 36, 37, 38, 39, 40, 41, 42, 43, 44, 45, 46, 47, 48, 49, 50, 51, 52, 53, 54, 55, 56, 57, 58, 59, 60, 63, 64, 65, 66] (by decide +kernel) (by decide +kernel)
set_option maxRecDepth 20000 in
theorem gX7_blocker_X7_leastInTheWay : GoodIn wsX7_blocker (wsV RX7 158 RX7 yX7_leastInTheWay wsX7_leastInTheWay) := goodIn_app (goodIn_of _ (by decide +kernel)) ggX7_blocker_X7_leastInTheWay
theorem dX7_blocker_0 : decode cX7_blocker 0 = .ok (.aload_n 0, 1) := by decide +kernel
theorem dX7_blocker_1 : decode cX7_blocker 1 = .ok (.getfield 10, 3) := by decide +kernel
theorem dX7_blocker_4 : decode cX7_blocker 4 = .ok (.iload_n 1, 1) := by decide +kernel
theorem dX7_blocker_5 : decode cX7_blocker 5 = .ok (.invokevirtual 93, 3) := by decide +kernel
theorem dX7_blocker_8 : decode cX7_blocker 8 = .ok (.ifCond .ne 5, 3) := by decide +kernel
theorem dX7_blocker_11 : decode cX7_blocker 11 = .ok (.iconst (-1), 1) := by decide +kernel
theorem dX7_blocker_12 : decode cX7_blocker 12 = .ok (.ireturn, 1) := by decide +kernel
theorem dX7_blocker_13 : decode cX7_blocker 13 = .ok (.aload_n 0, 1) := by decide +kernel
theorem dX7_blocker_14 : decode cX7_blocker 14 = .ok (.iload_n 1, 1) := by decide +kernel
theorem dX7_blocker_15 : decode cX7_blocker 15 = .ok (.aload_n 0, 1) := by decide +kernel
theorem dX7_blocker_16 : decode cX7_blocker 16 = .ok (.getfield 19, 3) := by decide +kernel
theorem dX7_blocker_19 : decode cX7_blocker 19 = .ok (.iload_n 2, 1) := by decide +kernel
theorem dX7_blocker_20 : decode cX7_blocker 20 = .ok (.invokevirtual 153, 3) := by decide +kernel
theorem dX7_blocker_23 : decode cX7_blocker 23 = .ok (.iload_n 3, 1) := by decide +kernel
theorem dX7_blocker_24 : decode cX7_blocker 24 = .ok (.ifCond .eq 7, 3) := by decide +kernel
theorem dX7_blocker_27 : decode cX7_blocker 27 = .ok (.iconst 2, 1) := by decide +kernel
theorem dX7_blocker_28 : decode cX7_blocker 28 = .ok (.goto 4, 3) := by decide +kernel
theorem dX7_blocker_31 : decode cX7_blocker 31 = .ok (.iconst 1, 1) := by decide +kernel
theorem dX7_blocker_32 : decode cX7_blocker 32 = .ok (.invokevirtual 158, 3) := by decide +kernel
theorem dX7_blocker_35 : decode cX7_blocker 35 = .ok (.ireturn, 1) := by decide +kernel
set_option maxRecDepth 20000 in
theorem ggX7_waits_X0_isActive : GoodIn wsX7_waits wsX0_isActive := goodIn_r _ [7, 8, 9, 10, 11, 6, 12, 13, 65, 66, 67, 68] (by decide +kernel) (by decide +kernel)
set_option maxRecDepth 20000 in
theorem gX7_waits_X0_isActive : GoodIn wsX7_waits (wsV RX7 93 RX0 yX0_isActive wsX0_isActive) := goodIn_app (goodIn_of _ (by decide +kernel)) ggX7_waits_X0_isActive
set_option maxRecDepth 20000 in
theorem ggX7_waits_X5_has : GoodIn wsX7_waits wsX5_has := goodIn_r _ [18, 19, 69, 70] (by decide +kernel) (by decide +kernel)
set_option maxRecDepth 20000 in
theorem gX7_waits_X5_has : GoodIn wsX7_waits (wsV RX7 162 RX5 yX5_has wsX5_has) := goodIn_app (goodIn_of _ (by decide +kernel)) ggX7_waits_X5_has
set_option maxRecDepth 20000 in
theorem ggX7_waits_X5_slotOf : GoodIn wsX7_waits wsX5_slotOf := goodIn_r _ [23, 24, 69, 70] (by decide +kernel) (by decide +kernel)
set_option maxRecDepth 20000 in
theorem gX7_waits_X5_slotOf : GoodIn wsX7_waits (wsV RX7 165 RX5 yX5_slotOf wsX5_slotOf) := goodIn_app (goodIn_of _ (by decide +kernel)) ggX7_waits_X5_slotOf
set_option maxRecDepth 20000 in
theorem ggX7_waits_X5_kindOf : GoodIn wsX7_waits wsX5_kindOf := goodIn_r _ [28, 19, 69, 70] (by decide +kernel) (by decide +kernel)
set_option maxRecDepth 20000 in
theorem gX7_waits_X5_kindOf : GoodIn wsX7_waits (wsV RX7 168 RX5 yX5_kindOf wsX5_kindOf) := goodIn_app (goodIn_of _ (by decide +kernel)) ggX7_waits_X5_kindOf
set_option maxRecDepth 20000 in
theorem ggX7_waits_X7_leastInTheWay : GoodIn wsX7_waits wsX7_leastInTheWay := goodIn_r _ [33, 1, 34, 35, 36, 37, 6, 38, 13, 39, 40, 41, 42, 43, 44, 45, 46, 47, 48, 49, 50, 51, 52, 53, 54, 55, 56, 57, 58, 59, 60, 61, 62, 63, 64, 65, 66, 67, 68, 71, 72, 73, 74] (by decide +kernel) (by decide +kernel)
set_option maxRecDepth 20000 in
theorem gX7_waits_X7_leastInTheWay : GoodIn wsX7_waits (wsV RX7 158 RX7 yX7_leastInTheWay wsX7_leastInTheWay) := goodIn_app (goodIn_of _ (by decide +kernel)) ggX7_waits_X7_leastInTheWay
theorem dX7_waits_0 : decode cX7_waits 0 = .ok (.aload_n 0, 1) := by decide +kernel
theorem dX7_waits_1 : decode cX7_waits 1 = .ok (.getfield 10, 3) := by decide +kernel
theorem dX7_waits_4 : decode cX7_waits 4 = .ok (.iload_n 1, 1) := by decide +kernel
theorem dX7_waits_5 : decode cX7_waits 5 = .ok (.invokevirtual 93, 3) := by decide +kernel
theorem dX7_waits_8 : decode cX7_waits 8 = .ok (.ifCond .ne 5, 3) := by decide +kernel
theorem dX7_waits_11 : decode cX7_waits 11 = .ok (.iconst (-1), 1) := by decide +kernel
theorem dX7_waits_12 : decode cX7_waits 12 = .ok (.ireturn, 1) := by decide +kernel
theorem dX7_waits_13 : decode cX7_waits 13 = .ok (.aload_n 0, 1) := by decide +kernel
theorem dX7_waits_14 : decode cX7_waits 14 = .ok (.getfield 47, 3) := by decide +kernel
theorem dX7_waits_17 : decode cX7_waits 17 = .ok (.iload_n 1, 1) := by decide +kernel
theorem dX7_waits_18 : decode cX7_waits 18 = .ok (.invokevirtual 162, 3) := by decide +kernel
theorem dX7_waits_21 : decode cX7_waits 21 = .ok (.ifCond .eq 27, 3) := by decide +kernel
theorem dX7_waits_24 : decode cX7_waits 24 = .ok (.aload_n 0, 1) := by decide +kernel
theorem dX7_waits_25 : decode cX7_waits 25 = .ok (.iload_n 1, 1) := by decide +kernel
theorem dX7_waits_26 : decode cX7_waits 26 = .ok (.aload_n 0, 1) := by decide +kernel
theorem dX7_waits_27 : decode cX7_waits 27 = .ok (.getfield 47, 3) := by decide +kernel
theorem dX7_waits_30 : decode cX7_waits 30 = .ok (.iload_n 1, 1) := by decide +kernel
theorem dX7_waits_31 : decode cX7_waits 31 = .ok (.invokevirtual 165, 3) := by decide +kernel
theorem dX7_waits_34 : decode cX7_waits 34 = .ok (.aload_n 0, 1) := by decide +kernel
theorem dX7_waits_35 : decode cX7_waits 35 = .ok (.getfield 47, 3) := by decide +kernel
theorem dX7_waits_38 : decode cX7_waits 38 = .ok (.iload_n 1, 1) := by decide +kernel
theorem dX7_waits_39 : decode cX7_waits 39 = .ok (.invokevirtual 168, 3) := by decide +kernel
theorem dX7_waits_42 : decode cX7_waits 42 = .ok (.invokevirtual 158, 3) := by decide +kernel
theorem dX7_waits_45 : decode cX7_waits 45 = .ok (.goto 4, 3) := by decide +kernel
theorem dX7_waits_48 : decode cX7_waits 48 = .ok (.iconst 0, 1) := by decide +kernel
theorem dX7_waits_49 : decode cX7_waits 49 = .ok (.ireturn, 1) := by decide +kernel
set_option maxRecDepth 20000 in
theorem ggX7_ring_X7_drawWaits : GoodIn wsX7_ring wsX7_drawWaits := goodIn_r _ [7, 1, 2, 8, 9, 10, 11, 12, 13, 14, 15, 16, 17, 18, 19, 20, 21, 22, 23, 24, 25, 26, 27, 28, 29, 30, 31, 32, 33, 34, 35, 36, 37, 38, 39, 40, 41, 42, 43, 44, 45, 46, 47, 48, 49, 50, 51, 52, 53, 54, 55, 56, 57, 58, 59, 60, 61, 62, 63, 64, 65, 66, 67, 81, 82, 83, 84, 85, 86, 87, 88, 89, 90, 91, 92, 93, 94, 95, 96, 97, 98] (by decide +kernel) (by decide +kernel)
set_option maxRecDepth 20000 in
theorem gX7_ring_X7_drawWaits : GoodIn wsX7_ring (wsV RX7 170 RX7 yX7_drawWaits wsX7_drawWaits) := goodIn_app (goodIn_of _ (by decide +kernel)) ggX7_ring_X7_drawWaits
set_option maxRecDepth 20000 in
theorem ggX7_ring_X0_opened : GoodIn wsX7_ring wsX0_opened := goodIn_r _ [24, 25, 89, 90, 91, 92] (by decide +kernel) (by decide +kernel)
set_option maxRecDepth 20000 in
theorem gX7_ring_X0_opened : GoodIn wsX7_ring (wsV RX7 133 RX0 yX0_opened wsX0_opened) := goodIn_app (goodIn_of _ (by decide +kernel)) ggX7_ring_X0_opened
set_option maxRecDepth 20000 in
theorem ggX7_ring_X4_close : GoodIn wsX7_ring wsX4_close := goodIn_r _ [71, 72, 73, 74, 13, 75, 15, 76, 77, 78, 79, 88] (by decide +kernel) (by decide +kernel)
set_option maxRecDepth 20000 in
theorem gX7_ring_X4_close : GoodIn wsX7_ring (wsV RX7 173 RX4 yX4_close wsX4_close) := goodIn_app (goodIn_of _ (by decide +kernel)) ggX7_ring_X4_close
set_option maxRecDepth 20000 in
theorem ggX7_ring_X4_leads : GoodIn wsX7_ring wsX4_leads := goodIn_r _ [75, 15, 88] (by decide +kernel) (by decide +kernel)
set_option maxRecDepth 20000 in
theorem gX7_ring_X4_leads : GoodIn wsX7_ring (wsV RX7 177 RX4 yX4_leads wsX4_leads) := goodIn_app (goodIn_of _ (by decide +kernel)) ggX7_ring_X4_leads
theorem dX7_ring_0 : decode cX7_ring 0 = .ok (.aload_n 0, 1) := by decide +kernel
theorem dX7_ring_1 : decode cX7_ring 1 = .ok (.invokevirtual 170, 3) := by decide +kernel
theorem dX7_ring_4 : decode cX7_ring 4 = .ok (.aload_n 0, 1) := by decide +kernel
theorem dX7_ring_5 : decode cX7_ring 5 = .ok (.getfield 54, 3) := by decide +kernel
theorem dX7_ring_8 : decode cX7_ring 8 = .ok (.aload_n 0, 1) := by decide +kernel
theorem dX7_ring_9 : decode cX7_ring 9 = .ok (.getfield 10, 3) := by decide +kernel
theorem dX7_ring_12 : decode cX7_ring 12 = .ok (.invokevirtual 133, 3) := by decide +kernel
theorem dX7_ring_15 : decode cX7_ring 15 = .ok (.invokevirtual 173, 3) := by decide +kernel
theorem dX7_ring_18 : decode cX7_ring 18 = .ok (.iconst 1, 1) := by decide +kernel
theorem dX7_ring_19 : decode cX7_ring 19 = .ok (.istore_n 1, 1) := by decide +kernel
theorem dX7_ring_20 : decode cX7_ring 20 = .ok (.iload_n 1, 1) := by decide +kernel
theorem dX7_ring_21 : decode cX7_ring 21 = .ok (.aload_n 0, 1) := by decide +kernel
theorem dX7_ring_22 : decode cX7_ring 22 = .ok (.getfield 10, 3) := by decide +kernel
theorem dX7_ring_25 : decode cX7_ring 25 = .ok (.invokevirtual 133, 3) := by decide +kernel
theorem dX7_ring_28 : decode cX7_ring 28 = .ok (.if_icmp .gt 23, 3) := by decide +kernel
theorem dX7_ring_31 : decode cX7_ring 31 = .ok (.aload_n 0, 1) := by decide +kernel
theorem dX7_ring_32 : decode cX7_ring 32 = .ok (.getfield 54, 3) := by decide +kernel
theorem dX7_ring_35 : decode cX7_ring 35 = .ok (.iload_n 1, 1) := by decide +kernel
theorem dX7_ring_36 : decode cX7_ring 36 = .ok (.iload_n 1, 1) := by decide +kernel
theorem dX7_ring_37 : decode cX7_ring 37 = .ok (.invokevirtual 177, 3) := by decide +kernel
theorem dX7_ring_40 : decode cX7_ring 40 = .ok (.ifCond .eq 5, 3) := by decide +kernel
theorem dX7_ring_43 : decode cX7_ring 43 = .ok (.iload_n 1, 1) := by decide +kernel
theorem dX7_ring_44 : decode cX7_ring 44 = .ok (.ireturn, 1) := by decide +kernel
theorem dX7_ring_45 : decode cX7_ring 45 = .ok (.iinc 1 1, 3) := by decide +kernel
theorem dX7_ring_48 : decode cX7_ring 48 = .ok (.goto (-28), 3) := by decide +kernel
theorem dX7_ring_51 : decode cX7_ring 51 = .ok (.iconst 0, 1) := by decide +kernel
theorem dX7_ring_52 : decode cX7_ring 52 = .ok (.ireturn, 1) := by decide +kernel
set_option maxRecDepth 20000 in
theorem ggX7_size_X0_canBeAsked : GoodIn wsX7_size wsX0_canBeAsked := goodIn_r _ [8, 9, 10, 11, 7, 12, 13, 14, 15, 16, 17, 18, 65, 66, 67, 68] (by decide +kernel) (by decide +kernel)
set_option maxRecDepth 20000 in
theorem gX7_size_X0_canBeAsked : GoodIn wsX7_size (wsV RX7 58 RX0 yX0_canBeAsked wsX0_canBeAsked) := goodIn_app (goodIn_of _ (by decide +kernel)) ggX7_size_X0_canBeAsked
set_option maxRecDepth 20000 in
theorem ggX7_size_X7_look : GoodIn wsX7_size wsX7_look := goodIn_r _ [23, 1, 3, 24, 25, 26, 7, 27, 18, 28, 29, 30, 31, 32, 33, 34, 35, 36, 37, 38, 39, 40, 41, 42, 43, 44, 45, 46, 58, 59, 60, 61, 62, 63, 64, 65, 66, 67, 68, 69, 70, 71, 72, 73, 74, 75, 76] (by decide +kernel) (by decide +kernel)
set_option maxRecDepth 20000 in
theorem gX7_size_X7_look : GoodIn wsX7_size (wsV RX7 181 RX7 yX7_look wsX7_look) := goodIn_app (goodIn_of _ (by decide +kernel)) ggX7_size_X7_look
set_option maxRecDepth 20000 in
theorem ggX7_size_X2_count : GoodIn wsX7_size wsX2_count := goodIn_r _ [51, 52, 77, 78] (by decide +kernel) (by decide +kernel)
set_option maxRecDepth 20000 in
theorem gX7_size_X2_count : GoodIn wsX7_size (wsV RX7 184 RX2 yX2_count wsX2_count) := goodIn_app (goodIn_of _ (by decide +kernel)) ggX7_size_X2_count
set_option maxRecDepth 20000 in
theorem ggX7_size_X6_hasFound : GoodIn wsX7_size wsX6_hasFound := goodIn_r _ [56, 39, 57, 69, 70, 71, 72, 73, 74, 75, 76] (by decide +kernel) (by decide +kernel)
set_option maxRecDepth 20000 in
theorem gX7_size_X6_hasFound : GoodIn wsX7_size (wsV RX7 187 RX6 yX6_hasFound wsX6_hasFound) := goodIn_app (goodIn_of _ (by decide +kernel)) ggX7_size_X6_hasFound
theorem dX7_size_0 : decode cX7_size 0 = .ok (.aload_n 0, 1) := by decide +kernel
theorem dX7_size_1 : decode cX7_size 1 = .ok (.getfield 10, 3) := by decide +kernel
theorem dX7_size_4 : decode cX7_size 4 = .ok (.iload_n 1, 1) := by decide +kernel
theorem dX7_size_5 : decode cX7_size 5 = .ok (.invokevirtual 58, 3) := by decide +kernel
theorem dX7_size_8 : decode cX7_size 8 = .ok (.ifCond .ne 5, 3) := by decide +kernel
theorem dX7_size_11 : decode cX7_size 11 = .ok (.iconst (-1), 1) := by decide +kernel
theorem dX7_size_12 : decode cX7_size 12 = .ok (.ireturn, 1) := by decide +kernel
theorem dX7_size_13 : decode cX7_size 13 = .ok (.aload_n 0, 1) := by decide +kernel
theorem dX7_size_14 : decode cX7_size 14 = .ok (.iload_n 1, 1) := by decide +kernel
theorem dX7_size_15 : decode cX7_size 15 = .ok (.invokevirtual 181, 3) := by decide +kernel
theorem dX7_size_18 : decode cX7_size 18 = .ok (.iconst 0, 1) := by decide +kernel
theorem dX7_size_19 : decode cX7_size 19 = .ok (.istore_n 2, 1) := by decide +kernel
theorem dX7_size_20 : decode cX7_size 20 = .ok (.iconst 0, 1) := by decide +kernel
theorem dX7_size_21 : decode cX7_size 21 = .ok (.istore_n 3, 1) := by decide +kernel
theorem dX7_size_22 : decode cX7_size 22 = .ok (.iload_n 3, 1) := by decide +kernel
theorem dX7_size_23 : decode cX7_size 23 = .ok (.aload_n 0, 1) := by decide +kernel
theorem dX7_size_24 : decode cX7_size 24 = .ok (.getfield 19, 3) := by decide +kernel
theorem dX7_size_27 : decode cX7_size 27 = .ok (.invokevirtual 184, 3) := by decide +kernel
theorem dX7_size_30 : decode cX7_size 30 = .ok (.if_icmp .ge 23, 3) := by decide +kernel
theorem dX7_size_33 : decode cX7_size 33 = .ok (.aload_n 0, 1) := by decide +kernel
theorem dX7_size_34 : decode cX7_size 34 = .ok (.getfield 26, 3) := by decide +kernel
theorem dX7_size_37 : decode cX7_size 37 = .ok (.iload_n 3, 1) := by decide +kernel
theorem dX7_size_38 : decode cX7_size 38 = .ok (.invokevirtual 187, 3) := by decide +kernel
theorem dX7_size_41 : decode cX7_size 41 = .ok (.ifCond .eq 6, 3) := by decide +kernel
theorem dX7_size_44 : decode cX7_size 44 = .ok (.iinc 2 1, 3) := by decide +kernel
theorem dX7_size_47 : decode cX7_size 47 = .ok (.iinc 3 1, 3) := by decide +kernel
theorem dX7_size_50 : decode cX7_size 50 = .ok (.goto (-28), 3) := by decide +kernel
theorem dX7_size_53 : decode cX7_size 53 = .ok (.iload_n 2, 1) := by decide +kernel
theorem dX7_size_54 : decode cX7_size 54 = .ok (.ireturn, 1) := by decide +kernel
set_option maxRecDepth 20000 in
theorem ggX7_next_X0_canBeAsked : GoodIn wsX7_next wsX0_canBeAsked := goodIn_r _ [14, 15, 16, 17, 13, 18, 19, 20, 21, 22, 23, 24, 76, 77, 78, 79] (by decide +kernel) (by decide +kernel)
set_option maxRecDepth 20000 in
theorem gX7_next_X0_canBeAsked : GoodIn wsX7_next (wsV RX7 58 RX0 yX0_canBeAsked wsX0_canBeAsked) := goodIn_app (goodIn_of _ (by decide +kernel)) ggX7_next_X0_canBeAsked
set_option maxRecDepth 20000 in
theorem ggX7_next_X7_look : GoodIn wsX7_next wsX7_look := goodIn_r _ [29, 1, 5, 30, 31, 32, 13, 33, 24, 34, 35, 36, 37, 38, 39, 40, 41, 42, 43, 44, 45, 46, 47, 48, 49, 50, 51, 52, 69, 70, 71, 72, 73, 74, 75, 76, 77, 78, 79, 80, 81, 82, 83, 84, 85, 86, 87] (by decide +kernel) (by decide +kernel)
set_option maxRecDepth 20000 in
theorem gX7_next_X7_look : GoodIn wsX7_next (wsV RX7 181 RX7 yX7_look wsX7_look) := goodIn_app (goodIn_of _ (by decide +kernel)) ggX7_next_X7_look
set_option maxRecDepth 20000 in
theorem ggX7_next_X2_count : GoodIn wsX7_next wsX2_count := goodIn_r _ [57, 58, 88, 89] (by decide +kernel) (by decide +kernel)
set_option maxRecDepth 20000 in
theorem gX7_next_X2_count : GoodIn wsX7_next (wsV RX7 184 RX2 yX2_count wsX2_count) := goodIn_app (goodIn_of _ (by decide +kernel)) ggX7_next_X2_count
set_option maxRecDepth 20000 in
theorem ggX7_next_X2_at : GoodIn wsX7_next wsX2_at := goodIn_r _ [62, 63, 88, 89] (by decide +kernel) (by decide +kernel)
set_option maxRecDepth 20000 in
theorem gX7_next_X2_at : GoodIn wsX7_next (wsV RX7 192 RX2 yX2_at wsX2_at) := goodIn_app (goodIn_of _ (by decide +kernel)) ggX7_next_X2_at
set_option maxRecDepth 20000 in
theorem ggX7_next_X6_hasFound : GoodIn wsX7_next wsX6_hasFound := goodIn_r _ [67, 45, 68, 80, 81, 82, 83, 84, 85, 86, 87] (by decide +kernel) (by decide +kernel)
set_option maxRecDepth 20000 in
theorem gX7_next_X6_hasFound : GoodIn wsX7_next (wsV RX7 187 RX6 yX6_hasFound wsX6_hasFound) := goodIn_app (goodIn_of _ (by decide +kernel)) ggX7_next_X6_hasFound
theorem dX7_next_0 : decode cX7_next 0 = .ok (.aload_n 0, 1) := by decide +kernel
theorem dX7_next_1 : decode cX7_next 1 = .ok (.getfield 10, 3) := by decide +kernel
theorem dX7_next_4 : decode cX7_next 4 = .ok (.iload_n 1, 1) := by decide +kernel
theorem dX7_next_5 : decode cX7_next 5 = .ok (.invokevirtual 58, 3) := by decide +kernel
theorem dX7_next_8 : decode cX7_next 8 = .ok (.ifCond .ne 7, 3) := by decide +kernel
theorem dX7_next_11 : decode cX7_next 11 = .ok (.ldc2_w 70, 3) := by decide +kernel
theorem dX7_next_14 : decode cX7_next 14 = .ok (.lreturn, 1) := by decide +kernel
theorem dX7_next_15 : decode cX7_next 15 = .ok (.aload_n 0, 1) := by decide +kernel
theorem dX7_next_16 : decode cX7_next 16 = .ok (.iload_n 1, 1) := by decide +kernel
theorem dX7_next_17 : decode cX7_next 17 = .ok (.invokevirtual 181, 3) := by decide +kernel
theorem dX7_next_20 : decode cX7_next 20 = .ok (.ldc2_w 190, 3) := by decide +kernel
theorem dX7_next_23 : decode cX7_next 23 = .ok (.lstore_n 3, 1) := by decide +kernel
theorem dX7_next_24 : decode cX7_next 24 = .ok (.iconst 0, 1) := by decide +kernel
theorem dX7_next_25 : decode cX7_next 25 = .ok (.istore 5, 2) := by decide +kernel
theorem dX7_next_27 : decode cX7_next 27 = .ok (.iload 5, 2) := by decide +kernel
theorem dX7_next_29 : decode cX7_next 29 = .ok (.aload_n 0, 1) := by decide +kernel
theorem dX7_next_30 : decode cX7_next 30 = .ok (.getfield 19, 3) := by decide +kernel
theorem dX7_next_33 : decode cX7_next 33 = .ok (.invokevirtual 184, 3) := by decide +kernel
theorem dX7_next_36 : decode cX7_next 36 = .ok (.if_icmp .ge 49, 3) := by decide +kernel
theorem dX7_next_39 : decode cX7_next 39 = .ok (.aload_n 0, 1) := by decide +kernel
theorem dX7_next_40 : decode cX7_next 40 = .ok (.getfield 19, 3) := by decide +kernel
theorem dX7_next_43 : decode cX7_next 43 = .ok (.iload 5, 2) := by decide +kernel
theorem dX7_next_45 : decode cX7_next 45 = .ok (.invokevirtual 192, 3) := by decide +kernel
theorem dX7_next_48 : decode cX7_next 48 = .ok (.iload_n 2, 1) := by decide +kernel
theorem dX7_next_49 : decode cX7_next 49 = .ok (.if_icmp .le 30, 3) := by decide +kernel
theorem dX7_next_52 : decode cX7_next 52 = .ok (.aload_n 0, 1) := by decide +kernel
theorem dX7_next_53 : decode cX7_next 53 = .ok (.getfield 26, 3) := by decide +kernel
theorem dX7_next_56 : decode cX7_next 56 = .ok (.iload 5, 2) := by decide +kernel
theorem dX7_next_58 : decode cX7_next 58 = .ok (.invokevirtual 187, 3) := by decide +kernel
theorem dX7_next_61 : decode cX7_next 61 = .ok (.ifCond .eq 18, 3) := by decide +kernel
theorem dX7_next_64 : decode cX7_next 64 = .ok (.lload_n 3, 1) := by decide +kernel
theorem dX7_next_65 : decode cX7_next 65 = .ok (.aload_n 0, 1) := by decide +kernel
theorem dX7_next_66 : decode cX7_next 66 = .ok (.getfield 19, 3) := by decide +kernel
theorem dX7_next_69 : decode cX7_next 69 = .ok (.iload 5, 2) := by decide +kernel
theorem dX7_next_71 : decode cX7_next 71 = .ok (.invokevirtual 192, 3) := by decide +kernel
theorem dX7_next_74 : decode cX7_next 74 = .ok (.i2l, 1) := by decide +kernel
theorem dX7_next_75 : decode cX7_next 75 = .ok (.invokestatic 195, 3) := by decide +kernel
theorem dX7_next_78 : decode cX7_next 78 = .ok (.lstore_n 3, 1) := by decide +kernel
theorem dX7_next_79 : decode cX7_next 79 = .ok (.iinc 5 1, 3) := by decide +kernel
theorem dX7_next_82 : decode cX7_next 82 = .ok (.goto (-55), 3) := by decide +kernel
theorem dX7_next_85 : decode cX7_next 85 = .ok (.lload_n 3, 1) := by decide +kernel
theorem dX7_next_86 : decode cX7_next 86 = .ok (.lreturn, 1) := by decide +kernel
set_option maxRecDepth 20000 in
theorem ggX7_sum_X0_canBeAsked : GoodIn wsX7_sum wsX0_canBeAsked := goodIn_r _ [9, 10, 11, 12, 8, 13, 14, 15, 16, 17, 18, 19, 77, 78, 79, 80] (by decide +kernel) (by decide +kernel)
set_option maxRecDepth 20000 in
theorem gX7_sum_X0_canBeAsked : GoodIn wsX7_sum (wsV RX7 58 RX0 yX0_canBeAsked wsX0_canBeAsked) := goodIn_app (goodIn_of _ (by decide +kernel)) ggX7_sum_X0_canBeAsked
set_option maxRecDepth 20000 in
theorem ggX7_sum_X7_look : GoodIn wsX7_sum wsX7_look := goodIn_r _ [24, 1, 4, 25, 26, 27, 8, 28, 19, 29, 30, 31, 32, 33, 34, 35, 36, 37, 38, 39, 40, 41, 42, 43, 44, 45, 46, 47, 70, 71, 72, 73, 74, 75, 76, 77, 78, 79, 80, 81, 82, 83, 84, 85, 86, 87, 88] (by decide +kernel) (by decide +kernel)
set_option maxRecDepth 20000 in
theorem gX7_sum_X7_look : GoodIn wsX7_sum (wsV RX7 181 RX7 yX7_look wsX7_look) := goodIn_app (goodIn_of _ (by decide +kernel)) ggX7_sum_X7_look
set_option maxRecDepth 20000 in
theorem ggX7_sum_X2_count : GoodIn wsX7_sum wsX2_count := goodIn_r _ [52, 53, 89, 90] (by decide +kernel) (by decide +kernel)
set_option maxRecDepth 20000 in
theorem gX7_sum_X2_count : GoodIn wsX7_sum (wsV RX7 184 RX2 yX2_count wsX2_count) := goodIn_app (goodIn_of _ (by decide +kernel)) ggX7_sum_X2_count
set_option maxRecDepth 20000 in
theorem ggX7_sum_X2_at : GoodIn wsX7_sum wsX2_at := goodIn_r _ [57, 58, 89, 90] (by decide +kernel) (by decide +kernel)
set_option maxRecDepth 20000 in
theorem gX7_sum_X2_at : GoodIn wsX7_sum (wsV RX7 192 RX2 yX2_at wsX2_at) := goodIn_app (goodIn_of _ (by decide +kernel)) ggX7_sum_X2_at
set_option maxRecDepth 20000 in
theorem ggX7_sum_X6_hasFound : GoodIn wsX7_sum wsX6_hasFound := goodIn_r _ [62, 40, 63, 81, 82, 83, 84, 85, 86, 87, 88] (by decide +kernel) (by decide +kernel)
set_option maxRecDepth 20000 in
theorem gX7_sum_X6_hasFound : GoodIn wsX7_sum (wsV RX7 187 RX6 yX6_hasFound wsX6_hasFound) := goodIn_app (goodIn_of _ (by decide +kernel)) ggX7_sum_X6_hasFound
set_option maxRecDepth 20000 in
theorem ggX7_sum_X6_valueFound : GoodIn wsX7_sum wsX6_valueFound := goodIn_r _ [67, 40, 68, 69, 81, 82, 83, 84, 85, 86, 87, 88] (by decide +kernel) (by decide +kernel)
set_option maxRecDepth 20000 in
theorem gX7_sum_X6_valueFound : GoodIn wsX7_sum (wsV RX7 201 RX6 yX6_valueFound wsX6_valueFound) := goodIn_app (goodIn_of _ (by decide +kernel)) ggX7_sum_X6_valueFound
theorem dX7_sum_0 : decode cX7_sum 0 = .ok (.aload_n 0, 1) := by decide +kernel
theorem dX7_sum_1 : decode cX7_sum 1 = .ok (.getfield 10, 3) := by decide +kernel
theorem dX7_sum_4 : decode cX7_sum 4 = .ok (.iload_n 1, 1) := by decide +kernel
theorem dX7_sum_5 : decode cX7_sum 5 = .ok (.invokevirtual 58, 3) := by decide +kernel
theorem dX7_sum_8 : decode cX7_sum 8 = .ok (.ifCond .ne 7, 3) := by decide +kernel
theorem dX7_sum_11 : decode cX7_sum 11 = .ok (.ldc2_w 70, 3) := by decide +kernel
theorem dX7_sum_14 : decode cX7_sum 14 = .ok (.lreturn, 1) := by decide +kernel
theorem dX7_sum_15 : decode cX7_sum 15 = .ok (.aload_n 0, 1) := by decide +kernel
theorem dX7_sum_16 : decode cX7_sum 16 = .ok (.iload_n 1, 1) := by decide +kernel
theorem dX7_sum_17 : decode cX7_sum 17 = .ok (.invokevirtual 181, 3) := by decide +kernel
theorem dX7_sum_20 : decode cX7_sum 20 = .ok (.lconst 0, 1) := by decide +kernel
theorem dX7_sum_21 : decode cX7_sum 21 = .ok (.lstore 4, 2) := by decide +kernel
theorem dX7_sum_23 : decode cX7_sum 23 = .ok (.iconst 0, 1) := by decide +kernel
theorem dX7_sum_24 : decode cX7_sum 24 = .ok (.istore 6, 2) := by decide +kernel
theorem dX7_sum_26 : decode cX7_sum 26 = .ok (.iload 6, 2) := by decide +kernel
theorem dX7_sum_28 : decode cX7_sum 28 = .ok (.aload_n 0, 1) := by decide +kernel
theorem dX7_sum_29 : decode cX7_sum 29 = .ok (.getfield 19, 3) := by decide +kernel
theorem dX7_sum_32 : decode cX7_sum 32 = .ok (.invokevirtual 184, 3) := by decide +kernel
theorem dX7_sum_35 : decode cX7_sum 35 = .ok (.if_icmp .ge 58, 3) := by decide +kernel
theorem dX7_sum_38 : decode cX7_sum 38 = .ok (.aload_n 0, 1) := by decide +kernel
theorem dX7_sum_39 : decode cX7_sum 39 = .ok (.getfield 19, 3) := by decide +kernel
theorem dX7_sum_42 : decode cX7_sum 42 = .ok (.iload 6, 2) := by decide +kernel
theorem dX7_sum_44 : decode cX7_sum 44 = .ok (.invokevirtual 192, 3) := by decide +kernel
theorem dX7_sum_47 : decode cX7_sum 47 = .ok (.istore 7, 2) := by decide +kernel
theorem dX7_sum_49 : decode cX7_sum 49 = .ok (.iload 7, 2) := by decide +kernel
theorem dX7_sum_51 : decode cX7_sum 51 = .ok (.iload_n 2, 1) := by decide +kernel
theorem dX7_sum_52 : decode cX7_sum 52 = .ok (.if_icmp .lt 35, 3) := by decide +kernel
theorem dX7_sum_55 : decode cX7_sum 55 = .ok (.iload 7, 2) := by decide +kernel
theorem dX7_sum_57 : decode cX7_sum 57 = .ok (.iload_n 3, 1) := by decide +kernel
theorem dX7_sum_58 : decode cX7_sum 58 = .ok (.if_icmp .gt 29, 3) := by decide +kernel
theorem dX7_sum_61 : decode cX7_sum 61 = .ok (.aload_n 0, 1) := by decide +kernel
theorem dX7_sum_62 : decode cX7_sum 62 = .ok (.getfield 26, 3) := by decide +kernel
theorem dX7_sum_65 : decode cX7_sum 65 = .ok (.iload 6, 2) := by decide +kernel
theorem dX7_sum_67 : decode cX7_sum 67 = .ok (.invokevirtual 187, 3) := by decide +kernel
theorem dX7_sum_70 : decode cX7_sum 70 = .ok (.ifCond .eq 17, 3) := by decide +kernel
theorem dX7_sum_73 : decode cX7_sum 73 = .ok (.lload 4, 2) := by decide +kernel
theorem dX7_sum_75 : decode cX7_sum 75 = .ok (.aload_n 0, 1) := by decide +kernel
theorem dX7_sum_76 : decode cX7_sum 76 = .ok (.getfield 26, 3) := by decide +kernel
theorem dX7_sum_79 : decode cX7_sum 79 = .ok (.iload 6, 2) := by decide +kernel
theorem dX7_sum_81 : decode cX7_sum 81 = .ok (.invokevirtual 201, 3) := by decide +kernel
theorem dX7_sum_84 : decode cX7_sum 84 = .ok (.ladd, 1) := by decide +kernel
theorem dX7_sum_85 : decode cX7_sum 85 = .ok (.lstore 4, 2) := by decide +kernel
theorem dX7_sum_87 : decode cX7_sum 87 = .ok (.iinc 6 1, 3) := by decide +kernel
theorem dX7_sum_90 : decode cX7_sum 90 = .ok (.goto (-64), 3) := by decide +kernel
theorem dX7_sum_93 : decode cX7_sum 93 = .ok (.lload 4, 2) := by decide +kernel
theorem dX7_sum_95 : decode cX7_sum 95 = .ok (.lreturn, 1) := by decide +kernel
set_option maxRecDepth 20000 in
theorem ggX7_change_X0_isActive : GoodIn wsX7_change wsX0_isActive := goodIn_r _ [11, 12, 13, 14, 15, 10, 16, 17, 144, 145, 146, 147] (by decide +kernel) (by decide +kernel)
set_option maxRecDepth 20000 in
theorem gX7_change_X0_isActive : GoodIn wsX7_change (wsV RX7 93 RX0 yX0_isActive wsX0_isActive) := goodIn_app (goodIn_of _ (by decide +kernel)) ggX7_change_X0_isActive
set_option maxRecDepth 20000 in
theorem ggX7_change_X2_findOrAdd : GoodIn wsX7_change wsX2_findOrAdd := goodIn_r _ [22, 23, 24, 25, 26, 27, 21, 28, 148, 149] (by decide +kernel) (by decide +kernel)
set_option maxRecDepth 20000 in
theorem gX7_change_X2_findOrAdd : GoodIn wsX7_change (wsV RX7 72 RX2 yX2_findOrAdd wsX2_findOrAdd) := goodIn_app (goodIn_of _ (by decide +kernel)) ggX7_change_X2_findOrAdd
set_option maxRecDepth 20000 in
theorem ggX7_change_X1_isFull : GoodIn wsX7_change wsX1_isFull := goodIn_r _ [33, 34, 150, 151, 152, 153] (by decide +kernel) (by decide +kernel)
set_option maxRecDepth 20000 in
theorem gX7_change_X1_isFull : GoodIn wsX7_change (wsV RX7 75 RX1 yX1_isFull wsX1_isFull) := goodIn_app (goodIn_of _ (by decide +kernel)) ggX7_change_X1_isFull
set_option maxRecDepth 20000 in
theorem ggX7_change_X6_isFull : GoodIn wsX7_change wsX6_isFull := goodIn_r _ [39, 40, 154, 155, 156, 157, 158, 159, 160, 161] (by decide +kernel) (by decide +kernel)
set_option maxRecDepth 20000 in
theorem gX7_change_X6_isFull : GoodIn wsX7_change (wsV RX7 205 RX6 yX6_isFull wsX6_isFull) := goodIn_app (goodIn_of _ (by decide +kernel)) ggX7_change_X6_isFull
set_option maxRecDepth 20000 in
theorem ggX7_change_X7_mustWait : GoodIn wsX7_change wsX7_mustWait := goodIn_r _ [45, 46, 47, 48, 49, 44, 50, 1, 3, 51, 52, 53, 10, 54, 17, 55, 56, 57, 58, 59, 60, 61, 62, 63, 32, 64, 34, 65, 66, 67, 68, 69, 70, 71, 72, 73, 74, 75, 76, 77, 78, 79, 80, 81, 82, 137, 138, 139, 140, 141, 142, 143, 144, 145, 146, 147, 150, 151, 152, 153, 162, 163] (by decide +kernel) (by decide +kernel)
set_option maxRecDepth 20000 in
theorem gX7_change_X7_mustWait : GoodIn wsX7_change (wsV RX7 76 RX7 yX7_mustWait wsX7_mustWait) := goodIn_app (goodIn_of _ (by decide +kernel)) ggX7_change_X7_mustWait
set_option maxRecDepth 20000 in
theorem ggX7_change_X7_valueSeen : GoodIn wsX7_change wsX7_valueSeen := goodIn_r _ [86, 2, 5, 4, 87, 26, 27, 21, 28, 23, 24, 88, 89, 90, 44, 91, 1, 51, 52, 53, 10, 54, 17, 55, 56, 57, 58, 59, 60, 92, 93, 94, 38, 95, 96, 40, 97, 98, 99, 100, 101, 102, 103, 104, 105, 106, 107, 108, 109, 110, 111, 112, 113, 137, 138, 139, 140, 141, 142, 143, 148, 149, 144, 145, 146, 147, 154, 155, 156, 157, 158, 159, 160, 161] (by decide +kernel) (by decide +kernel)
set_option maxRecDepth 20000 in
theorem gX7_change_X7_valueSeen : GoodIn wsX7_change (wsV RX7 85 RX7 yX7_valueSeen wsX7_valueSeen) := goodIn_app (goodIn_of _ (by decide +kernel)) ggX7_change_X7_valueSeen
set_option maxRecDepth 20000 in
theorem ggX7_change_X1_add : GoodIn wsX7_change wsX1_add := goodIn_r _ [117, 71, 118, 119, 120, 121, 65, 34, 70, 122, 123, 124, 32, 125, 150, 151, 152, 153] (by decide +kernel) (by decide +kernel)
set_option maxRecDepth 20000 in
theorem gX7_change_X1_add : GoodIn wsX7_change (wsV RX7 82 RX1 yX1_add wsX1_add) := goodIn_app (goodIn_of _ (by decide +kernel)) ggX7_change_X1_add
set_option maxRecDepth 20000 in
theorem ggX7_change_X3_now : GoodIn wsX7_change wsX3_now := goodIn_r _ [130, 131, 164, 165] (by decide +kernel) (by decide +kernel)
set_option maxRecDepth 20000 in
theorem gX7_change_X3_now : GoodIn wsX7_change (wsV RX7 121 RX3 yX3_now wsX3_now) := goodIn_app (goodIn_of _ (by decide +kernel)) ggX7_change_X3_now
set_option maxRecDepth 20000 in
theorem ggX7_change_X6_add : GoodIn wsX7_change wsX6_add := goodIn_r _ [135, 97, 40, 98, 113, 107, 136, 154, 155, 156, 157, 158, 159, 160, 161] (by decide +kernel) (by decide +kernel)
set_option maxRecDepth 20000 in
theorem gX7_change_X6_add : GoodIn wsX7_change (wsV RX7 206 RX6 yX6_add wsX6_add) := goodIn_app (goodIn_of _ (by decide +kernel)) ggX7_change_X6_add
theorem dX7_change_0 : decode cX7_change 0 = .ok (.aload_n 0, 1) := by decide +kernel
theorem dX7_change_1 : decode cX7_change 1 = .ok (.getfield 10, 3) := by decide +kernel
theorem dX7_change_4 : decode cX7_change 4 = .ok (.iload_n 1, 1) := by decide +kernel
theorem dX7_change_5 : decode cX7_change 5 = .ok (.invokevirtual 93, 3) := by decide +kernel
theorem dX7_change_8 : decode cX7_change 8 = .ok (.ifCond .ne 5, 3) := by decide +kernel
theorem dX7_change_11 : decode cX7_change 11 = .ok (.iconst (-1), 1) := by decide +kernel
theorem dX7_change_12 : decode cX7_change 12 = .ok (.ireturn, 1) := by decide +kernel
theorem dX7_change_13 : decode cX7_change 13 = .ok (.aload_n 0, 1) := by decide +kernel
theorem dX7_change_14 : decode cX7_change 14 = .ok (.getfield 19, 3) := by decide +kernel
theorem dX7_change_17 : decode cX7_change 17 = .ok (.iload_n 2, 1) := by decide +kernel
theorem dX7_change_18 : decode cX7_change 18 = .ok (.invokevirtual 72, 3) := by decide +kernel
theorem dX7_change_21 : decode cX7_change 21 = .ok (.istore 5, 2) := by decide +kernel
theorem dX7_change_23 : decode cX7_change 23 = .ok (.iload 5, 2) := by decide +kernel
theorem dX7_change_25 : decode cX7_change 25 = .ok (.iconst (-1), 1) := by decide +kernel
theorem dX7_change_26 : decode cX7_change 26 = .ok (.if_icmp .eq 23, 3) := by decide +kernel
theorem dX7_change_29 : decode cX7_change 29 = .ok (.aload_n 0, 1) := by decide +kernel
theorem dX7_change_30 : decode cX7_change 30 = .ok (.getfield 33, 3) := by decide +kernel
theorem dX7_change_33 : decode cX7_change 33 = .ok (.invokevirtual 75, 3) := by decide +kernel
theorem dX7_change_36 : decode cX7_change 36 = .ok (.ifCond .ne 13, 3) := by decide +kernel
theorem dX7_change_39 : decode cX7_change 39 = .ok (.aload_n 0, 1) := by decide +kernel
theorem dX7_change_40 : decode cX7_change 40 = .ok (.getfield 26, 3) := by decide +kernel
theorem dX7_change_43 : decode cX7_change 43 = .ok (.invokevirtual 205, 3) := by decide +kernel
theorem dX7_change_46 : decode cX7_change 46 = .ok (.ifCond .eq 5, 3) := by decide +kernel
theorem dX7_change_49 : decode cX7_change 49 = .ok (.iconst (-1), 1) := by decide +kernel
theorem dX7_change_50 : decode cX7_change 50 = .ok (.ireturn, 1) := by decide +kernel
theorem dX7_change_51 : decode cX7_change 51 = .ok (.aload_n 0, 1) := by decide +kernel
theorem dX7_change_52 : decode cX7_change 52 = .ok (.iload_n 1, 1) := by decide +kernel
theorem dX7_change_53 : decode cX7_change 53 = .ok (.iload 5, 2) := by decide +kernel
theorem dX7_change_55 : decode cX7_change 55 = .ok (.iconst 2, 1) := by decide +kernel
theorem dX7_change_56 : decode cX7_change 56 = .ok (.invokevirtual 76, 3) := by decide +kernel
theorem dX7_change_59 : decode cX7_change 59 = .ok (.ifCond .eq 6, 3) := by decide +kernel
theorem dX7_change_62 : decode cX7_change 62 = .ok (.bipush (-2), 2) := by decide +kernel
theorem dX7_change_64 : decode cX7_change 64 = .ok (.ireturn, 1) := by decide +kernel
theorem dX7_change_65 : decode cX7_change 65 = .ok (.aload_n 0, 1) := by decide +kernel
theorem dX7_change_66 : decode cX7_change 66 = .ok (.iload_n 1, 1) := by decide +kernel
theorem dX7_change_67 : decode cX7_change 67 = .ok (.iload_n 2, 1) := by decide +kernel
theorem dX7_change_68 : decode cX7_change 68 = .ok (.invokevirtual 85, 3) := by decide +kernel
theorem dX7_change_71 : decode cX7_change 71 = .ok (.ldc2_w 190, 3) := by decide +kernel
theorem dX7_change_74 : decode cX7_change 74 = .ok (.lcmp, 1) := by decide +kernel
theorem dX7_change_75 : decode cX7_change 75 = .ok (.ifCond .eq 7, 3) := by decide +kernel
theorem dX7_change_78 : decode cX7_change 78 = .ok (.iconst 1, 1) := by decide +kernel
theorem dX7_change_79 : decode cX7_change 79 = .ok (.goto 4, 3) := by decide +kernel
theorem dX7_change_82 : decode cX7_change 82 = .ok (.iconst 0, 1) := by decide +kernel
theorem dX7_change_83 : decode cX7_change 83 = .ok (.istore 6, 2) := by decide +kernel
theorem dX7_change_85 : decode cX7_change 85 = .ok (.aload_n 0, 1) := by decide +kernel
theorem dX7_change_86 : decode cX7_change 86 = .ok (.getfield 33, 3) := by decide +kernel
theorem dX7_change_89 : decode cX7_change 89 = .ok (.iload_n 1, 1) := by decide +kernel
theorem dX7_change_90 : decode cX7_change 90 = .ok (.iload 5, 2) := by decide +kernel
theorem dX7_change_92 : decode cX7_change 92 = .ok (.iconst 2, 1) := by decide +kernel
theorem dX7_change_93 : decode cX7_change 93 = .ok (.invokevirtual 82, 3) := by decide +kernel
theorem dX7_change_96 : decode cX7_change 96 = .ok (.aload_n 0, 1) := by decide +kernel
theorem dX7_change_97 : decode cX7_change 97 = .ok (.getfield 26, 3) := by decide +kernel
theorem dX7_change_100 : decode cX7_change 100 = .ok (.iload_n 1, 1) := by decide +kernel
theorem dX7_change_101 : decode cX7_change 101 = .ok (.iload 5, 2) := by decide +kernel
theorem dX7_change_103 : decode cX7_change 103 = .ok (.iload_n 3, 1) := by decide +kernel
theorem dX7_change_104 : decode cX7_change 104 = .ok (.iload 4, 2) := by decide +kernel
theorem dX7_change_106 : decode cX7_change 106 = .ok (.aload_n 0, 1) := by decide +kernel
theorem dX7_change_107 : decode cX7_change 107 = .ok (.getfield 40, 3) := by decide +kernel
theorem dX7_change_110 : decode cX7_change 110 = .ok (.invokevirtual 121, 3) := by decide +kernel
theorem dX7_change_113 : decode cX7_change 113 = .ok (.invokevirtual 206, 3) := by decide +kernel
theorem dX7_change_116 : decode cX7_change 116 = .ok (.iload 6, 2) := by decide +kernel
theorem dX7_change_118 : decode cX7_change 118 = .ok (.iload 4, 2) := by decide +kernel
theorem dX7_change_120 : decode cX7_change 120 = .ok (.if_icmp .ne 7, 3) := by decide +kernel
theorem dX7_change_123 : decode cX7_change 123 = .ok (.iconst 1, 1) := by decide +kernel
theorem dX7_change_124 : decode cX7_change 124 = .ok (.goto 4, 3) := by decide +kernel
theorem dX7_change_127 : decode cX7_change 127 = .ok (.iconst 0, 1) := by decide +kernel
theorem dX7_change_128 : decode cX7_change 128 = .ok (.ireturn, 1) := by decide +kernel
set_option maxRecDepth 20000 in
theorem ggX7_mustWait_X7_leastInTheWay : GoodIn wsX7_mustWait wsX7_leastInTheWay := goodIn_r _ [6, 7, 8, 9, 10, 11, 12, 13, 14, 15, 16, 17, 18, 19, 20, 21, 22, 23, 24, 25, 26, 27, 28, 29, 30, 31, 32, 33, 45, 46, 47, 48, 49, 50, 51, 52, 53, 54, 55, 56, 57, 58, 59] (by decide +kernel) (by decide +kernel)
set_option maxRecDepth 20000 in
theorem gX7_mustWait_X7_leastInTheWay : GoodIn wsX7_mustWait (wsV RX7 158 RX7 yX7_leastInTheWay wsX7_leastInTheWay) := goodIn_app (goodIn_of _ (by decide +kernel)) ggX7_mustWait_X7_leastInTheWay
set_option maxRecDepth 20000 in
theorem ggX7_mustWait_X5_clear : GoodIn wsX7_mustWait wsX5_clear := goodIn_r _ [38, 39, 60, 61] (by decide +kernel) (by decide +kernel)
set_option maxRecDepth 20000 in
theorem gX7_mustWait_X5_clear : GoodIn wsX7_mustWait (wsV RX7 209 RX5 yX5_clear wsX5_clear) := goodIn_app (goodIn_of _ (by decide +kernel)) ggX7_mustWait_X5_clear
set_option maxRecDepth 20000 in
theorem ggX7_mustWait_X5_set : GoodIn wsX7_mustWait wsX5_set := goodIn_r _ [43, 44, 39, 60, 61] (by decide +kernel) (by decide +kernel)
set_option maxRecDepth 20000 in
theorem gX7_mustWait_X5_set : GoodIn wsX7_mustWait (wsV RX7 212 RX5 yX5_set wsX5_set) := goodIn_app (goodIn_of _ (by decide +kernel)) ggX7_mustWait_X5_set
theorem dX7_mustWait_0 : decode cX7_mustWait 0 = .ok (.aload_n 0, 1) := by decide +kernel
theorem dX7_mustWait_1 : decode cX7_mustWait 1 = .ok (.iload_n 1, 1) := by decide +kernel
theorem dX7_mustWait_2 : decode cX7_mustWait 2 = .ok (.iload_n 2, 1) := by decide +kernel
theorem dX7_mustWait_3 : decode cX7_mustWait 3 = .ok (.iload_n 3, 1) := by decide +kernel
theorem dX7_mustWait_4 : decode cX7_mustWait 4 = .ok (.invokevirtual 158, 3) := by decide +kernel
theorem dX7_mustWait_7 : decode cX7_mustWait 7 = .ok (.ifCond .ne 13, 3) := by decide +kernel
theorem dX7_mustWait_10 : decode cX7_mustWait 10 = .ok (.aload_n 0, 1) := by decide +kernel
theorem dX7_mustWait_11 : decode cX7_mustWait 11 = .ok (.getfield 47, 3) := by decide +kernel
theorem dX7_mustWait_14 : decode cX7_mustWait 14 = .ok (.iload_n 1, 1) := by decide +kernel
theorem dX7_mustWait_15 : decode cX7_mustWait 15 = .ok (.invokevirtual 209, 3) := by decide +kernel
theorem dX7_mustWait_18 : decode cX7_mustWait 18 = .ok (.iconst 0, 1) := by decide +kernel
theorem dX7_mustWait_19 : decode cX7_mustWait 19 = .ok (.ireturn, 1) := by decide +kernel
theorem dX7_mustWait_20 : decode cX7_mustWait 20 = .ok (.aload_n 0, 1) := by decide +kernel
theorem dX7_mustWait_21 : decode cX7_mustWait 21 = .ok (.getfield 47, 3) := by decide +kernel
theorem dX7_mustWait_24 : decode cX7_mustWait 24 = .ok (.iload_n 1, 1) := by decide +kernel
theorem dX7_mustWait_25 : decode cX7_mustWait 25 = .ok (.iload_n 2, 1) := by decide +kernel
theorem dX7_mustWait_26 : decode cX7_mustWait 26 = .ok (.iload_n 3, 1) := by decide +kernel
theorem dX7_mustWait_27 : decode cX7_mustWait 27 = .ok (.invokevirtual 212, 3) := by decide +kernel
theorem dX7_mustWait_30 : decode cX7_mustWait 30 = .ok (.iconst 1, 1) := by decide +kernel
theorem dX7_mustWait_31 : decode cX7_mustWait 31 = .ok (.ireturn, 1) := by decide +kernel
set_option maxRecDepth 20000 in
theorem ggX7_leastInTheWay_X0_trace : GoodIn wsX7_leastInTheWay wsX0_trace := goodIn_r _ [7, 8, 9, 10, 35, 36, 37, 38] (by decide +kernel) (by decide +kernel)
set_option maxRecDepth 20000 in
theorem gX7_leastInTheWay_X0_trace : GoodIn wsX7_leastInTheWay (wsV RX7 215 RX0 yX0_trace wsX0_trace) := goodIn_app (goodIn_of _ (by decide +kernel)) ggX7_leastInTheWay_X0_trace
set_option maxRecDepth 20000 in
theorem ggX7_leastInTheWay_X0_line : GoodIn wsX7_leastInTheWay wsX0_line := goodIn_r _ [14, 9, 35, 36, 37, 38] (by decide +kernel) (by decide +kernel)
set_option maxRecDepth 20000 in
theorem gX7_leastInTheWay_X0_line : GoodIn wsX7_leastInTheWay (wsV RX7 218 RX0 yX0_line wsX0_line) := goodIn_app (goodIn_of _ (by decide +kernel)) ggX7_leastInTheWay_X0_line
set_option maxRecDepth 20000 in
theorem ggX7_leastInTheWay_X1_leastInTheWay : GoodIn wsX7_leastInTheWay wsX1_leastInTheWay := goodIn_r _ [19, 20, 21, 22, 23, 24, 18, 25, 26, 27, 39, 40, 41, 42] (by decide +kernel) (by decide +kernel)
set_option maxRecDepth 20000 in
theorem gX7_leastInTheWay_X1_leastInTheWay : GoodIn wsX7_leastInTheWay (wsV RX7 222 RX1 yX1_leastInTheWay wsX1_leastInTheWay) := goodIn_app (goodIn_of _ (by decide +kernel)) ggX7_leastInTheWay_X1_leastInTheWay
theorem dX7_leastInTheWay_0 : decode cX7_leastInTheWay 0 = .ok (.aload_n 0, 1) := by decide +kernel
theorem dX7_leastInTheWay_1 : decode cX7_leastInTheWay 1 = .ok (.getfield 10, 3) := by decide +kernel
theorem dX7_leastInTheWay_4 : decode cX7_leastInTheWay 4 = .ok (.iload_n 1, 1) := by decide +kernel
theorem dX7_leastInTheWay_5 : decode cX7_leastInTheWay 5 = .ok (.invokevirtual 215, 3) := by decide +kernel
theorem dX7_leastInTheWay_8 : decode cX7_leastInTheWay 8 = .ok (.aload_n 0, 1) := by decide +kernel
theorem dX7_leastInTheWay_9 : decode cX7_leastInTheWay 9 = .ok (.getfield 33, 3) := by decide +kernel
theorem dX7_leastInTheWay_12 : decode cX7_leastInTheWay 12 = .ok (.iload_n 2, 1) := by decide +kernel
theorem dX7_leastInTheWay_13 : decode cX7_leastInTheWay 13 = .ok (.iload_n 3, 1) := by decide +kernel
theorem dX7_leastInTheWay_14 : decode cX7_leastInTheWay 14 = .ok (.aload_n 0, 1) := by decide +kernel
theorem dX7_leastInTheWay_15 : decode cX7_leastInTheWay 15 = .ok (.getfield 10, 3) := by decide +kernel
theorem dX7_leastInTheWay_18 : decode cX7_leastInTheWay 18 = .ok (.invokevirtual 218, 3) := by decide +kernel
theorem dX7_leastInTheWay_21 : decode cX7_leastInTheWay 21 = .ok (.invokevirtual 222, 3) := by decide +kernel
theorem dX7_leastInTheWay_24 : decode cX7_leastInTheWay 24 = .ok (.ireturn, 1) := by decide +kernel
set_option maxRecDepth 20000 in
theorem ggX7_valueSeen_X2_find : GoodIn wsX7_valueSeen wsX2_find := goodIn_r _ [8, 9, 10, 60, 61] (by decide +kernel) (by decide +kernel)
set_option maxRecDepth 20000 in
theorem gX7_valueSeen_X2_find : GoodIn wsX7_valueSeen (wsV RX7 153 RX2 yX2_find wsX2_find) := goodIn_app (goodIn_of _ (by decide +kernel)) ggX7_valueSeen_X2_find
set_option maxRecDepth 20000 in
theorem ggX7_valueSeen_X7_look : GoodIn wsX7_valueSeen wsX7_look := goodIn_r _ [15, 16, 3, 17, 18, 19, 20, 21, 22, 23, 24, 25, 26, 27, 28, 29, 30, 31, 32, 33, 34, 35, 36, 37, 38, 39, 40, 41, 53, 54, 55, 56, 57, 58, 59, 62, 63, 64, 65, 66, 67, 68, 69, 70, 71, 72, 73] (by decide +kernel) (by decide +kernel)
set_option maxRecDepth 20000 in
theorem gX7_valueSeen_X7_look : GoodIn wsX7_valueSeen (wsV RX7 181 RX7 yX7_look wsX7_look) := goodIn_app (goodIn_of _ (by decide +kernel)) ggX7_valueSeen_X7_look
set_option maxRecDepth 20000 in
theorem ggX7_valueSeen_X6_hasFound : GoodIn wsX7_valueSeen wsX6_hasFound := goodIn_r _ [45, 34, 46, 66, 67, 68, 69, 70, 71, 72, 73] (by decide +kernel) (by decide +kernel)
set_option maxRecDepth 20000 in
theorem gX7_valueSeen_X6_hasFound : GoodIn wsX7_valueSeen (wsV RX7 187 RX6 yX6_hasFound wsX6_hasFound) := goodIn_app (goodIn_of _ (by decide +kernel)) ggX7_valueSeen_X6_hasFound
set_option maxRecDepth 20000 in
theorem ggX7_valueSeen_X6_valueFound : GoodIn wsX7_valueSeen wsX6_valueFound := goodIn_r _ [50, 34, 51, 52, 66, 67, 68, 69, 70, 71, 72, 73] (by decide +kernel) (by decide +kernel)
set_option maxRecDepth 20000 in
theorem gX7_valueSeen_X6_valueFound : GoodIn wsX7_valueSeen (wsV RX7 201 RX6 yX6_valueFound wsX6_valueFound) := goodIn_app (goodIn_of _ (by decide +kernel)) ggX7_valueSeen_X6_valueFound
theorem dX7_valueSeen_0 : decode cX7_valueSeen 0 = .ok (.aload_n 0, 1) := by decide +kernel
theorem dX7_valueSeen_1 : decode cX7_valueSeen 1 = .ok (.getfield 19, 3) := by decide +kernel
theorem dX7_valueSeen_4 : decode cX7_valueSeen 4 = .ok (.iload_n 2, 1) := by decide +kernel
theorem dX7_valueSeen_5 : decode cX7_valueSeen 5 = .ok (.invokevirtual 153, 3) := by decide +kernel
theorem dX7_valueSeen_8 : decode cX7_valueSeen 8 = .ok (.istore_n 3, 1) := by decide +kernel
theorem dX7_valueSeen_9 : decode cX7_valueSeen 9 = .ok (.iload_n 3, 1) := by decide +kernel
theorem dX7_valueSeen_10 : decode cX7_valueSeen 10 = .ok (.iconst (-1), 1) := by decide +kernel
theorem dX7_valueSeen_11 : decode cX7_valueSeen 11 = .ok (.if_icmp .ne 7, 3) := by decide +kernel
theorem dX7_valueSeen_14 : decode cX7_valueSeen 14 = .ok (.ldc2_w 190, 3) := by decide +kernel
theorem dX7_valueSeen_17 : decode cX7_valueSeen 17 = .ok (.lreturn, 1) := by decide +kernel
theorem dX7_valueSeen_18 : decode cX7_valueSeen 18 = .ok (.aload_n 0, 1) := by decide +kernel
theorem dX7_valueSeen_19 : decode cX7_valueSeen 19 = .ok (.iload_n 1, 1) := by decide +kernel
theorem dX7_valueSeen_20 : decode cX7_valueSeen 20 = .ok (.invokevirtual 181, 3) := by decide +kernel
theorem dX7_valueSeen_23 : decode cX7_valueSeen 23 = .ok (.aload_n 0, 1) := by decide +kernel
theorem dX7_valueSeen_24 : decode cX7_valueSeen 24 = .ok (.getfield 26, 3) := by decide +kernel
theorem dX7_valueSeen_27 : decode cX7_valueSeen 27 = .ok (.iload_n 3, 1) := by decide +kernel
theorem dX7_valueSeen_28 : decode cX7_valueSeen 28 = .ok (.invokevirtual 187, 3) := by decide +kernel
theorem dX7_valueSeen_31 : decode cX7_valueSeen 31 = .ok (.ifCond .eq 14, 3) := by decide +kernel
theorem dX7_valueSeen_34 : decode cX7_valueSeen 34 = .ok (.aload_n 0, 1) := by decide +kernel
theorem dX7_valueSeen_35 : decode cX7_valueSeen 35 = .ok (.getfield 26, 3) := by decide +kernel
theorem dX7_valueSeen_38 : decode cX7_valueSeen 38 = .ok (.iload_n 3, 1) := by decide +kernel
theorem dX7_valueSeen_39 : decode cX7_valueSeen 39 = .ok (.invokevirtual 201, 3) := by decide +kernel
theorem dX7_valueSeen_42 : decode cX7_valueSeen 42 = .ok (.goto 6, 3) := by decide +kernel
theorem dX7_valueSeen_45 : decode cX7_valueSeen 45 = .ok (.ldc2_w 190, 3) := by decide +kernel
theorem dX7_valueSeen_48 : decode cX7_valueSeen 48 = .ok (.lreturn, 1) := by decide +kernel
set_option maxRecDepth 20000 in
theorem ggX7_look_X0_trace : GoodIn wsX7_look wsX0_trace := goodIn_r _ [7, 8, 9, 10, 35, 36, 37, 38] (by decide +kernel) (by decide +kernel)
set_option maxRecDepth 20000 in
theorem gX7_look_X0_trace : GoodIn wsX7_look (wsV RX7 215 RX0 yX0_trace wsX0_trace) := goodIn_app (goodIn_of _ (by decide +kernel)) ggX7_look_X0_trace
set_option maxRecDepth 20000 in
theorem ggX7_look_X0_line : GoodIn wsX7_look wsX0_line := goodIn_r _ [14, 9, 35, 36, 37, 38] (by decide +kernel) (by decide +kernel)
set_option maxRecDepth 20000 in
theorem gX7_look_X0_line : GoodIn wsX7_look (wsV RX7 218 RX0 yX0_line wsX0_line) := goodIn_app (goodIn_of _ (by decide +kernel)) ggX7_look_X0_line
set_option maxRecDepth 20000 in
theorem ggX7_look_X6_findSeen : GoodIn wsX7_look wsX6_findSeen := goodIn_r _ [19, 20, 21, 22, 23, 24, 25, 26, 27, 39, 40, 41, 42, 43, 44, 45, 46] (by decide +kernel) (by decide +kernel)
set_option maxRecDepth 20000 in
theorem gX7_look_X6_findSeen : GoodIn wsX7_look (wsV RX7 225 RX6 yX6_findSeen wsX6_findSeen) := goodIn_app (goodIn_of _ (by decide +kernel)) ggX7_look_X6_findSeen
theorem dX7_look_0 : decode cX7_look 0 = .ok (.aload_n 0, 1) := by decide +kernel
theorem dX7_look_1 : decode cX7_look 1 = .ok (.getfield 10, 3) := by decide +kernel
theorem dX7_look_4 : decode cX7_look 4 = .ok (.iload_n 1, 1) := by decide +kernel
theorem dX7_look_5 : decode cX7_look 5 = .ok (.invokevirtual 215, 3) := by decide +kernel
theorem dX7_look_8 : decode cX7_look 8 = .ok (.aload_n 0, 1) := by decide +kernel
theorem dX7_look_9 : decode cX7_look 9 = .ok (.getfield 26, 3) := by decide +kernel
theorem dX7_look_12 : decode cX7_look 12 = .ok (.aload_n 0, 1) := by decide +kernel
theorem dX7_look_13 : decode cX7_look 13 = .ok (.getfield 10, 3) := by decide +kernel
theorem dX7_look_16 : decode cX7_look 16 = .ok (.invokevirtual 218, 3) := by decide +kernel
theorem dX7_look_19 : decode cX7_look 19 = .ok (.invokevirtual 225, 3) := by decide +kernel
theorem dX7_look_22 : decode cX7_look 22 = .ok (.return_, 1) := by decide +kernel
set_option maxRecDepth 20000 in
theorem ggX7_canEndOrGoBack_X0_isActive : GoodIn wsX7_canEndOrGoBack wsX0_isActive := goodIn_r _ [6, 7, 8, 9, 10, 5, 11, 12, 25, 26, 27, 28] (by decide +kernel) (by decide +kernel)
set_option maxRecDepth 20000 in
theorem gX7_canEndOrGoBack_X0_isActive : GoodIn wsX7_canEndOrGoBack (wsV RX7 93 RX0 yX0_isActive wsX0_isActive) := goodIn_app (goodIn_of _ (by decide +kernel)) ggX7_canEndOrGoBack_X0_isActive
set_option maxRecDepth 20000 in
theorem ggX7_canEndOrGoBack_X0_activeChildrenOf : GoodIn wsX7_canEndOrGoBack wsX0_activeChildrenOf := goodIn_r _ [16, 12, 17, 7, 25, 26, 27, 28] (by decide +kernel) (by decide +kernel)
set_option maxRecDepth 20000 in
theorem gX7_canEndOrGoBack_X0_activeChildrenOf : GoodIn wsX7_canEndOrGoBack (wsV RX7 145 RX0 yX0_activeChildrenOf wsX0_activeChildrenOf) := goodIn_app (goodIn_of _ (by decide +kernel)) ggX7_canEndOrGoBack_X0_activeChildrenOf
theorem dX7_canEndOrGoBack_0 : decode cX7_canEndOrGoBack 0 = .ok (.aload_n 0, 1) := by decide +kernel
theorem dX7_canEndOrGoBack_1 : decode cX7_canEndOrGoBack 1 = .ok (.getfield 10, 3) := by decide +kernel
theorem dX7_canEndOrGoBack_4 : decode cX7_canEndOrGoBack 4 = .ok (.iload_n 1, 1) := by decide +kernel
theorem dX7_canEndOrGoBack_5 : decode cX7_canEndOrGoBack 5 = .ok (.invokevirtual 93, 3) := by decide +kernel
theorem dX7_canEndOrGoBack_8 : decode cX7_canEndOrGoBack 8 = .ok (.ifCond .eq 18, 3) := by decide +kernel
theorem dX7_canEndOrGoBack_11 : decode cX7_canEndOrGoBack 11 = .ok (.aload_n 0, 1) := by decide +kernel
theorem dX7_canEndOrGoBack_12 : decode cX7_canEndOrGoBack 12 = .ok (.getfield 10, 3) := by decide +kernel
theorem dX7_canEndOrGoBack_15 : decode cX7_canEndOrGoBack 15 = .ok (.iload_n 1, 1) := by decide +kernel
theorem dX7_canEndOrGoBack_16 : decode cX7_canEndOrGoBack 16 = .ok (.invokevirtual 145, 3) := by decide +kernel
theorem dX7_canEndOrGoBack_19 : decode cX7_canEndOrGoBack 19 = .ok (.ifCond .ne 7, 3) := by decide +kernel
theorem dX7_canEndOrGoBack_22 : decode cX7_canEndOrGoBack 22 = .ok (.iconst 1, 1) := by decide +kernel
theorem dX7_canEndOrGoBack_23 : decode cX7_canEndOrGoBack 23 = .ok (.goto 4, 3) := by decide +kernel
theorem dX7_canEndOrGoBack_26 : decode cX7_canEndOrGoBack 26 = .ok (.iconst 0, 1) := by decide +kernel
theorem dX7_canEndOrGoBack_27 : decode cX7_canEndOrGoBack 27 = .ok (.ireturn, 1) := by decide +kernel
set_option maxRecDepth 20000 in
theorem ggX7_end_X0_end : GoodIn wsX7_end wsX0_end := goodIn_r _ [10, 11, 55, 56, 57, 58] (by decide +kernel) (by decide +kernel)
set_option maxRecDepth 20000 in
theorem gX7_end_X0_end : GoodIn wsX7_end (wsV RX7 229 RX0 yX0_end wsX0_end) := goodIn_app (goodIn_of _ (by decide +kernel)) ggX7_end_X0_end
set_option maxRecDepth 20000 in
theorem ggX7_end_X6_drop : GoodIn wsX7_end wsX6_drop := goodIn_r _ [16, 17, 18, 19, 15, 20, 21, 22, 23, 59, 60, 61, 62, 63, 64, 65, 66] (by decide +kernel) (by decide +kernel)
set_option maxRecDepth 20000 in
theorem gX7_end_X6_drop : GoodIn wsX7_end (wsV RX7 230 RX6 yX6_drop wsX6_drop) := goodIn_app (goodIn_of _ (by decide +kernel)) ggX7_end_X6_drop
set_option maxRecDepth 20000 in
theorem ggX7_end_X1_drop : GoodIn wsX7_end wsX1_drop := goodIn_r _ [28, 29, 30, 67, 68, 69, 70] (by decide +kernel) (by decide +kernel)
set_option maxRecDepth 20000 in
theorem gX7_end_X1_drop : GoodIn wsX7_end (wsV RX7 233 RX1 yX1_drop wsX1_drop) := goodIn_app (goodIn_of _ (by decide +kernel)) ggX7_end_X1_drop
set_option maxRecDepth 20000 in
theorem ggX7_end_X3_drop : GoodIn wsX7_end wsX3_drop := goodIn_r _ [35, 36, 37, 38, 34, 39, 40, 41, 71, 72] (by decide +kernel) (by decide +kernel)
set_option maxRecDepth 20000 in
theorem gX7_end_X3_drop : GoodIn wsX7_end (wsV RX7 234 RX3 yX3_drop wsX3_drop) := goodIn_app (goodIn_of _ (by decide +kernel)) ggX7_end_X3_drop
set_option maxRecDepth 20000 in
theorem ggX7_end_X5_clear : GoodIn wsX7_end wsX5_clear := goodIn_r _ [46, 47, 73, 74] (by decide +kernel) (by decide +kernel)
set_option maxRecDepth 20000 in
theorem gX7_end_X5_clear : GoodIn wsX7_end (wsV RX7 209 RX5 yX5_clear wsX5_clear) := goodIn_app (goodIn_of _ (by decide +kernel)) ggX7_end_X5_clear
theorem dX7_end_0 : decode cX7_end 0 = .ok (.aload_n 0, 1) := by decide +kernel
theorem dX7_end_1 : decode cX7_end 1 = .ok (.getfield 10, 3) := by decide +kernel
theorem dX7_end_4 : decode cX7_end 4 = .ok (.iload_n 1, 1) := by decide +kernel
theorem dX7_end_5 : decode cX7_end 5 = .ok (.iload_n 2, 1) := by decide +kernel
theorem dX7_end_6 : decode cX7_end 6 = .ok (.invokevirtual 229, 3) := by decide +kernel
theorem dX7_end_9 : decode cX7_end 9 = .ok (.aload_n 0, 1) := by decide +kernel
theorem dX7_end_10 : decode cX7_end 10 = .ok (.getfield 26, 3) := by decide +kernel
theorem dX7_end_13 : decode cX7_end 13 = .ok (.iload_n 1, 1) := by decide +kernel
theorem dX7_end_14 : decode cX7_end 14 = .ok (.invokevirtual 230, 3) := by decide +kernel
theorem dX7_end_17 : decode cX7_end 17 = .ok (.aload_n 0, 1) := by decide +kernel
theorem dX7_end_18 : decode cX7_end 18 = .ok (.getfield 33, 3) := by decide +kernel
theorem dX7_end_21 : decode cX7_end 21 = .ok (.iload_n 1, 1) := by decide +kernel
theorem dX7_end_22 : decode cX7_end 22 = .ok (.invokevirtual 233, 3) := by decide +kernel
theorem dX7_end_25 : decode cX7_end 25 = .ok (.aload_n 0, 1) := by decide +kernel
theorem dX7_end_26 : decode cX7_end 26 = .ok (.getfield 40, 3) := by decide +kernel
theorem dX7_end_29 : decode cX7_end 29 = .ok (.iload_n 1, 1) := by decide +kernel
theorem dX7_end_30 : decode cX7_end 30 = .ok (.invokevirtual 234, 3) := by decide +kernel
theorem dX7_end_33 : decode cX7_end 33 = .ok (.aload_n 0, 1) := by decide +kernel
theorem dX7_end_34 : decode cX7_end 34 = .ok (.getfield 47, 3) := by decide +kernel
theorem dX7_end_37 : decode cX7_end 37 = .ok (.iload_n 1, 1) := by decide +kernel
theorem dX7_end_38 : decode cX7_end 38 = .ok (.invokevirtual 209, 3) := by decide +kernel
theorem dX7_end_41 : decode cX7_end 41 = .ok (.return_, 1) := by decide +kernel
set_option maxRecDepth 20000 in
theorem ggX7_drawWaits_X4_clear : GoodIn wsX7_drawWaits wsX4_clear := goodIn_r _ [9, 10, 11, 12, 13, 14, 70] (by decide +kernel) (by decide +kernel)
set_option maxRecDepth 20000 in
theorem gX7_drawWaits_X4_clear : GoodIn wsX7_drawWaits (wsV RX7 235 RX4 yX4_clear wsX4_clear) := goodIn_app (goodIn_of _ (by decide +kernel)) ggX7_drawWaits_X4_clear
set_option maxRecDepth 20000 in
theorem ggX7_drawWaits_X0_opened : GoodIn wsX7_drawWaits wsX0_opened := goodIn_r _ [19, 20, 71, 72, 73, 74] (by decide +kernel) (by decide +kernel)
set_option maxRecDepth 20000 in
theorem gX7_drawWaits_X0_opened : GoodIn wsX7_drawWaits (wsV RX7 133 RX0 yX0_opened wsX0_opened) := goodIn_app (goodIn_of _ (by decide +kernel)) ggX7_drawWaits_X0_opened
set_option maxRecDepth 20000 in
theorem ggX7_drawWaits_X5_has : GoodIn wsX7_drawWaits wsX5_has := goodIn_r _ [25, 26, 75, 76] (by decide +kernel) (by decide +kernel)
set_option maxRecDepth 20000 in
theorem gX7_drawWaits_X5_has : GoodIn wsX7_drawWaits (wsV RX7 162 RX5 yX5_has wsX5_has) := goodIn_app (goodIn_of _ (by decide +kernel)) ggX7_drawWaits_X5_has
set_option maxRecDepth 20000 in
theorem ggX7_drawWaits_X0_trace : GoodIn wsX7_drawWaits wsX0_trace := goodIn_r _ [30, 20, 31, 32, 71, 72, 73, 74] (by decide +kernel) (by decide +kernel)
set_option maxRecDepth 20000 in
theorem gX7_drawWaits_X0_trace : GoodIn wsX7_drawWaits (wsV RX7 215 RX0 yX0_trace wsX0_trace) := goodIn_app (goodIn_of _ (by decide +kernel)) ggX7_drawWaits_X0_trace
set_option maxRecDepth 20000 in
theorem ggX7_drawWaits_X0_line : GoodIn wsX7_drawWaits wsX0_line := goodIn_r _ [36, 31, 71, 72, 73, 74] (by decide +kernel) (by decide +kernel)
set_option maxRecDepth 20000 in
theorem gX7_drawWaits_X0_line : GoodIn wsX7_drawWaits (wsV RX7 218 RX0 yX0_line wsX0_line) := goodIn_app (goodIn_of _ (by decide +kernel)) ggX7_drawWaits_X0_line
set_option maxRecDepth 20000 in
theorem ggX7_drawWaits_X1_drawInTheWay : GoodIn wsX7_drawWaits wsX1_drawInTheWay := goodIn_r _ [41, 42, 43, 44, 45, 46, 24, 47, 48, 49, 50, 51, 52, 26, 53, 54, 55, 40, 56, 57, 58, 59, 60, 61, 8, 62, 10, 77, 78, 79, 80, 75, 76, 70] (by decide +kernel) (by decide +kernel)
set_option maxRecDepth 20000 in
theorem gX7_drawWaits_X1_drawInTheWay : GoodIn wsX7_drawWaits (wsV RX7 237 RX1 yX1_drawInTheWay wsX1_drawInTheWay) := goodIn_app (goodIn_of _ (by decide +kernel)) ggX7_drawWaits_X1_drawInTheWay
theorem dX7_drawWaits_0 : decode cX7_drawWaits 0 = .ok (.aload_n 0, 1) := by decide +kernel
theorem dX7_drawWaits_1 : decode cX7_drawWaits 1 = .ok (.getfield 54, 3) := by decide +kernel
theorem dX7_drawWaits_4 : decode cX7_drawWaits 4 = .ok (.invokevirtual 235, 3) := by decide +kernel
theorem dX7_drawWaits_7 : decode cX7_drawWaits 7 = .ok (.iconst 1, 1) := by decide +kernel
theorem dX7_drawWaits_8 : decode cX7_drawWaits 8 = .ok (.istore_n 1, 1) := by decide +kernel
theorem dX7_drawWaits_9 : decode cX7_drawWaits 9 = .ok (.iload_n 1, 1) := by decide +kernel
theorem dX7_drawWaits_10 : decode cX7_drawWaits 10 = .ok (.aload_n 0, 1) := by decide +kernel
theorem dX7_drawWaits_11 : decode cX7_drawWaits 11 = .ok (.getfield 10, 3) := by decide +kernel
theorem dX7_drawWaits_14 : decode cX7_drawWaits 14 = .ok (.invokevirtual 133, 3) := by decide +kernel
theorem dX7_drawWaits_17 : decode cX7_drawWaits 17 = .ok (.if_icmp .gt 51, 3) := by decide +kernel
theorem dX7_drawWaits_20 : decode cX7_drawWaits 20 = .ok (.aload_n 0, 1) := by decide +kernel
theorem dX7_drawWaits_21 : decode cX7_drawWaits 21 = .ok (.getfield 47, 3) := by decide +kernel
theorem dX7_drawWaits_24 : decode cX7_drawWaits 24 = .ok (.iload_n 1, 1) := by decide +kernel
theorem dX7_drawWaits_25 : decode cX7_drawWaits 25 = .ok (.invokevirtual 162, 3) := by decide +kernel
theorem dX7_drawWaits_28 : decode cX7_drawWaits 28 = .ok (.ifCond .eq 34, 3) := by decide +kernel
theorem dX7_drawWaits_31 : decode cX7_drawWaits 31 = .ok (.aload_n 0, 1) := by decide +kernel
theorem dX7_drawWaits_32 : decode cX7_drawWaits 32 = .ok (.getfield 10, 3) := by decide +kernel
theorem dX7_drawWaits_35 : decode cX7_drawWaits 35 = .ok (.iload_n 1, 1) := by decide +kernel
theorem dX7_drawWaits_36 : decode cX7_drawWaits 36 = .ok (.invokevirtual 215, 3) := by decide +kernel
theorem dX7_drawWaits_39 : decode cX7_drawWaits 39 = .ok (.aload_n 0, 1) := by decide +kernel
theorem dX7_drawWaits_40 : decode cX7_drawWaits 40 = .ok (.getfield 33, 3) := by decide +kernel
theorem dX7_drawWaits_43 : decode cX7_drawWaits 43 = .ok (.iload_n 1, 1) := by decide +kernel
theorem dX7_drawWaits_44 : decode cX7_drawWaits 44 = .ok (.aload_n 0, 1) := by decide +kernel
theorem dX7_drawWaits_45 : decode cX7_drawWaits 45 = .ok (.getfield 47, 3) := by decide +kernel
theorem dX7_drawWaits_48 : decode cX7_drawWaits 48 = .ok (.aload_n 0, 1) := by decide +kernel
theorem dX7_drawWaits_49 : decode cX7_drawWaits 49 = .ok (.getfield 10, 3) := by decide +kernel
theorem dX7_drawWaits_52 : decode cX7_drawWaits 52 = .ok (.invokevirtual 218, 3) := by decide +kernel
theorem dX7_drawWaits_55 : decode cX7_drawWaits 55 = .ok (.aload_n 0, 1) := by decide +kernel
theorem dX7_drawWaits_56 : decode cX7_drawWaits 56 = .ok (.getfield 54, 3) := by decide +kernel
theorem dX7_drawWaits_59 : decode cX7_drawWaits 59 = .ok (.invokevirtual 237, 3) := by decide +kernel
theorem dX7_drawWaits_62 : decode cX7_drawWaits 62 = .ok (.iinc 1 1, 3) := by decide +kernel
theorem dX7_drawWaits_65 : decode cX7_drawWaits 65 = .ok (.goto (-56), 3) := by decide +kernel
theorem dX7_drawWaits_68 : decode cX7_drawWaits 68 = .ok (.return_, 1) := by decide +kernel
theorem dX8_init_0 : decode cX8_init 0 = .ok (.aload_n 0, 1) := by decide +kernel
theorem dX8_init_1 : decode cX8_init 1 = .ok (.invokespecial 1, 3) := by decide +kernel
theorem dX8_init_4 : decode cX8_init 4 = .ok (.aload_n 0, 1) := by decide +kernel
theorem dX8_init_5 : decode cX8_init 5 = .ok (.sipush 520, 3) := by decide +kernel
theorem dX8_init_8 : decode cX8_init 8 = .ok (.newarray .int, 2) := by decide +kernel
theorem dX8_init_10 : decode cX8_init 10 = .ok (.putfield 7, 3) := by decide +kernel
theorem dX8_init_13 : decode cX8_init 13 = .ok (.aload_n 0, 1) := by decide +kernel
theorem dX8_init_14 : decode cX8_init 14 = .ok (.ldc 13, 2) := by decide +kernel
theorem dX8_init_16 : decode cX8_init 16 = .ok (.newarray .byte, 2) := by decide +kernel
theorem dX8_init_18 : decode cX8_init 18 = .ok (.putfield 14, 3) := by decide +kernel
theorem dX8_init_21 : decode cX8_init 21 = .ok (.aload_n 0, 1) := by decide +kernel
theorem dX8_init_22 : decode cX8_init 22 = .ok (.ldc 13, 2) := by decide +kernel
theorem dX8_init_24 : decode cX8_init 24 = .ok (.newarray .int, 2) := by decide +kernel
theorem dX8_init_26 : decode cX8_init 26 = .ok (.putfield 18, 3) := by decide +kernel
theorem dX8_init_29 : decode cX8_init 29 = .ok (.aload_n 0, 1) := by decide +kernel
theorem dX8_init_30 : decode cX8_init 30 = .ok (.ldc 13, 2) := by decide +kernel
theorem dX8_init_32 : decode cX8_init 32 = .ok (.newarray .byte, 2) := by decide +kernel
theorem dX8_init_34 : decode cX8_init 34 = .ok (.putfield 21, 3) := by decide +kernel
theorem dX8_init_37 : decode cX8_init 37 = .ok (.aload_n 0, 1) := by decide +kernel
theorem dX8_init_38 : decode cX8_init 38 = .ok (.sipush 151, 3) := by decide +kernel
theorem dX8_init_41 : decode cX8_init 41 = .ok (.newarray .int, 2) := by decide +kernel
theorem dX8_init_43 : decode cX8_init 43 = .ok (.putfield 24, 3) := by decide +kernel
theorem dX8_init_46 : decode cX8_init 46 = .ok (.aload_n 0, 1) := by decide +kernel
theorem dX8_init_47 : decode cX8_init 47 = .ok (.sipush 151, 3) := by decide +kernel
theorem dX8_init_50 : decode cX8_init 50 = .ok (.newarray .int, 2) := by decide +kernel
theorem dX8_init_52 : decode cX8_init 52 = .ok (.putfield 27, 3) := by decide +kernel
theorem dX8_init_55 : decode cX8_init 55 = .ok (.aload_n 0, 1) := by decide +kernel
theorem dX8_init_56 : decode cX8_init 56 = .ok (.sipush 151, 3) := by decide +kernel
theorem dX8_init_59 : decode cX8_init 59 = .ok (.newarray .int, 2) := by decide +kernel
theorem dX8_init_61 : decode cX8_init 61 = .ok (.putfield 30, 3) := by decide +kernel
theorem dX8_init_64 : decode cX8_init 64 = .ok (.aload_n 0, 1) := by decide +kernel
theorem dX8_init_65 : decode cX8_init 65 = .ok (.sipush 151, 3) := by decide +kernel
theorem dX8_init_68 : decode cX8_init 68 = .ok (.newarray .boolean, 2) := by decide +kernel
theorem dX8_init_70 : decode cX8_init 70 = .ok (.putfield 33, 3) := by decide +kernel
theorem dX8_init_73 : decode cX8_init 73 = .ok (.aload_n 0, 1) := by decide +kernel
theorem dX8_init_74 : decode cX8_init 74 = .ok (.sipush 520, 3) := by decide +kernel
theorem dX8_init_77 : decode cX8_init 77 = .ok (.newarray .int, 2) := by decide +kernel
theorem dX8_init_79 : decode cX8_init 79 = .ok (.putfield 37, 3) := by decide +kernel
theorem dX8_init_82 : decode cX8_init 82 = .ok (.aload_n 0, 1) := by decide +kernel
theorem dX8_init_83 : decode cX8_init 83 = .ok (.sipush 520, 3) := by decide +kernel
theorem dX8_init_86 : decode cX8_init 86 = .ok (.newarray .boolean, 2) := by decide +kernel
theorem dX8_init_88 : decode cX8_init 88 = .ok (.putfield 40, 3) := by decide +kernel
theorem dX8_init_91 : decode cX8_init 91 = .ok (.aload_n 0, 1) := by decide +kernel
theorem dX8_init_92 : decode cX8_init 92 = .ok (.ldc 43, 2) := by decide +kernel
theorem dX8_init_94 : decode cX8_init 94 = .ok (.newarray .byte, 2) := by decide +kernel
theorem dX8_init_96 : decode cX8_init 96 = .ok (.putfield 44, 3) := by decide +kernel
theorem dX8_init_99 : decode cX8_init 99 = .ok (.aload_n 0, 1) := by decide +kernel
theorem dX8_init_100 : decode cX8_init 100 = .ok (.ldc 43, 2) := by decide +kernel
theorem dX8_init_102 : decode cX8_init 102 = .ok (.newarray .int, 2) := by decide +kernel
theorem dX8_init_104 : decode cX8_init 104 = .ok (.putfield 47, 3) := by decide +kernel
theorem dX8_init_107 : decode cX8_init 107 = .ok (.aload_n 0, 1) := by decide +kernel
theorem dX8_init_108 : decode cX8_init 108 = .ok (.sipush 151, 3) := by decide +kernel
theorem dX8_init_111 : decode cX8_init 111 = .ok (.newarray .boolean, 2) := by decide +kernel
theorem dX8_init_113 : decode cX8_init 113 = .ok (.putfield 50, 3) := by decide +kernel
theorem dX8_init_116 : decode cX8_init 116 = .ok (.return_, 1) := by decide +kernel
theorem dX8_isActive_0 : decode cX8_isActive 0 = .ok (.iload_n 1, 1) := by decide +kernel
theorem dX8_isActive_1 : decode cX8_isActive 1 = .ok (.ifCond .le 24, 3) := by decide +kernel
theorem dX8_isActive_4 : decode cX8_isActive 4 = .ok (.iload_n 1, 1) := by decide +kernel
theorem dX8_isActive_5 : decode cX8_isActive 5 = .ok (.aload_n 0, 1) := by decide +kernel
theorem dX8_isActive_6 : decode cX8_isActive 6 = .ok (.getfield 53, 3) := by decide +kernel
theorem dX8_isActive_9 : decode cX8_isActive 9 = .ok (.if_icmp .gt 16, 3) := by decide +kernel
theorem dX8_isActive_12 : decode cX8_isActive 12 = .ok (.aload_n 0, 1) := by decide +kernel
theorem dX8_isActive_13 : decode cX8_isActive 13 = .ok (.getfield 27, 3) := by decide +kernel
theorem dX8_isActive_16 : decode cX8_isActive 16 = .ok (.iload_n 1, 1) := by decide +kernel
theorem dX8_isActive_17 : decode cX8_isActive 17 = .ok (.iaload, 1) := by decide +kernel
theorem dX8_isActive_18 : decode cX8_isActive 18 = .ok (.ifCond .ne 7, 3) := by decide +kernel
theorem dX8_isActive_21 : decode cX8_isActive 21 = .ok (.iconst 1, 1) := by decide +kernel
theorem dX8_isActive_22 : decode cX8_isActive 22 = .ok (.goto 4, 3) := by decide +kernel
theorem dX8_isActive_25 : decode cX8_isActive 25 = .ok (.iconst 0, 1) := by decide +kernel
theorem dX8_isActive_26 : decode cX8_isActive 26 = .ok (.ireturn, 1) := by decide +kernel
theorem dX8_find_0 : decode cX8_find 0 = .ok (.iconst 0, 1) := by decide +kernel
theorem dX8_find_1 : decode cX8_find 1 = .ok (.istore_n 2, 1) := by decide +kernel
theorem dX8_find_2 : decode cX8_find 2 = .ok (.iload_n 2, 1) := by decide +kernel
theorem dX8_find_3 : decode cX8_find 3 = .ok (.aload_n 0, 1) := by decide +kernel
theorem dX8_find_4 : decode cX8_find 4 = .ok (.getfield 57, 3) := by decide +kernel
theorem dX8_find_7 : decode cX8_find 7 = .ok (.if_icmp .ge 21, 3) := by decide +kernel
theorem dX8_find_10 : decode cX8_find 10 = .ok (.aload_n 0, 1) := by decide +kernel
theorem dX8_find_11 : decode cX8_find 11 = .ok (.getfield 7, 3) := by decide +kernel
theorem dX8_find_14 : decode cX8_find 14 = .ok (.iload_n 2, 1) := by decide +kernel
theorem dX8_find_15 : decode cX8_find 15 = .ok (.iaload, 1) := by decide +kernel
theorem dX8_find_16 : decode cX8_find 16 = .ok (.iload_n 1, 1) := by decide +kernel
theorem dX8_find_17 : decode cX8_find 17 = .ok (.if_icmp .ne 5, 3) := by decide +kernel
theorem dX8_find_20 : decode cX8_find 20 = .ok (.iload_n 2, 1) := by decide +kernel
theorem dX8_find_21 : decode cX8_find 21 = .ok (.ireturn, 1) := by decide +kernel
theorem dX8_find_22 : decode cX8_find 22 = .ok (.iinc 2 1, 3) := by decide +kernel
theorem dX8_find_25 : decode cX8_find 25 = .ok (.goto (-23), 3) := by decide +kernel
theorem dX8_find_28 : decode cX8_find 28 = .ok (.iconst (-1), 1) := by decide +kernel
theorem dX8_find_29 : decode cX8_find 29 = .ok (.ireturn, 1) := by decide +kernel
set_option maxRecDepth 20000 in
theorem ggX8_number_X8_find : GoodIn wsX8_number wsX8_find := goodIn_r _ [7, 2, 1, 8, 9, 10, 11, 12, 13, 14, 15, 16, 17, 18, 19, 20, 21, 22, 23] (by decide +kernel) (by decide +kernel)
set_option maxRecDepth 20000 in
theorem gX8_number_X8_find : GoodIn wsX8_number (wsV RX8 60 RX8 yX8_find wsX8_find) := goodIn_app (goodIn_of _ (by decide +kernel)) ggX8_number_X8_find
theorem dX8_number_0 : decode cX8_number 0 = .ok (.aload_n 0, 1) := by decide +kernel
theorem dX8_number_1 : decode cX8_number 1 = .ok (.iload_n 1, 1) := by decide +kernel
theorem dX8_number_2 : decode cX8_number 2 = .ok (.invokevirtual 60, 3) := by decide +kernel
theorem dX8_number_5 : decode cX8_number 5 = .ok (.istore_n 2, 1) := by decide +kernel
theorem dX8_number_6 : decode cX8_number 6 = .ok (.iload_n 2, 1) := by decide +kernel
theorem dX8_number_7 : decode cX8_number 7 = .ok (.iconst (-1), 1) := by decide +kernel
theorem dX8_number_8 : decode cX8_number 8 = .ok (.if_icmp .ne 30, 3) := by decide +kernel
theorem dX8_number_11 : decode cX8_number 11 = .ok (.aload_n 0, 1) := by decide +kernel
theorem dX8_number_12 : decode cX8_number 12 = .ok (.getfield 7, 3) := by decide +kernel
theorem dX8_number_15 : decode cX8_number 15 = .ok (.aload_n 0, 1) := by decide +kernel
theorem dX8_number_16 : decode cX8_number 16 = .ok (.getfield 57, 3) := by decide +kernel
theorem dX8_number_19 : decode cX8_number 19 = .ok (.iload_n 1, 1) := by decide +kernel
theorem dX8_number_20 : decode cX8_number 20 = .ok (.iastore, 1) := by decide +kernel
theorem dX8_number_21 : decode cX8_number 21 = .ok (.aload_n 0, 1) := by decide +kernel
theorem dX8_number_22 : decode cX8_number 22 = .ok (.dup, 1) := by decide +kernel
theorem dX8_number_23 : decode cX8_number 23 = .ok (.getfield 57, 3) := by decide +kernel
theorem dX8_number_26 : decode cX8_number 26 = .ok (.iconst 1, 1) := by decide +kernel
theorem dX8_number_27 : decode cX8_number 27 = .ok (.iadd, 1) := by decide +kernel
theorem dX8_number_28 : decode cX8_number 28 = .ok (.putfield 57, 3) := by decide +kernel
theorem dX8_number_31 : decode cX8_number 31 = .ok (.aload_n 0, 1) := by decide +kernel
theorem dX8_number_32 : decode cX8_number 32 = .ok (.getfield 57, 3) := by decide +kernel
theorem dX8_number_35 : decode cX8_number 35 = .ok (.iconst 1, 1) := by decide +kernel
theorem dX8_number_36 : decode cX8_number 36 = .ok (.isub, 1) := by decide +kernel
theorem dX8_number_37 : decode cX8_number 37 = .ok (.ireturn, 1) := by decide +kernel
theorem dX8_number_38 : decode cX8_number 38 = .ok (.iload_n 2, 1) := by decide +kernel
theorem dX8_number_39 : decode cX8_number 39 = .ok (.ireturn, 1) := by decide +kernel
theorem dX8_source_0 : decode cX8_source 0 = .ok (.iload_n 1, 1) := by decide +kernel
theorem dX8_source_1 : decode cX8_source 1 = .ok (.istore_n 3, 1) := by decide +kernel
theorem dX8_source_2 : decode cX8_source 2 = .ok (.iload_n 3, 1) := by decide +kernel
theorem dX8_source_3 : decode cX8_source 3 = .ok (.ifCond .eq 28, 3) := by decide +kernel
theorem dX8_source_6 : decode cX8_source 6 = .ok (.aload_n 0, 1) := by decide +kernel
theorem dX8_source_7 : decode cX8_source 7 = .ok (.getfield 14, 3) := by decide +kernel
theorem dX8_source_10 : decode cX8_source 10 = .ok (.sipush 520, 3) := by decide +kernel
theorem dX8_source_13 : decode cX8_source 13 = .ok (.iload_n 3, 1) := by decide +kernel
theorem dX8_source_14 : decode cX8_source 14 = .ok (.imul, 1) := by decide +kernel
theorem dX8_source_15 : decode cX8_source 15 = .ok (.iload_n 2, 1) := by decide +kernel
theorem dX8_source_16 : decode cX8_source 16 = .ok (.iadd, 1) := by decide +kernel
theorem dX8_source_17 : decode cX8_source 17 = .ok (.baload, 1) := by decide +kernel
theorem dX8_source_18 : decode cX8_source 18 = .ok (.ifCond .ne 13, 3) := by decide +kernel
theorem dX8_source_21 : decode cX8_source 21 = .ok (.aload_n 0, 1) := by decide +kernel
theorem dX8_source_22 : decode cX8_source 22 = .ok (.getfield 24, 3) := by decide +kernel
theorem dX8_source_25 : decode cX8_source 25 = .ok (.iload_n 3, 1) := by decide +kernel
theorem dX8_source_26 : decode cX8_source 26 = .ok (.iaload, 1) := by decide +kernel
theorem dX8_source_27 : decode cX8_source 27 = .ok (.istore_n 3, 1) := by decide +kernel
theorem dX8_source_28 : decode cX8_source 28 = .ok (.goto (-26), 3) := by decide +kernel
theorem dX8_source_31 : decode cX8_source 31 = .ok (.aload_n 0, 1) := by decide +kernel
theorem dX8_source_32 : decode cX8_source 32 = .ok (.getfield 14, 3) := by decide +kernel
theorem dX8_source_35 : decode cX8_source 35 = .ok (.sipush 520, 3) := by decide +kernel
theorem dX8_source_38 : decode cX8_source 38 = .ok (.iload_n 3, 1) := by decide +kernel
theorem dX8_source_39 : decode cX8_source 39 = .ok (.imul, 1) := by decide +kernel
theorem dX8_source_40 : decode cX8_source 40 = .ok (.iload_n 2, 1) := by decide +kernel
theorem dX8_source_41 : decode cX8_source 41 = .ok (.iadd, 1) := by decide +kernel
theorem dX8_source_42 : decode cX8_source 42 = .ok (.baload, 1) := by decide +kernel
theorem dX8_source_43 : decode cX8_source 43 = .ok (.iconst 1, 1) := by decide +kernel
theorem dX8_source_44 : decode cX8_source 44 = .ok (.if_icmp .ne 7, 3) := by decide +kernel
theorem dX8_source_47 : decode cX8_source 47 = .ok (.iload_n 3, 1) := by decide +kernel
theorem dX8_source_48 : decode cX8_source 48 = .ok (.goto 4, 3) := by decide +kernel
theorem dX8_source_51 : decode cX8_source 51 = .ok (.iconst (-1), 1) := by decide +kernel
theorem dX8_source_52 : decode cX8_source 52 = .ok (.ireturn, 1) := by decide +kernel
set_option maxRecDepth 20000 in
theorem ggX8_sees_X8_source : GoodIn wsX8_sees wsX8_source := goodIn_r _ [5, 6, 7, 8, 9, 10, 11, 12, 13, 14, 15, 16, 17, 18, 19, 20, 21, 22, 23] (by decide +kernel) (by decide +kernel)
set_option maxRecDepth 20000 in
theorem gX8_sees_X8_source : GoodIn wsX8_sees (wsV RX8 64 RX8 yX8_source wsX8_source) := goodIn_app (goodIn_of _ (by decide +kernel)) ggX8_sees_X8_source
theorem dX8_sees_0 : decode cX8_sees 0 = .ok (.aload_n 0, 1) := by decide +kernel
theorem dX8_sees_1 : decode cX8_sees 1 = .ok (.iload_n 1, 1) := by decide +kernel
theorem dX8_sees_2 : decode cX8_sees 2 = .ok (.iload_n 2, 1) := by decide +kernel
theorem dX8_sees_3 : decode cX8_sees 3 = .ok (.invokevirtual 64, 3) := by decide +kernel
theorem dX8_sees_6 : decode cX8_sees 6 = .ok (.iconst (-1), 1) := by decide +kernel
theorem dX8_sees_7 : decode cX8_sees 7 = .ok (.if_icmp .eq 7, 3) := by decide +kernel
theorem dX8_sees_10 : decode cX8_sees 10 = .ok (.iconst 1, 1) := by decide +kernel
theorem dX8_sees_11 : decode cX8_sees 11 = .ok (.goto 4, 3) := by decide +kernel
theorem dX8_sees_14 : decode cX8_sees 14 = .ok (.iconst 0, 1) := by decide +kernel
theorem dX8_sees_15 : decode cX8_sees 15 = .ok (.ireturn, 1) := by decide +kernel
theorem dX8_isAncestor_0 : decode cX8_isAncestor 0 = .ok (.iload_n 2, 1) := by decide +kernel
theorem dX8_isAncestor_1 : decode cX8_isAncestor 1 = .ok (.istore_n 3, 1) := by decide +kernel
theorem dX8_isAncestor_2 : decode cX8_isAncestor 2 = .ok (.iload_n 3, 1) := by decide +kernel
theorem dX8_isAncestor_3 : decode cX8_isAncestor 3 = .ok (.ifCond .eq 17, 3) := by decide +kernel
theorem dX8_isAncestor_6 : decode cX8_isAncestor 6 = .ok (.aload_n 0, 1) := by decide +kernel
theorem dX8_isAncestor_7 : decode cX8_isAncestor 7 = .ok (.getfield 24, 3) := by decide +kernel
theorem dX8_isAncestor_10 : decode cX8_isAncestor 10 = .ok (.iload_n 3, 1) := by decide +kernel
theorem dX8_isAncestor_11 : decode cX8_isAncestor 11 = .ok (.iaload, 1) := by decide +kernel
theorem dX8_isAncestor_12 : decode cX8_isAncestor 12 = .ok (.istore_n 3, 1) := by decide +kernel
theorem dX8_isAncestor_13 : decode cX8_isAncestor 13 = .ok (.iload_n 3, 1) := by decide +kernel
theorem dX8_isAncestor_14 : decode cX8_isAncestor 14 = .ok (.iload_n 1, 1) := by decide +kernel
theorem dX8_isAncestor_15 : decode cX8_isAncestor 15 = .ok (.if_icmp .ne (-13), 3) := by decide +kernel
theorem dX8_isAncestor_18 : decode cX8_isAncestor 18 = .ok (.iconst 1, 1) := by decide +kernel
theorem dX8_isAncestor_19 : decode cX8_isAncestor 19 = .ok (.ireturn, 1) := by decide +kernel
theorem dX8_isAncestor_20 : decode cX8_isAncestor 20 = .ok (.iconst 0, 1) := by decide +kernel
theorem dX8_isAncestor_21 : decode cX8_isAncestor 21 = .ok (.ireturn, 1) := by decide +kernel
set_option maxRecDepth 20000 in
theorem ggX8_isInWay_X8_isActive : GoodIn wsX8_isInWay wsX8_isActive := goodIn_r _ [6, 7, 8, 14, 15, 16, 17, 18, 19, 20, 21, 22, 23, 24, 25, 26, 27, 28, 29] (by decide +kernel) (by decide +kernel)
set_option maxRecDepth 20000 in
theorem gX8_isInWay_X8_isActive : GoodIn wsX8_isInWay (wsV RX8 68 RX8 yX8_isActive wsX8_isActive) := goodIn_app (goodIn_of _ (by decide +kernel)) ggX8_isInWay_X8_isActive
set_option maxRecDepth 20000 in
theorem ggX8_isInWay_X8_isAncestor : GoodIn wsX8_isInWay wsX8_isAncestor := goodIn_r _ [12, 13, 14, 15, 16, 17, 18, 19, 20, 21, 22, 23, 24, 25, 26, 27, 28, 29] (by decide +kernel) (by decide +kernel)
set_option maxRecDepth 20000 in
theorem gX8_isInWay_X8_isAncestor : GoodIn wsX8_isInWay (wsV RX8 72 RX8 yX8_isAncestor wsX8_isAncestor) := goodIn_app (goodIn_of _ (by decide +kernel)) ggX8_isInWay_X8_isAncestor
theorem dX8_isInWay_0 : decode cX8_isInWay 0 = .ok (.iload_n 1, 1) := by decide +kernel
theorem dX8_isInWay_1 : decode cX8_isInWay 1 = .ok (.iload_n 2, 1) := by decide +kernel
theorem dX8_isInWay_2 : decode cX8_isInWay 2 = .ok (.if_icmp .eq 49, 3) := by decide +kernel
theorem dX8_isInWay_5 : decode cX8_isInWay 5 = .ok (.aload_n 0, 1) := by decide +kernel
theorem dX8_isInWay_6 : decode cX8_isInWay 6 = .ok (.iload_n 1, 1) := by decide +kernel
theorem dX8_isInWay_7 : decode cX8_isInWay 7 = .ok (.invokevirtual 68, 3) := by decide +kernel
theorem dX8_isInWay_10 : decode cX8_isInWay 10 = .ok (.ifCond .eq 41, 3) := by decide +kernel
theorem dX8_isInWay_13 : decode cX8_isInWay 13 = .ok (.aload_n 0, 1) := by decide +kernel
theorem dX8_isInWay_14 : decode cX8_isInWay 14 = .ok (.iload_n 1, 1) := by decide +kernel
theorem dX8_isInWay_15 : decode cX8_isInWay 15 = .ok (.iload_n 2, 1) := by decide +kernel
theorem dX8_isInWay_16 : decode cX8_isInWay 16 = .ok (.invokevirtual 72, 3) := by decide +kernel
theorem dX8_isInWay_19 : decode cX8_isInWay 19 = .ok (.ifCond .ne 32, 3) := by decide +kernel
theorem dX8_isInWay_22 : decode cX8_isInWay 22 = .ok (.aload_n 0, 1) := by decide +kernel
theorem dX8_isInWay_23 : decode cX8_isInWay 23 = .ok (.getfield 21, 3) := by decide +kernel
theorem dX8_isInWay_26 : decode cX8_isInWay 26 = .ok (.sipush 520, 3) := by decide +kernel
theorem dX8_isInWay_29 : decode cX8_isInWay 29 = .ok (.iload_n 1, 1) := by decide +kernel
theorem dX8_isInWay_30 : decode cX8_isInWay 30 = .ok (.imul, 1) := by decide +kernel
theorem dX8_isInWay_31 : decode cX8_isInWay 31 = .ok (.iload_n 3, 1) := by decide +kernel
theorem dX8_isInWay_32 : decode cX8_isInWay 32 = .ok (.iadd, 1) := by decide +kernel
theorem dX8_isInWay_33 : decode cX8_isInWay 33 = .ok (.baload, 1) := by decide +kernel
theorem dX8_isInWay_34 : decode cX8_isInWay 34 = .ok (.iload 4, 2) := by decide +kernel
theorem dX8_isInWay_36 : decode cX8_isInWay 36 = .ok (.ifCond .eq 7, 3) := by decide +kernel
theorem dX8_isInWay_39 : decode cX8_isInWay 39 = .ok (.iconst 1, 1) := by decide +kernel
theorem dX8_isInWay_40 : decode cX8_isInWay 40 = .ok (.goto 4, 3) := by decide +kernel
theorem dX8_isInWay_43 : decode cX8_isInWay 43 = .ok (.iconst 2, 1) := by decide +kernel
theorem dX8_isInWay_44 : decode cX8_isInWay 44 = .ok (.if_icmp .lt 7, 3) := by decide +kernel
theorem dX8_isInWay_47 : decode cX8_isInWay 47 = .ok (.iconst 1, 1) := by decide +kernel
theorem dX8_isInWay_48 : decode cX8_isInWay 48 = .ok (.goto 4, 3) := by decide +kernel
theorem dX8_isInWay_51 : decode cX8_isInWay 51 = .ok (.iconst 0, 1) := by decide +kernel
theorem dX8_isInWay_52 : decode cX8_isInWay 52 = .ok (.ireturn, 1) := by decide +kernel
set_option maxRecDepth 20000 in
theorem ggX8_first_X8_isInWay : GoodIn wsX8_first wsX8_isInWay := goodIn_r _ [6, 7, 8, 9, 10, 5, 11, 1, 12, 13, 14, 15, 16, 17, 18, 19, 20, 21, 22, 23, 24, 25, 26, 27, 28, 29, 30, 31, 32, 33] (by decide +kernel) (by decide +kernel)
set_option maxRecDepth 20000 in
theorem gX8_first_X8_isInWay : GoodIn wsX8_first (wsV RX8 76 RX8 yX8_isInWay wsX8_isInWay) := goodIn_app (goodIn_of _ (by decide +kernel)) ggX8_first_X8_isInWay
theorem dX8_first_0 : decode cX8_first 0 = .ok (.iconst 1, 1) := by decide +kernel
theorem dX8_first_1 : decode cX8_first 1 = .ok (.istore 4, 2) := by decide +kernel
theorem dX8_first_3 : decode cX8_first 3 = .ok (.iload 4, 2) := by decide +kernel
theorem dX8_first_5 : decode cX8_first 5 = .ok (.aload_n 0, 1) := by decide +kernel
theorem dX8_first_6 : decode cX8_first 6 = .ok (.getfield 53, 3) := by decide +kernel
theorem dX8_first_9 : decode cX8_first 9 = .ok (.if_icmp .gt 29, 3) := by decide +kernel
theorem dX8_first_12 : decode cX8_first 12 = .ok (.iload_n 2, 1) := by decide +kernel
theorem dX8_first_13 : decode cX8_first 13 = .ok (.iconst (-1), 1) := by decide +kernel
theorem dX8_first_14 : decode cX8_first 14 = .ok (.if_icmp .eq 24, 3) := by decide +kernel
theorem dX8_first_17 : decode cX8_first 17 = .ok (.aload_n 0, 1) := by decide +kernel
theorem dX8_first_18 : decode cX8_first 18 = .ok (.iload 4, 2) := by decide +kernel
theorem dX8_first_20 : decode cX8_first 20 = .ok (.iload_n 1, 1) := by decide +kernel
theorem dX8_first_21 : decode cX8_first 21 = .ok (.iload_n 2, 1) := by decide +kernel
theorem dX8_first_22 : decode cX8_first 22 = .ok (.iload_n 3, 1) := by decide +kernel
theorem dX8_first_23 : decode cX8_first 23 = .ok (.invokevirtual 76, 3) := by decide +kernel
theorem dX8_first_26 : decode cX8_first 26 = .ok (.ifCond .eq 6, 3) := by decide +kernel
theorem dX8_first_29 : decode cX8_first 29 = .ok (.iload 4, 2) := by decide +kernel
theorem dX8_first_31 : decode cX8_first 31 = .ok (.ireturn, 1) := by decide +kernel
theorem dX8_first_32 : decode cX8_first 32 = .ok (.iinc 4 1, 3) := by decide +kernel
theorem dX8_first_35 : decode cX8_first 35 = .ok (.goto (-32), 3) := by decide +kernel
theorem dX8_first_38 : decode cX8_first 38 = .ok (.iconst 0, 1) := by decide +kernel
theorem dX8_first_39 : decode cX8_first 39 = .ok (.ireturn, 1) := by decide +kernel
set_option maxRecDepth 20000 in
theorem ggX8_mayDo_X8_first : GoodIn wsX8_mayDo wsX8_first := goodIn_r _ [8, 9, 10, 11, 12, 7, 13, 3, 14, 15, 16, 17, 18, 19, 20, 21, 22, 23, 24, 25, 26, 27, 28, 29, 30, 31, 32, 33, 34, 35, 36, 37, 38, 39] (by decide +kernel) (by decide +kernel)
set_option maxRecDepth 20000 in
theorem gX8_mayDo_X8_first : GoodIn wsX8_mayDo (wsV RX8 80 RX8 yX8_first wsX8_first) := goodIn_app (goodIn_of _ (by decide +kernel)) ggX8_mayDo_X8_first
theorem dX8_mayDo_0 : decode cX8_mayDo 0 = .ok (.aload_n 0, 1) := by decide +kernel
theorem dX8_mayDo_1 : decode cX8_mayDo 1 = .ok (.iload_n 1, 1) := by decide +kernel
theorem dX8_mayDo_2 : decode cX8_mayDo 2 = .ok (.iload_n 2, 1) := by decide +kernel
theorem dX8_mayDo_3 : decode cX8_mayDo 3 = .ok (.iload_n 3, 1) := by decide +kernel
theorem dX8_mayDo_4 : decode cX8_mayDo 4 = .ok (.invokevirtual 80, 3) := by decide +kernel
theorem dX8_mayDo_7 : decode cX8_mayDo 7 = .ok (.ifCond .ne 7, 3) := by decide +kernel
theorem dX8_mayDo_10 : decode cX8_mayDo 10 = .ok (.iconst 1, 1) := by decide +kernel
theorem dX8_mayDo_11 : decode cX8_mayDo 11 = .ok (.goto 4, 3) := by decide +kernel
theorem dX8_mayDo_14 : decode cX8_mayDo 14 = .ok (.iconst 0, 1) := by decide +kernel
theorem dX8_mayDo_15 : decode cX8_mayDo 15 = .ok (.istore 4, 2) := by decide +kernel
theorem dX8_mayDo_17 : decode cX8_mayDo 17 = .ok (.aload_n 0, 1) := by decide +kernel
theorem dX8_mayDo_18 : decode cX8_mayDo 18 = .ok (.getfield 30, 3) := by decide +kernel
theorem dX8_mayDo_21 : decode cX8_mayDo 21 = .ok (.iload_n 1, 1) := by decide +kernel
theorem dX8_mayDo_22 : decode cX8_mayDo 22 = .ok (.iload 4, 2) := by decide +kernel
theorem dX8_mayDo_24 : decode cX8_mayDo 24 = .ok (.ifCond .eq 7, 3) := by decide +kernel
theorem dX8_mayDo_27 : decode cX8_mayDo 27 = .ok (.iconst (-1), 1) := by decide +kernel
theorem dX8_mayDo_28 : decode cX8_mayDo 28 = .ok (.goto 4, 3) := by decide +kernel
theorem dX8_mayDo_31 : decode cX8_mayDo 31 = .ok (.iload_n 2, 1) := by decide +kernel
theorem dX8_mayDo_32 : decode cX8_mayDo 32 = .ok (.iastore, 1) := by decide +kernel
theorem dX8_mayDo_33 : decode cX8_mayDo 33 = .ok (.aload_n 0, 1) := by decide +kernel
theorem dX8_mayDo_34 : decode cX8_mayDo 34 = .ok (.getfield 33, 3) := by decide +kernel
theorem dX8_mayDo_37 : decode cX8_mayDo 37 = .ok (.iload_n 1, 1) := by decide +kernel
theorem dX8_mayDo_38 : decode cX8_mayDo 38 = .ok (.iload_n 3, 1) := by decide +kernel
theorem dX8_mayDo_39 : decode cX8_mayDo 39 = .ok (.bastore, 1) := by decide +kernel
theorem dX8_mayDo_40 : decode cX8_mayDo 40 = .ok (.iload 4, 2) := by decide +kernel
theorem dX8_mayDo_42 : decode cX8_mayDo 42 = .ok (.ifCond .eq 43, 3) := by decide +kernel
theorem dX8_mayDo_45 : decode cX8_mayDo 45 = .ok (.sipush 520, 3) := by decide +kernel
theorem dX8_mayDo_48 : decode cX8_mayDo 48 = .ok (.iload_n 1, 1) := by decide +kernel
theorem dX8_mayDo_49 : decode cX8_mayDo 49 = .ok (.imul, 1) := by decide +kernel
theorem dX8_mayDo_50 : decode cX8_mayDo 50 = .ok (.iload_n 2, 1) := by decide +kernel
theorem dX8_mayDo_51 : decode cX8_mayDo 51 = .ok (.iadd, 1) := by decide +kernel
theorem dX8_mayDo_52 : decode cX8_mayDo 52 = .ok (.istore 5, 2) := by decide +kernel
theorem dX8_mayDo_54 : decode cX8_mayDo 54 = .ok (.aload_n 0, 1) := by decide +kernel
theorem dX8_mayDo_55 : decode cX8_mayDo 55 = .ok (.getfield 21, 3) := by decide +kernel
theorem dX8_mayDo_58 : decode cX8_mayDo 58 = .ok (.iload 5, 2) := by decide +kernel
theorem dX8_mayDo_60 : decode cX8_mayDo 60 = .ok (.iload_n 3, 1) := by decide +kernel
theorem dX8_mayDo_61 : decode cX8_mayDo 61 = .ok (.ifCond .eq 7, 3) := by decide +kernel
theorem dX8_mayDo_64 : decode cX8_mayDo 64 = .ok (.iconst 2, 1) := by decide +kernel
theorem dX8_mayDo_65 : decode cX8_mayDo 65 = .ok (.goto 19, 3) := by decide +kernel
theorem dX8_mayDo_68 : decode cX8_mayDo 68 = .ok (.aload_n 0, 1) := by decide +kernel
theorem dX8_mayDo_69 : decode cX8_mayDo 69 = .ok (.getfield 21, 3) := by decide +kernel
theorem dX8_mayDo_72 : decode cX8_mayDo 72 = .ok (.iload 5, 2) := by decide +kernel
theorem dX8_mayDo_74 : decode cX8_mayDo 74 = .ok (.baload, 1) := by decide +kernel
theorem dX8_mayDo_75 : decode cX8_mayDo 75 = .ok (.iconst 2, 1) := by decide +kernel
theorem dX8_mayDo_76 : decode cX8_mayDo 76 = .ok (.if_icmp .ne 7, 3) := by decide +kernel
theorem dX8_mayDo_79 : decode cX8_mayDo 79 = .ok (.iconst 2, 1) := by decide +kernel
theorem dX8_mayDo_80 : decode cX8_mayDo 80 = .ok (.goto 4, 3) := by decide +kernel
theorem dX8_mayDo_83 : decode cX8_mayDo 83 = .ok (.iconst 1, 1) := by decide +kernel
theorem dX8_mayDo_84 : decode cX8_mayDo 84 = .ok (.bastore, 1) := by decide +kernel
theorem dX8_mayDo_85 : decode cX8_mayDo 85 = .ok (.iload 4, 2) := by decide +kernel
theorem dX8_mayDo_87 : decode cX8_mayDo 87 = .ok (.ireturn, 1) := by decide +kernel
set_option maxRecDepth 20000 in
theorem ggX8_open_X8_isActive : GoodIn wsX8_open wsX8_isActive := goodIn_r _ [9, 1, 3, 10, 11, 12, 13, 14, 15, 16, 17, 18, 19, 20, 21, 22, 23, 24, 25] (by decide +kernel) (by decide +kernel)
set_option maxRecDepth 20000 in
theorem gX8_open_X8_isActive : GoodIn wsX8_open (wsV RX8 68 RX8 yX8_isActive wsX8_isActive) := goodIn_app (goodIn_of _ (by decide +kernel)) ggX8_open_X8_isActive
theorem dX8_open_0 : decode cX8_open 0 = .ok (.iload_n 1, 1) := by decide +kernel
theorem dX8_open_1 : decode cX8_open 1 = .ok (.ifCond .eq 11, 3) := by decide +kernel
theorem dX8_open_4 : decode cX8_open 4 = .ok (.aload_n 0, 1) := by decide +kernel
theorem dX8_open_5 : decode cX8_open 5 = .ok (.iload_n 1, 1) := by decide +kernel
theorem dX8_open_6 : decode cX8_open 6 = .ok (.invokevirtual 68, 3) := by decide +kernel
theorem dX8_open_9 : decode cX8_open 9 = .ok (.ifCond .eq 13, 3) := by decide +kernel
theorem dX8_open_12 : decode cX8_open 12 = .ok (.aload_n 0, 1) := by decide +kernel
theorem dX8_open_13 : decode cX8_open 13 = .ok (.getfield 53, 3) := by decide +kernel
theorem dX8_open_16 : decode cX8_open 16 = .ok (.sipush 150, 3) := by decide +kernel
theorem dX8_open_19 : decode cX8_open 19 = .ok (.if_icmp .ne 5, 3) := by decide +kernel
theorem dX8_open_22 : decode cX8_open 22 = .ok (.iconst (-1), 1) := by decide +kernel
theorem dX8_open_23 : decode cX8_open 23 = .ok (.ireturn, 1) := by decide +kernel
theorem dX8_open_24 : decode cX8_open 24 = .ok (.aload_n 0, 1) := by decide +kernel
theorem dX8_open_25 : decode cX8_open 25 = .ok (.dup, 1) := by decide +kernel
theorem dX8_open_26 : decode cX8_open 26 = .ok (.getfield 53, 3) := by decide +kernel
theorem dX8_open_29 : decode cX8_open 29 = .ok (.iconst 1, 1) := by decide +kernel
theorem dX8_open_30 : decode cX8_open 30 = .ok (.iadd, 1) := by decide +kernel
theorem dX8_open_31 : decode cX8_open 31 = .ok (.putfield 53, 3) := by decide +kernel
theorem dX8_open_34 : decode cX8_open 34 = .ok (.aload_n 0, 1) := by decide +kernel
theorem dX8_open_35 : decode cX8_open 35 = .ok (.getfield 24, 3) := by decide +kernel
theorem dX8_open_38 : decode cX8_open 38 = .ok (.aload_n 0, 1) := by decide +kernel
theorem dX8_open_39 : decode cX8_open 39 = .ok (.getfield 53, 3) := by decide +kernel
theorem dX8_open_42 : decode cX8_open 42 = .ok (.iload_n 1, 1) := by decide +kernel
theorem dX8_open_43 : decode cX8_open 43 = .ok (.iastore, 1) := by decide +kernel
theorem dX8_open_44 : decode cX8_open 44 = .ok (.aload_n 0, 1) := by decide +kernel
theorem dX8_open_45 : decode cX8_open 45 = .ok (.getfield 27, 3) := by decide +kernel
theorem dX8_open_48 : decode cX8_open 48 = .ok (.aload_n 0, 1) := by decide +kernel
theorem dX8_open_49 : decode cX8_open 49 = .ok (.getfield 53, 3) := by decide +kernel
theorem dX8_open_52 : decode cX8_open 52 = .ok (.iconst 0, 1) := by decide +kernel
theorem dX8_open_53 : decode cX8_open 53 = .ok (.iastore, 1) := by decide +kernel
theorem dX8_open_54 : decode cX8_open 54 = .ok (.aload_n 0, 1) := by decide +kernel
theorem dX8_open_55 : decode cX8_open 55 = .ok (.getfield 30, 3) := by decide +kernel
theorem dX8_open_58 : decode cX8_open 58 = .ok (.aload_n 0, 1) := by decide +kernel
theorem dX8_open_59 : decode cX8_open 59 = .ok (.getfield 53, 3) := by decide +kernel
theorem dX8_open_62 : decode cX8_open 62 = .ok (.iconst (-1), 1) := by decide +kernel
theorem dX8_open_63 : decode cX8_open 63 = .ok (.iastore, 1) := by decide +kernel
theorem dX8_open_64 : decode cX8_open 64 = .ok (.aload_n 0, 1) := by decide +kernel
theorem dX8_open_65 : decode cX8_open 65 = .ok (.getfield 53, 3) := by decide +kernel
theorem dX8_open_68 : decode cX8_open 68 = .ok (.ireturn, 1) := by decide +kernel
set_option maxRecDepth 20000 in
theorem ggX8_get_X8_find : GoodIn wsX8_get wsX8_find := goodIn_r _ [10, 11, 12, 47, 48, 49, 50, 51, 52, 53, 54, 55, 56, 57, 58, 59, 60, 61, 62] (by decide +kernel) (by decide +kernel)
set_option maxRecDepth 20000 in
theorem gX8_get_X8_find : GoodIn wsX8_get (wsV RX8 60 RX8 yX8_find wsX8_find) := goodIn_app (goodIn_of _ (by decide +kernel)) ggX8_get_X8_find
set_option maxRecDepth 20000 in
theorem ggX8_get_X8_isActive : GoodIn wsX8_get wsX8_isActive := goodIn_r _ [16, 17, 18, 47, 48, 49, 50, 51, 52, 53, 54, 55, 56, 57, 58, 59, 60, 61, 62] (by decide +kernel) (by decide +kernel)
set_option maxRecDepth 20000 in
theorem gX8_get_X8_isActive : GoodIn wsX8_get (wsV RX8 68 RX8 yX8_isActive wsX8_isActive) := goodIn_app (goodIn_of _ (by decide +kernel)) ggX8_get_X8_isActive
set_option maxRecDepth 20000 in
theorem ggX8_get_X8_number : GoodIn wsX8_get wsX8_number := goodIn_r _ [22, 12, 11, 6, 7, 8, 9, 10, 47, 48, 49, 50, 51, 52, 53, 54, 55, 56, 57, 58, 59, 60, 61, 62] (by decide +kernel) (by decide +kernel)
set_option maxRecDepth 20000 in
theorem gX8_get_X8_number : GoodIn wsX8_get (wsV RX8 88 RX8 yX8_number wsX8_number) := goodIn_app (goodIn_of _ (by decide +kernel)) ggX8_get_X8_number
set_option maxRecDepth 20000 in
theorem ggX8_get_X8_mayDo : GoodIn wsX8_get wsX8_mayDo := goodIn_r _ [26, 27, 28, 29, 30, 31, 32, 9, 33, 17, 34, 35, 36, 37, 13, 14, 15, 16, 18, 38, 39, 40, 41, 42, 47, 48, 49, 50, 51, 52, 53, 54, 55, 56, 57, 58, 59, 60, 61, 62] (by decide +kernel) (by decide +kernel)
set_option maxRecDepth 20000 in
theorem gX8_get_X8_mayDo : GoodIn wsX8_get (wsV RX8 91 RX8 yX8_mayDo wsX8_mayDo) := goodIn_app (goodIn_of _ (by decide +kernel)) ggX8_get_X8_mayDo
set_option maxRecDepth 20000 in
theorem ggX8_get_X8_source : GoodIn wsX8_get wsX8_source := goodIn_r _ [46, 1, 42, 47, 48, 49, 50, 51, 52, 53, 54, 55, 56, 57, 58, 59, 60, 61, 62] (by decide +kernel) (by decide +kernel)
set_option maxRecDepth 20000 in
theorem gX8_get_X8_source : GoodIn wsX8_get (wsV RX8 64 RX8 yX8_source wsX8_source) := goodIn_app (goodIn_of _ (by decide +kernel)) ggX8_get_X8_source
theorem dX8_get_0 : decode cX8_get 0 = .ok (.iload_n 1, 1) := by decide +kernel
theorem dX8_get_1 : decode cX8_get 1 = .ok (.ifCond .ne 38, 3) := by decide +kernel
theorem dX8_get_4 : decode cX8_get 4 = .ok (.aload_n 0, 1) := by decide +kernel
theorem dX8_get_5 : decode cX8_get 5 = .ok (.iload_n 2, 1) := by decide +kernel
theorem dX8_get_6 : decode cX8_get 6 = .ok (.invokevirtual 60, 3) := by decide +kernel
theorem dX8_get_9 : decode cX8_get 9 = .ok (.istore_n 3, 1) := by decide +kernel
theorem dX8_get_10 : decode cX8_get 10 = .ok (.iload_n 3, 1) := by decide +kernel
theorem dX8_get_11 : decode cX8_get 11 = .ok (.iconst (-1), 1) := by decide +kernel
theorem dX8_get_12 : decode cX8_get 12 = .ok (.if_icmp .eq 13, 3) := by decide +kernel
theorem dX8_get_15 : decode cX8_get 15 = .ok (.aload_n 0, 1) := by decide +kernel
theorem dX8_get_16 : decode cX8_get 16 = .ok (.getfield 14, 3) := by decide +kernel
theorem dX8_get_19 : decode cX8_get 19 = .ok (.iload_n 3, 1) := by decide +kernel
theorem dX8_get_20 : decode cX8_get 20 = .ok (.baload, 1) := by decide +kernel
theorem dX8_get_21 : decode cX8_get 21 = .ok (.iconst 1, 1) := by decide +kernel
theorem dX8_get_22 : decode cX8_get 22 = .ok (.if_icmp .eq 9, 3) := by decide +kernel
theorem dX8_get_25 : decode cX8_get 25 = .ok (.ldc2_w 84, 3) := by decide +kernel
theorem dX8_get_28 : decode cX8_get 28 = .ok (.goto 10, 3) := by decide +kernel
theorem dX8_get_31 : decode cX8_get 31 = .ok (.aload_n 0, 1) := by decide +kernel
theorem dX8_get_32 : decode cX8_get 32 = .ok (.getfield 18, 3) := by decide +kernel
theorem dX8_get_35 : decode cX8_get 35 = .ok (.iload_n 3, 1) := by decide +kernel
theorem dX8_get_36 : decode cX8_get 36 = .ok (.iaload, 1) := by decide +kernel
theorem dX8_get_37 : decode cX8_get 37 = .ok (.i2l, 1) := by decide +kernel
theorem dX8_get_38 : decode cX8_get 38 = .ok (.lreturn, 1) := by decide +kernel
theorem dX8_get_39 : decode cX8_get 39 = .ok (.aload_n 0, 1) := by decide +kernel
theorem dX8_get_40 : decode cX8_get 40 = .ok (.iload_n 1, 1) := by decide +kernel
theorem dX8_get_41 : decode cX8_get 41 = .ok (.invokevirtual 68, 3) := by decide +kernel
theorem dX8_get_44 : decode cX8_get 44 = .ok (.ifCond .ne 7, 3) := by decide +kernel
theorem dX8_get_47 : decode cX8_get 47 = .ok (.ldc2_w 86, 3) := by decide +kernel
theorem dX8_get_50 : decode cX8_get 50 = .ok (.lreturn, 1) := by decide +kernel
theorem dX8_get_51 : decode cX8_get 51 = .ok (.aload_n 0, 1) := by decide +kernel
theorem dX8_get_52 : decode cX8_get 52 = .ok (.iload_n 2, 1) := by decide +kernel
theorem dX8_get_53 : decode cX8_get 53 = .ok (.invokevirtual 88, 3) := by decide +kernel
theorem dX8_get_56 : decode cX8_get 56 = .ok (.istore_n 3, 1) := by decide +kernel
theorem dX8_get_57 : decode cX8_get 57 = .ok (.aload_n 0, 1) := by decide +kernel
theorem dX8_get_58 : decode cX8_get 58 = .ok (.iload_n 1, 1) := by decide +kernel
theorem dX8_get_59 : decode cX8_get 59 = .ok (.iload_n 3, 1) := by decide +kernel
theorem dX8_get_60 : decode cX8_get 60 = .ok (.iconst 0, 1) := by decide +kernel
theorem dX8_get_61 : decode cX8_get 61 = .ok (.invokevirtual 91, 3) := by decide +kernel
theorem dX8_get_64 : decode cX8_get 64 = .ok (.ifCond .ne 7, 3) := by decide +kernel
theorem dX8_get_67 : decode cX8_get 67 = .ok (.ldc2_w 95, 3) := by decide +kernel
theorem dX8_get_70 : decode cX8_get 70 = .ok (.lreturn, 1) := by decide +kernel
theorem dX8_get_71 : decode cX8_get 71 = .ok (.aload_n 0, 1) := by decide +kernel
theorem dX8_get_72 : decode cX8_get 72 = .ok (.iload_n 1, 1) := by decide +kernel
theorem dX8_get_73 : decode cX8_get 73 = .ok (.iload_n 3, 1) := by decide +kernel
theorem dX8_get_74 : decode cX8_get 74 = .ok (.invokevirtual 64, 3) := by decide +kernel
theorem dX8_get_77 : decode cX8_get 77 = .ok (.istore 4, 2) := by decide +kernel
theorem dX8_get_79 : decode cX8_get 79 = .ok (.iload 4, 2) := by decide +kernel
theorem dX8_get_81 : decode cX8_get 81 = .ok (.iconst (-1), 1) := by decide +kernel
theorem dX8_get_82 : decode cX8_get 82 = .ok (.if_icmp .ne 9, 3) := by decide +kernel
theorem dX8_get_85 : decode cX8_get 85 = .ok (.ldc2_w 84, 3) := by decide +kernel
theorem dX8_get_88 : decode cX8_get 88 = .ok (.goto 17, 3) := by decide +kernel
theorem dX8_get_91 : decode cX8_get 91 = .ok (.aload_n 0, 1) := by decide +kernel
theorem dX8_get_92 : decode cX8_get 92 = .ok (.getfield 18, 3) := by decide +kernel
theorem dX8_get_95 : decode cX8_get 95 = .ok (.sipush 520, 3) := by decide +kernel
theorem dX8_get_98 : decode cX8_get 98 = .ok (.iload 4, 2) := by decide +kernel
theorem dX8_get_100 : decode cX8_get 100 = .ok (.imul, 1) := by decide +kernel
theorem dX8_get_101 : decode cX8_get 101 = .ok (.iload_n 3, 1) := by decide +kernel
theorem dX8_get_102 : decode cX8_get 102 = .ok (.iadd, 1) := by decide +kernel
theorem dX8_get_103 : decode cX8_get 103 = .ok (.iaload, 1) := by decide +kernel
theorem dX8_get_104 : decode cX8_get 104 = .ok (.i2l, 1) := by decide +kernel
theorem dX8_get_105 : decode cX8_get 105 = .ok (.lreturn, 1) := by decide +kernel
set_option maxRecDepth 20000 in
theorem ggX8_put_X8_isActive : GoodIn wsX8_put wsX8_isActive := goodIn_r _ [7, 8, 9, 48, 49, 50, 51, 52, 53, 54, 55, 56, 57, 58, 59, 60, 61, 62, 63] (by decide +kernel) (by decide +kernel)
set_option maxRecDepth 20000 in
theorem gX8_put_X8_isActive : GoodIn wsX8_put (wsV RX8 68 RX8 yX8_isActive wsX8_isActive) := goodIn_app (goodIn_of _ (by decide +kernel)) ggX8_put_X8_isActive
set_option maxRecDepth 20000 in
theorem ggX8_put_X8_number : GoodIn wsX8_put wsX8_number := goodIn_r _ [13, 14, 15, 16, 17, 18, 6, 19, 48, 49, 50, 51, 52, 53, 54, 55, 56, 57, 58, 59, 60, 61, 62, 63] (by decide +kernel) (by decide +kernel)
set_option maxRecDepth 20000 in
theorem gX8_put_X8_number : GoodIn wsX8_put (wsV RX8 88 RX8 yX8_number wsX8_number) := goodIn_app (goodIn_of _ (by decide +kernel)) ggX8_put_X8_number
set_option maxRecDepth 20000 in
theorem ggX8_put_X8_mayDo : GoodIn wsX8_put wsX8_mayDo := goodIn_r _ [23, 24, 25, 26, 27, 28, 29, 6, 30, 8, 31, 32, 33, 34, 3, 4, 5, 7, 9, 35, 36, 37, 38, 39, 48, 49, 50, 51, 52, 53, 54, 55, 56, 57, 58, 59, 60, 61, 62, 63] (by decide +kernel) (by decide +kernel)
set_option maxRecDepth 20000 in
theorem gX8_put_X8_mayDo : GoodIn wsX8_put (wsV RX8 91 RX8 yX8_mayDo wsX8_mayDo) := goodIn_app (goodIn_of _ (by decide +kernel)) ggX8_put_X8_mayDo
set_option maxRecDepth 20000 in
theorem ggX8_put_X8_sees : GoodIn wsX8_put wsX8_sees := goodIn_r _ [43, 44, 45, 46, 6, 47, 1, 39, 48, 49, 50, 51, 52, 53, 54, 55, 56, 57, 58, 59, 60, 61, 62, 63] (by decide +kernel) (by decide +kernel)
set_option maxRecDepth 20000 in
theorem gX8_put_X8_sees : GoodIn wsX8_put (wsV RX8 97 RX8 yX8_sees wsX8_sees) := goodIn_app (goodIn_of _ (by decide +kernel)) ggX8_put_X8_sees
theorem dX8_put_0 : decode cX8_put 0 = .ok (.aload_n 0, 1) := by decide +kernel
theorem dX8_put_1 : decode cX8_put 1 = .ok (.iload_n 1, 1) := by decide +kernel
theorem dX8_put_2 : decode cX8_put 2 = .ok (.invokevirtual 68, 3) := by decide +kernel
theorem dX8_put_5 : decode cX8_put 5 = .ok (.ifCond .ne 5, 3) := by decide +kernel
theorem dX8_put_8 : decode cX8_put 8 = .ok (.iconst (-1), 1) := by decide +kernel
theorem dX8_put_9 : decode cX8_put 9 = .ok (.ireturn, 1) := by decide +kernel
theorem dX8_put_10 : decode cX8_put 10 = .ok (.aload_n 0, 1) := by decide +kernel
theorem dX8_put_11 : decode cX8_put 11 = .ok (.iload_n 2, 1) := by decide +kernel
theorem dX8_put_12 : decode cX8_put 12 = .ok (.invokevirtual 88, 3) := by decide +kernel
theorem dX8_put_15 : decode cX8_put 15 = .ok (.istore 4, 2) := by decide +kernel
theorem dX8_put_17 : decode cX8_put 17 = .ok (.aload_n 0, 1) := by decide +kernel
theorem dX8_put_18 : decode cX8_put 18 = .ok (.iload_n 1, 1) := by decide +kernel
theorem dX8_put_19 : decode cX8_put 19 = .ok (.iload 4, 2) := by decide +kernel
theorem dX8_put_21 : decode cX8_put 21 = .ok (.iconst 1, 1) := by decide +kernel
theorem dX8_put_22 : decode cX8_put 22 = .ok (.invokevirtual 91, 3) := by decide +kernel
theorem dX8_put_25 : decode cX8_put 25 = .ok (.ifCond .ne 6, 3) := by decide +kernel
theorem dX8_put_28 : decode cX8_put 28 = .ok (.bipush (-2), 2) := by decide +kernel
theorem dX8_put_30 : decode cX8_put 30 = .ok (.ireturn, 1) := by decide +kernel
theorem dX8_put_31 : decode cX8_put 31 = .ok (.aload_n 0, 1) := by decide +kernel
theorem dX8_put_32 : decode cX8_put 32 = .ok (.iload_n 1, 1) := by decide +kernel
theorem dX8_put_33 : decode cX8_put 33 = .ok (.iload 4, 2) := by decide +kernel
theorem dX8_put_35 : decode cX8_put 35 = .ok (.invokevirtual 97, 3) := by decide +kernel
theorem dX8_put_38 : decode cX8_put 38 = .ok (.ifCond .eq 7, 3) := by decide +kernel
theorem dX8_put_41 : decode cX8_put 41 = .ok (.iconst 0, 1) := by decide +kernel
theorem dX8_put_42 : decode cX8_put 42 = .ok (.goto 4, 3) := by decide +kernel
theorem dX8_put_45 : decode cX8_put 45 = .ok (.iconst 1, 1) := by decide +kernel
theorem dX8_put_46 : decode cX8_put 46 = .ok (.istore 5, 2) := by decide +kernel
theorem dX8_put_48 : decode cX8_put 48 = .ok (.aload_n 0, 1) := by decide +kernel
theorem dX8_put_49 : decode cX8_put 49 = .ok (.getfield 14, 3) := by decide +kernel
theorem dX8_put_52 : decode cX8_put 52 = .ok (.sipush 520, 3) := by decide +kernel
theorem dX8_put_55 : decode cX8_put 55 = .ok (.iload_n 1, 1) := by decide +kernel
theorem dX8_put_56 : decode cX8_put 56 = .ok (.imul, 1) := by decide +kernel
theorem dX8_put_57 : decode cX8_put 57 = .ok (.iload 4, 2) := by decide +kernel
theorem dX8_put_59 : decode cX8_put 59 = .ok (.iadd, 1) := by decide +kernel
theorem dX8_put_60 : decode cX8_put 60 = .ok (.iconst 1, 1) := by decide +kernel
theorem dX8_put_61 : decode cX8_put 61 = .ok (.bastore, 1) := by decide +kernel
theorem dX8_put_62 : decode cX8_put 62 = .ok (.aload_n 0, 1) := by decide +kernel
theorem dX8_put_63 : decode cX8_put 63 = .ok (.getfield 18, 3) := by decide +kernel
theorem dX8_put_66 : decode cX8_put 66 = .ok (.sipush 520, 3) := by decide +kernel
theorem dX8_put_69 : decode cX8_put 69 = .ok (.iload_n 1, 1) := by decide +kernel
theorem dX8_put_70 : decode cX8_put 70 = .ok (.imul, 1) := by decide +kernel
theorem dX8_put_71 : decode cX8_put 71 = .ok (.iload 4, 2) := by decide +kernel
theorem dX8_put_73 : decode cX8_put 73 = .ok (.iadd, 1) := by decide +kernel
theorem dX8_put_74 : decode cX8_put 74 = .ok (.iload_n 3, 1) := by decide +kernel
theorem dX8_put_75 : decode cX8_put 75 = .ok (.iastore, 1) := by decide +kernel
theorem dX8_put_76 : decode cX8_put 76 = .ok (.iload 5, 2) := by decide +kernel
theorem dX8_put_78 : decode cX8_put 78 = .ok (.ireturn, 1) := by decide +kernel
set_option maxRecDepth 20000 in
theorem ggX8_take_X8_isActive : GoodIn wsX8_take wsX8_isActive := goodIn_r _ [7, 8, 9, 48, 49, 50, 51, 52, 53, 54, 55, 56, 57, 58, 59, 60, 61, 62, 63] (by decide +kernel) (by decide +kernel)
set_option maxRecDepth 20000 in
theorem gX8_take_X8_isActive : GoodIn wsX8_take (wsV RX8 68 RX8 yX8_isActive wsX8_isActive) := goodIn_app (goodIn_of _ (by decide +kernel)) ggX8_take_X8_isActive
set_option maxRecDepth 20000 in
theorem ggX8_take_X8_number : GoodIn wsX8_take wsX8_number := goodIn_r _ [13, 14, 15, 16, 17, 18, 6, 19, 48, 49, 50, 51, 52, 53, 54, 55, 56, 57, 58, 59, 60, 61, 62, 63] (by decide +kernel) (by decide +kernel)
set_option maxRecDepth 20000 in
theorem gX8_take_X8_number : GoodIn wsX8_take (wsV RX8 88 RX8 yX8_number wsX8_number) := goodIn_app (goodIn_of _ (by decide +kernel)) ggX8_take_X8_number
set_option maxRecDepth 20000 in
theorem ggX8_take_X8_mayDo : GoodIn wsX8_take wsX8_mayDo := goodIn_r _ [23, 24, 25, 26, 27, 28, 29, 6, 30, 8, 31, 32, 33, 34, 3, 4, 5, 7, 9, 35, 36, 37, 38, 39, 48, 49, 50, 51, 52, 53, 54, 55, 56, 57, 58, 59, 60, 61, 62, 63] (by decide +kernel) (by decide +kernel)
set_option maxRecDepth 20000 in
theorem gX8_take_X8_mayDo : GoodIn wsX8_take (wsV RX8 91 RX8 yX8_mayDo wsX8_mayDo) := goodIn_app (goodIn_of _ (by decide +kernel)) ggX8_take_X8_mayDo
set_option maxRecDepth 20000 in
theorem ggX8_take_X8_sees : GoodIn wsX8_take wsX8_sees := goodIn_r _ [43, 44, 45, 46, 6, 47, 1, 39, 48, 49, 50, 51, 52, 53, 54, 55, 56, 57, 58, 59, 60, 61, 62, 63] (by decide +kernel) (by decide +kernel)
set_option maxRecDepth 20000 in
theorem gX8_take_X8_sees : GoodIn wsX8_take (wsV RX8 97 RX8 yX8_sees wsX8_sees) := goodIn_app (goodIn_of _ (by decide +kernel)) ggX8_take_X8_sees
theorem dX8_take_0 : decode cX8_take 0 = .ok (.aload_n 0, 1) := by decide +kernel
theorem dX8_take_1 : decode cX8_take 1 = .ok (.iload_n 1, 1) := by decide +kernel
theorem dX8_take_2 : decode cX8_take 2 = .ok (.invokevirtual 68, 3) := by decide +kernel
theorem dX8_take_5 : decode cX8_take 5 = .ok (.ifCond .ne 5, 3) := by decide +kernel
theorem dX8_take_8 : decode cX8_take 8 = .ok (.iconst (-1), 1) := by decide +kernel
theorem dX8_take_9 : decode cX8_take 9 = .ok (.ireturn, 1) := by decide +kernel
theorem dX8_take_10 : decode cX8_take 10 = .ok (.aload_n 0, 1) := by decide +kernel
theorem dX8_take_11 : decode cX8_take 11 = .ok (.iload_n 2, 1) := by decide +kernel
theorem dX8_take_12 : decode cX8_take 12 = .ok (.invokevirtual 88, 3) := by decide +kernel
theorem dX8_take_15 : decode cX8_take 15 = .ok (.istore_n 3, 1) := by decide +kernel
theorem dX8_take_16 : decode cX8_take 16 = .ok (.aload_n 0, 1) := by decide +kernel
theorem dX8_take_17 : decode cX8_take 17 = .ok (.iload_n 1, 1) := by decide +kernel
theorem dX8_take_18 : decode cX8_take 18 = .ok (.iload_n 3, 1) := by decide +kernel
theorem dX8_take_19 : decode cX8_take 19 = .ok (.iconst 1, 1) := by decide +kernel
theorem dX8_take_20 : decode cX8_take 20 = .ok (.invokevirtual 91, 3) := by decide +kernel
theorem dX8_take_23 : decode cX8_take 23 = .ok (.ifCond .ne 6, 3) := by decide +kernel
theorem dX8_take_26 : decode cX8_take 26 = .ok (.bipush (-2), 2) := by decide +kernel
theorem dX8_take_28 : decode cX8_take 28 = .ok (.ireturn, 1) := by decide +kernel
theorem dX8_take_29 : decode cX8_take 29 = .ok (.aload_n 0, 1) := by decide +kernel
theorem dX8_take_30 : decode cX8_take 30 = .ok (.iload_n 1, 1) := by decide +kernel
theorem dX8_take_31 : decode cX8_take 31 = .ok (.iload_n 3, 1) := by decide +kernel
theorem dX8_take_32 : decode cX8_take 32 = .ok (.invokevirtual 97, 3) := by decide +kernel
theorem dX8_take_35 : decode cX8_take 35 = .ok (.ifCond .eq 7, 3) := by decide +kernel
theorem dX8_take_38 : decode cX8_take 38 = .ok (.iconst 1, 1) := by decide +kernel
theorem dX8_take_39 : decode cX8_take 39 = .ok (.goto 4, 3) := by decide +kernel
theorem dX8_take_42 : decode cX8_take 42 = .ok (.iconst 0, 1) := by decide +kernel
theorem dX8_take_43 : decode cX8_take 43 = .ok (.istore 4, 2) := by decide +kernel
theorem dX8_take_45 : decode cX8_take 45 = .ok (.aload_n 0, 1) := by decide +kernel
theorem dX8_take_46 : decode cX8_take 46 = .ok (.getfield 14, 3) := by decide +kernel
theorem dX8_take_49 : decode cX8_take 49 = .ok (.sipush 520, 3) := by decide +kernel
theorem dX8_take_52 : decode cX8_take 52 = .ok (.iload_n 1, 1) := by decide +kernel
theorem dX8_take_53 : decode cX8_take 53 = .ok (.imul, 1) := by decide +kernel
theorem dX8_take_54 : decode cX8_take 54 = .ok (.iload_n 3, 1) := by decide +kernel
theorem dX8_take_55 : decode cX8_take 55 = .ok (.iadd, 1) := by decide +kernel
theorem dX8_take_56 : decode cX8_take 56 = .ok (.iconst 2, 1) := by decide +kernel
theorem dX8_take_57 : decode cX8_take 57 = .ok (.bastore, 1) := by decide +kernel
theorem dX8_take_58 : decode cX8_take 58 = .ok (.aload_n 0, 1) := by decide +kernel
theorem dX8_take_59 : decode cX8_take 59 = .ok (.getfield 18, 3) := by decide +kernel
theorem dX8_take_62 : decode cX8_take 62 = .ok (.sipush 520, 3) := by decide +kernel
theorem dX8_take_65 : decode cX8_take 65 = .ok (.iload_n 1, 1) := by decide +kernel
theorem dX8_take_66 : decode cX8_take 66 = .ok (.imul, 1) := by decide +kernel
theorem dX8_take_67 : decode cX8_take 67 = .ok (.iload_n 3, 1) := by decide +kernel
theorem dX8_take_68 : decode cX8_take 68 = .ok (.iadd, 1) := by decide +kernel
theorem dX8_take_69 : decode cX8_take 69 = .ok (.iconst 0, 1) := by decide +kernel
theorem dX8_take_70 : decode cX8_take 70 = .ok (.iastore, 1) := by decide +kernel
theorem dX8_take_71 : decode cX8_take 71 = .ok (.iload 4, 2) := by decide +kernel
theorem dX8_take_73 : decode cX8_take 73 = .ok (.ireturn, 1) := by decide +kernel
set_option maxRecDepth 20000 in
theorem ggX8_children_X8_isActive : GoodIn wsX8_children wsX8_isActive := goodIn_r _ [7, 1, 8, 9, 10, 11, 12, 13, 14, 15, 16, 17, 18, 19, 20, 21, 22, 23, 24] (by decide +kernel) (by decide +kernel)
set_option maxRecDepth 20000 in
theorem gX8_children_X8_isActive : GoodIn wsX8_children (wsV RX8 68 RX8 yX8_isActive wsX8_isActive) := goodIn_app (goodIn_of _ (by decide +kernel)) ggX8_children_X8_isActive
theorem dX8_children_0 : decode cX8_children 0 = .ok (.iconst 0, 1) := by decide +kernel
theorem dX8_children_1 : decode cX8_children 1 = .ok (.istore_n 2, 1) := by decide +kernel
theorem dX8_children_2 : decode cX8_children 2 = .ok (.iconst 1, 1) := by decide +kernel
theorem dX8_children_3 : decode cX8_children 3 = .ok (.istore_n 3, 1) := by decide +kernel
theorem dX8_children_4 : decode cX8_children 4 = .ok (.iload_n 3, 1) := by decide +kernel
theorem dX8_children_5 : decode cX8_children 5 = .ok (.aload_n 0, 1) := by decide +kernel
theorem dX8_children_6 : decode cX8_children 6 = .ok (.getfield 53, 3) := by decide +kernel
theorem dX8_children_9 : decode cX8_children 9 = .ok (.if_icmp .gt 35, 3) := by decide +kernel
theorem dX8_children_12 : decode cX8_children 12 = .ok (.iload_n 2, 1) := by decide +kernel
theorem dX8_children_13 : decode cX8_children 13 = .ok (.aload_n 0, 1) := by decide +kernel
theorem dX8_children_14 : decode cX8_children 14 = .ok (.iload_n 3, 1) := by decide +kernel
theorem dX8_children_15 : decode cX8_children 15 = .ok (.invokevirtual 68, 3) := by decide +kernel
theorem dX8_children_18 : decode cX8_children 18 = .ok (.ifCond .eq 17, 3) := by decide +kernel
theorem dX8_children_21 : decode cX8_children 21 = .ok (.aload_n 0, 1) := by decide +kernel
theorem dX8_children_22 : decode cX8_children 22 = .ok (.getfield 24, 3) := by decide +kernel
theorem dX8_children_25 : decode cX8_children 25 = .ok (.iload_n 3, 1) := by decide +kernel
theorem dX8_children_26 : decode cX8_children 26 = .ok (.iaload, 1) := by decide +kernel
theorem dX8_children_27 : decode cX8_children 27 = .ok (.iload_n 1, 1) := by decide +kernel
theorem dX8_children_28 : decode cX8_children 28 = .ok (.if_icmp .ne 7, 3) := by decide +kernel
theorem dX8_children_31 : decode cX8_children 31 = .ok (.iconst 1, 1) := by decide +kernel
theorem dX8_children_32 : decode cX8_children 32 = .ok (.goto 4, 3) := by decide +kernel
theorem dX8_children_35 : decode cX8_children 35 = .ok (.iconst 0, 1) := by decide +kernel
theorem dX8_children_36 : decode cX8_children 36 = .ok (.iadd, 1) := by decide +kernel
theorem dX8_children_37 : decode cX8_children 37 = .ok (.istore_n 2, 1) := by decide +kernel
theorem dX8_children_38 : decode cX8_children 38 = .ok (.iinc 3 1, 3) := by decide +kernel
theorem dX8_children_41 : decode cX8_children 41 = .ok (.goto (-37), 3) := by decide +kernel
theorem dX8_children_44 : decode cX8_children 44 = .ok (.iload_n 2, 1) := by decide +kernel
theorem dX8_children_45 : decode cX8_children 45 = .ok (.ireturn, 1) := by decide +kernel
set_option maxRecDepth 20000 in
theorem ggX8_mark_X8_isActive : GoodIn wsX8_mark wsX8_isActive := goodIn_r _ [12, 13, 14, 19, 20, 21, 22, 23, 24, 25, 26, 27, 28, 29, 30, 31, 32, 33, 34] (by decide +kernel) (by decide +kernel)
set_option maxRecDepth 20000 in
theorem gX8_mark_X8_isActive : GoodIn wsX8_mark (wsV RX8 68 RX8 yX8_isActive wsX8_isActive) := goodIn_app (goodIn_of _ (by decide +kernel)) ggX8_mark_X8_isActive
set_option maxRecDepth 20000 in
theorem ggX8_mark_X8_marksOf : GoodIn wsX8_mark wsX8_marksOf := goodIn_r _ [18, 2, 1, 3, 19, 20, 21, 22, 23, 24, 25, 26, 27, 28, 29, 30, 31, 32, 33, 34] (by decide +kernel) (by decide +kernel)
set_option maxRecDepth 20000 in
theorem gX8_mark_X8_marksOf : GoodIn wsX8_mark (wsV RX8 100 RX8 yX8_marksOf wsX8_marksOf) := goodIn_app (goodIn_of _ (by decide +kernel)) ggX8_mark_X8_marksOf
theorem dX8_mark_0 : decode cX8_mark 0 = .ok (.aload_n 0, 1) := by decide +kernel
theorem dX8_mark_1 : decode cX8_mark 1 = .ok (.iload_n 1, 1) := by decide +kernel
theorem dX8_mark_2 : decode cX8_mark 2 = .ok (.invokevirtual 68, 3) := by decide +kernel
theorem dX8_mark_5 : decode cX8_mark 5 = .ok (.ifCond .ne 5, 3) := by decide +kernel
theorem dX8_mark_8 : decode cX8_mark 8 = .ok (.iconst (-1), 1) := by decide +kernel
theorem dX8_mark_9 : decode cX8_mark 9 = .ok (.ireturn, 1) := by decide +kernel
theorem dX8_mark_10 : decode cX8_mark 10 = .ok (.aload_n 0, 1) := by decide +kernel
theorem dX8_mark_11 : decode cX8_mark 11 = .ok (.iload_n 1, 1) := by decide +kernel
theorem dX8_mark_12 : decode cX8_mark 12 = .ok (.invokevirtual 100, 3) := by decide +kernel
theorem dX8_mark_15 : decode cX8_mark 15 = .ok (.istore_n 2, 1) := by decide +kernel
theorem dX8_mark_16 : decode cX8_mark 16 = .ok (.aload_n 0, 1) := by decide +kernel
theorem dX8_mark_17 : decode cX8_mark 17 = .ok (.getfield 37, 3) := by decide +kernel
theorem dX8_mark_20 : decode cX8_mark 20 = .ok (.aload_n 0, 1) := by decide +kernel
theorem dX8_mark_21 : decode cX8_mark 21 = .ok (.getfield 103, 3) := by decide +kernel
theorem dX8_mark_24 : decode cX8_mark 24 = .ok (.iload_n 1, 1) := by decide +kernel
theorem dX8_mark_25 : decode cX8_mark 25 = .ok (.iastore, 1) := by decide +kernel
theorem dX8_mark_26 : decode cX8_mark 26 = .ok (.aload_n 0, 1) := by decide +kernel
theorem dX8_mark_27 : decode cX8_mark 27 = .ok (.getfield 40, 3) := by decide +kernel
theorem dX8_mark_30 : decode cX8_mark 30 = .ok (.aload_n 0, 1) := by decide +kernel
theorem dX8_mark_31 : decode cX8_mark 31 = .ok (.getfield 103, 3) := by decide +kernel
theorem dX8_mark_34 : decode cX8_mark 34 = .ok (.iconst 1, 1) := by decide +kernel
theorem dX8_mark_35 : decode cX8_mark 35 = .ok (.bastore, 1) := by decide +kernel
theorem dX8_mark_36 : decode cX8_mark 36 = .ok (.iconst 0, 1) := by decide +kernel
theorem dX8_mark_37 : decode cX8_mark 37 = .ok (.istore_n 3, 1) := by decide +kernel
theorem dX8_mark_38 : decode cX8_mark 38 = .ok (.iload_n 3, 1) := by decide +kernel
theorem dX8_mark_39 : decode cX8_mark 39 = .ok (.sipush 520, 3) := by decide +kernel
theorem dX8_mark_42 : decode cX8_mark 42 = .ok (.if_icmp .ge 63, 3) := by decide +kernel
theorem dX8_mark_45 : decode cX8_mark 45 = .ok (.aload_n 0, 1) := by decide +kernel
theorem dX8_mark_46 : decode cX8_mark 46 = .ok (.getfield 44, 3) := by decide +kernel
theorem dX8_mark_49 : decode cX8_mark 49 = .ok (.sipush 520, 3) := by decide +kernel
theorem dX8_mark_52 : decode cX8_mark 52 = .ok (.aload_n 0, 1) := by decide +kernel
theorem dX8_mark_53 : decode cX8_mark 53 = .ok (.getfield 103, 3) := by decide +kernel
theorem dX8_mark_56 : decode cX8_mark 56 = .ok (.imul, 1) := by decide +kernel
theorem dX8_mark_57 : decode cX8_mark 57 = .ok (.iload_n 3, 1) := by decide +kernel
theorem dX8_mark_58 : decode cX8_mark 58 = .ok (.iadd, 1) := by decide +kernel
theorem dX8_mark_59 : decode cX8_mark 59 = .ok (.aload_n 0, 1) := by decide +kernel
theorem dX8_mark_60 : decode cX8_mark 60 = .ok (.getfield 14, 3) := by decide +kernel
theorem dX8_mark_63 : decode cX8_mark 63 = .ok (.sipush 520, 3) := by decide +kernel
theorem dX8_mark_66 : decode cX8_mark 66 = .ok (.iload_n 1, 1) := by decide +kernel
theorem dX8_mark_67 : decode cX8_mark 67 = .ok (.imul, 1) := by decide +kernel
theorem dX8_mark_68 : decode cX8_mark 68 = .ok (.iload_n 3, 1) := by decide +kernel
theorem dX8_mark_69 : decode cX8_mark 69 = .ok (.iadd, 1) := by decide +kernel
theorem dX8_mark_70 : decode cX8_mark 70 = .ok (.baload, 1) := by decide +kernel
theorem dX8_mark_71 : decode cX8_mark 71 = .ok (.bastore, 1) := by decide +kernel
theorem dX8_mark_72 : decode cX8_mark 72 = .ok (.aload_n 0, 1) := by decide +kernel
theorem dX8_mark_73 : decode cX8_mark 73 = .ok (.getfield 47, 3) := by decide +kernel
theorem dX8_mark_76 : decode cX8_mark 76 = .ok (.sipush 520, 3) := by decide +kernel
theorem dX8_mark_79 : decode cX8_mark 79 = .ok (.aload_n 0, 1) := by decide +kernel
theorem dX8_mark_80 : decode cX8_mark 80 = .ok (.getfield 103, 3) := by decide +kernel
theorem dX8_mark_83 : decode cX8_mark 83 = .ok (.imul, 1) := by decide +kernel
theorem dX8_mark_84 : decode cX8_mark 84 = .ok (.iload_n 3, 1) := by decide +kernel
theorem dX8_mark_85 : decode cX8_mark 85 = .ok (.iadd, 1) := by decide +kernel
theorem dX8_mark_86 : decode cX8_mark 86 = .ok (.aload_n 0, 1) := by decide +kernel
theorem dX8_mark_87 : decode cX8_mark 87 = .ok (.getfield 18, 3) := by decide +kernel
theorem dX8_mark_90 : decode cX8_mark 90 = .ok (.sipush 520, 3) := by decide +kernel
theorem dX8_mark_93 : decode cX8_mark 93 = .ok (.iload_n 1, 1) := by decide +kernel
theorem dX8_mark_94 : decode cX8_mark 94 = .ok (.imul, 1) := by decide +kernel
theorem dX8_mark_95 : decode cX8_mark 95 = .ok (.iload_n 3, 1) := by decide +kernel
theorem dX8_mark_96 : decode cX8_mark 96 = .ok (.iadd, 1) := by decide +kernel
theorem dX8_mark_97 : decode cX8_mark 97 = .ok (.iaload, 1) := by decide +kernel
theorem dX8_mark_98 : decode cX8_mark 98 = .ok (.iastore, 1) := by decide +kernel
theorem dX8_mark_99 : decode cX8_mark 99 = .ok (.iinc 3 1, 3) := by decide +kernel
theorem dX8_mark_102 : decode cX8_mark 102 = .ok (.goto (-64), 3) := by decide +kernel
end
section
theorem dX8_mark_105 : decode cX8_mark 105 = .ok (.aload_n 0, 1) := by decide +kernel
theorem dX8_mark_106 : decode cX8_mark 106 = .ok (.dup, 1) := by decide +kernel
theorem dX8_mark_107 : decode cX8_mark 107 = .ok (.getfield 103, 3) := by decide +kernel
theorem dX8_mark_110 : decode cX8_mark 110 = .ok (.iconst 1, 1) := by decide +kernel
theorem dX8_mark_111 : decode cX8_mark 111 = .ok (.iadd, 1) := by decide +kernel
theorem dX8_mark_112 : decode cX8_mark 112 = .ok (.putfield 103, 3) := by decide +kernel
theorem dX8_mark_115 : decode cX8_mark 115 = .ok (.iload_n 2, 1) := by decide +kernel
theorem dX8_mark_116 : decode cX8_mark 116 = .ok (.ireturn, 1) := by decide +kernel
theorem dX8_marksOf_0 : decode cX8_marksOf 0 = .ok (.iconst 0, 1) := by decide +kernel
theorem dX8_marksOf_1 : decode cX8_marksOf 1 = .ok (.istore_n 2, 1) := by decide +kernel
theorem dX8_marksOf_2 : decode cX8_marksOf 2 = .ok (.iconst 0, 1) := by decide +kernel
theorem dX8_marksOf_3 : decode cX8_marksOf 3 = .ok (.istore_n 3, 1) := by decide +kernel
theorem dX8_marksOf_4 : decode cX8_marksOf 4 = .ok (.iload_n 3, 1) := by decide +kernel
theorem dX8_marksOf_5 : decode cX8_marksOf 5 = .ok (.aload_n 0, 1) := by decide +kernel
theorem dX8_marksOf_6 : decode cX8_marksOf 6 = .ok (.getfield 103, 3) := by decide +kernel
theorem dX8_marksOf_9 : decode cX8_marksOf 9 = .ok (.if_icmp .ge 36, 3) := by decide +kernel
theorem dX8_marksOf_12 : decode cX8_marksOf 12 = .ok (.iload_n 2, 1) := by decide +kernel
theorem dX8_marksOf_13 : decode cX8_marksOf 13 = .ok (.aload_n 0, 1) := by decide +kernel
theorem dX8_marksOf_14 : decode cX8_marksOf 14 = .ok (.getfield 37, 3) := by decide +kernel
theorem dX8_marksOf_17 : decode cX8_marksOf 17 = .ok (.iload_n 3, 1) := by decide +kernel
theorem dX8_marksOf_18 : decode cX8_marksOf 18 = .ok (.iaload, 1) := by decide +kernel
theorem dX8_marksOf_19 : decode cX8_marksOf 19 = .ok (.iload_n 1, 1) := by decide +kernel
theorem dX8_marksOf_20 : decode cX8_marksOf 20 = .ok (.if_icmp .ne 16, 3) := by decide +kernel
theorem dX8_marksOf_23 : decode cX8_marksOf 23 = .ok (.aload_n 0, 1) := by decide +kernel
theorem dX8_marksOf_24 : decode cX8_marksOf 24 = .ok (.getfield 40, 3) := by decide +kernel
theorem dX8_marksOf_27 : decode cX8_marksOf 27 = .ok (.iload_n 3, 1) := by decide +kernel
theorem dX8_marksOf_28 : decode cX8_marksOf 28 = .ok (.baload, 1) := by decide +kernel
theorem dX8_marksOf_29 : decode cX8_marksOf 29 = .ok (.ifCond .eq 7, 3) := by decide +kernel
theorem dX8_marksOf_32 : decode cX8_marksOf 32 = .ok (.iconst 1, 1) := by decide +kernel
theorem dX8_marksOf_33 : decode cX8_marksOf 33 = .ok (.goto 4, 3) := by decide +kernel
theorem dX8_marksOf_36 : decode cX8_marksOf 36 = .ok (.iconst 0, 1) := by decide +kernel
theorem dX8_marksOf_37 : decode cX8_marksOf 37 = .ok (.iadd, 1) := by decide +kernel
theorem dX8_marksOf_38 : decode cX8_marksOf 38 = .ok (.istore_n 2, 1) := by decide +kernel
theorem dX8_marksOf_39 : decode cX8_marksOf 39 = .ok (.iinc 3 1, 3) := by decide +kernel
theorem dX8_marksOf_42 : decode cX8_marksOf 42 = .ok (.goto (-38), 3) := by decide +kernel
theorem dX8_marksOf_45 : decode cX8_marksOf 45 = .ok (.iload_n 2, 1) := by decide +kernel
theorem dX8_marksOf_46 : decode cX8_marksOf 46 = .ok (.ireturn, 1) := by decide +kernel
set_option maxRecDepth 20000 in
theorem ggX8_back_X8_isActive : GoodIn wsX8_back wsX8_isActive := goodIn_r _ [8, 9, 10, 28, 29, 30, 31, 32, 33, 34, 35, 36, 37, 38, 39, 40, 41, 42, 43] (by decide +kernel) (by decide +kernel)
set_option maxRecDepth 20000 in
theorem gX8_back_X8_isActive : GoodIn wsX8_back (wsV RX8 68 RX8 yX8_isActive wsX8_isActive) := goodIn_app (goodIn_of _ (by decide +kernel)) ggX8_back_X8_isActive
set_option maxRecDepth 20000 in
theorem ggX8_back_X8_children : GoodIn wsX8_back wsX8_children := goodIn_r _ [14, 9, 15, 4, 5, 6, 7, 8, 10, 28, 29, 30, 31, 32, 33, 34, 35, 36, 37, 38, 39, 40, 41, 42, 43] (by decide +kernel) (by decide +kernel)
set_option maxRecDepth 20000 in
theorem gX8_back_X8_children : GoodIn wsX8_back (wsV RX8 106 RX8 yX8_children wsX8_children) := goodIn_app (goodIn_of _ (by decide +kernel)) ggX8_back_X8_children
set_option maxRecDepth 20000 in
theorem ggX8_back_X8_marksOf : GoodIn wsX8_back wsX8_marksOf := goodIn_r _ [19, 1, 2, 3, 28, 29, 30, 31, 32, 33, 34, 35, 36, 37, 38, 39, 40, 41, 42, 43] (by decide +kernel) (by decide +kernel)
set_option maxRecDepth 20000 in
theorem gX8_back_X8_marksOf : GoodIn wsX8_back (wsV RX8 100 RX8 yX8_marksOf wsX8_marksOf) := goodIn_app (goodIn_of _ (by decide +kernel)) ggX8_back_X8_marksOf
set_option maxRecDepth 20000 in
theorem ggX8_back_X8_restore : GoodIn wsX8_back wsX8_restore := goodIn_r _ [23, 24, 25, 26, 27, 28, 29, 30, 31, 32, 33, 34, 35, 36, 37, 38, 39, 40, 41, 42, 43] (by decide +kernel) (by decide +kernel)
set_option maxRecDepth 20000 in
theorem gX8_back_X8_restore : GoodIn wsX8_back (wsV RX8 109 RX8 yX8_restore wsX8_restore) := goodIn_app (goodIn_of _ (by decide +kernel)) ggX8_back_X8_restore
theorem dX8_back_0 : decode cX8_back 0 = .ok (.aload_n 0, 1) := by decide +kernel
theorem dX8_back_1 : decode cX8_back 1 = .ok (.iload_n 1, 1) := by decide +kernel
theorem dX8_back_2 : decode cX8_back 2 = .ok (.invokevirtual 68, 3) := by decide +kernel
theorem dX8_back_5 : decode cX8_back 5 = .ok (.ifCond .eq 24, 3) := by decide +kernel
theorem dX8_back_8 : decode cX8_back 8 = .ok (.aload_n 0, 1) := by decide +kernel
theorem dX8_back_9 : decode cX8_back 9 = .ok (.iload_n 1, 1) := by decide +kernel
theorem dX8_back_10 : decode cX8_back 10 = .ok (.invokevirtual 106, 3) := by decide +kernel
theorem dX8_back_13 : decode cX8_back 13 = .ok (.ifCond .gt 16, 3) := by decide +kernel
theorem dX8_back_16 : decode cX8_back 16 = .ok (.iload_n 2, 1) := by decide +kernel
theorem dX8_back_17 : decode cX8_back 17 = .ok (.ifCond .lt 12, 3) := by decide +kernel
theorem dX8_back_20 : decode cX8_back 20 = .ok (.iload_n 2, 1) := by decide +kernel
theorem dX8_back_21 : decode cX8_back 21 = .ok (.aload_n 0, 1) := by decide +kernel
theorem dX8_back_22 : decode cX8_back 22 = .ok (.iload_n 1, 1) := by decide +kernel
theorem dX8_back_23 : decode cX8_back 23 = .ok (.invokevirtual 100, 3) := by decide +kernel
theorem dX8_back_26 : decode cX8_back 26 = .ok (.if_icmp .lt 5, 3) := by decide +kernel
theorem dX8_back_29 : decode cX8_back 29 = .ok (.iconst (-1), 1) := by decide +kernel
theorem dX8_back_30 : decode cX8_back 30 = .ok (.ireturn, 1) := by decide +kernel
theorem dX8_back_31 : decode cX8_back 31 = .ok (.iconst 0, 1) := by decide +kernel
theorem dX8_back_32 : decode cX8_back 32 = .ok (.istore_n 3, 1) := by decide +kernel
theorem dX8_back_33 : decode cX8_back 33 = .ok (.iconst 0, 1) := by decide +kernel
theorem dX8_back_34 : decode cX8_back 34 = .ok (.istore 4, 2) := by decide +kernel
theorem dX8_back_36 : decode cX8_back 36 = .ok (.iconst 0, 1) := by decide +kernel
theorem dX8_back_37 : decode cX8_back 37 = .ok (.istore 5, 2) := by decide +kernel
theorem dX8_back_39 : decode cX8_back 39 = .ok (.iload 5, 2) := by decide +kernel
theorem dX8_back_41 : decode cX8_back 41 = .ok (.aload_n 0, 1) := by decide +kernel
theorem dX8_back_42 : decode cX8_back 42 = .ok (.getfield 103, 3) := by decide +kernel
theorem dX8_back_45 : decode cX8_back 45 = .ok (.if_icmp .ge 64, 3) := by decide +kernel
theorem dX8_back_48 : decode cX8_back 48 = .ok (.aload_n 0, 1) := by decide +kernel
theorem dX8_back_49 : decode cX8_back 49 = .ok (.getfield 37, 3) := by decide +kernel
theorem dX8_back_52 : decode cX8_back 52 = .ok (.iload 5, 2) := by decide +kernel
theorem dX8_back_54 : decode cX8_back 54 = .ok (.iaload, 1) := by decide +kernel
theorem dX8_back_55 : decode cX8_back 55 = .ok (.iload_n 1, 1) := by decide +kernel
theorem dX8_back_56 : decode cX8_back 56 = .ok (.if_icmp .ne 47, 3) := by decide +kernel
theorem dX8_back_59 : decode cX8_back 59 = .ok (.aload_n 0, 1) := by decide +kernel
theorem dX8_back_60 : decode cX8_back 60 = .ok (.getfield 40, 3) := by decide +kernel
theorem dX8_back_63 : decode cX8_back 63 = .ok (.iload 5, 2) := by decide +kernel
theorem dX8_back_65 : decode cX8_back 65 = .ok (.baload, 1) := by decide +kernel
theorem dX8_back_66 : decode cX8_back 66 = .ok (.ifCond .eq 37, 3) := by decide +kernel
theorem dX8_back_69 : decode cX8_back 69 = .ok (.iload_n 3, 1) := by decide +kernel
theorem dX8_back_70 : decode cX8_back 70 = .ok (.iload_n 2, 1) := by decide +kernel
theorem dX8_back_71 : decode cX8_back 71 = .ok (.if_icmp .ne 12, 3) := by decide +kernel
theorem dX8_back_74 : decode cX8_back 74 = .ok (.aload_n 0, 1) := by decide +kernel
theorem dX8_back_75 : decode cX8_back 75 = .ok (.iload_n 1, 1) := by decide +kernel
theorem dX8_back_76 : decode cX8_back 76 = .ok (.iload 5, 2) := by decide +kernel
theorem dX8_back_78 : decode cX8_back 78 = .ok (.invokevirtual 109, 3) := by decide +kernel
theorem dX8_back_81 : decode cX8_back 81 = .ok (.istore 4, 2) := by decide +kernel
theorem dX8_back_83 : decode cX8_back 83 = .ok (.aload_n 0, 1) := by decide +kernel
theorem dX8_back_84 : decode cX8_back 84 = .ok (.getfield 40, 3) := by decide +kernel
theorem dX8_back_87 : decode cX8_back 87 = .ok (.iload 5, 2) := by decide +kernel
theorem dX8_back_89 : decode cX8_back 89 = .ok (.iload_n 3, 1) := by decide +kernel
theorem dX8_back_90 : decode cX8_back 90 = .ok (.iload_n 2, 1) := by decide +kernel
theorem dX8_back_91 : decode cX8_back 91 = .ok (.if_icmp .gt 7, 3) := by decide +kernel
theorem dX8_back_94 : decode cX8_back 94 = .ok (.iconst 1, 1) := by decide +kernel
theorem dX8_back_95 : decode cX8_back 95 = .ok (.goto 4, 3) := by decide +kernel
theorem dX8_back_98 : decode cX8_back 98 = .ok (.iconst 0, 1) := by decide +kernel
theorem dX8_back_99 : decode cX8_back 99 = .ok (.bastore, 1) := by decide +kernel
theorem dX8_back_100 : decode cX8_back 100 = .ok (.iinc 3 1, 3) := by decide +kernel
theorem dX8_back_103 : decode cX8_back 103 = .ok (.iinc 5 1, 3) := by decide +kernel
theorem dX8_back_106 : decode cX8_back 106 = .ok (.goto (-67), 3) := by decide +kernel
theorem dX8_back_109 : decode cX8_back 109 = .ok (.iload 4, 2) := by decide +kernel
theorem dX8_back_111 : decode cX8_back 111 = .ok (.ireturn, 1) := by decide +kernel
theorem dX8_restore_0 : decode cX8_restore 0 = .ok (.iconst 0, 1) := by decide +kernel
theorem dX8_restore_1 : decode cX8_restore 1 = .ok (.istore_n 3, 1) := by decide +kernel
theorem dX8_restore_2 : decode cX8_restore 2 = .ok (.iconst 0, 1) := by decide +kernel
theorem dX8_restore_3 : decode cX8_restore 3 = .ok (.istore 4, 2) := by decide +kernel
theorem dX8_restore_5 : decode cX8_restore 5 = .ok (.iload 4, 2) := by decide +kernel
theorem dX8_restore_7 : decode cX8_restore 7 = .ok (.sipush 520, 3) := by decide +kernel
theorem dX8_restore_10 : decode cX8_restore 10 = .ok (.if_icmp .ge 99, 3) := by decide +kernel
theorem dX8_restore_13 : decode cX8_restore 13 = .ok (.sipush 520, 3) := by decide +kernel
theorem dX8_restore_16 : decode cX8_restore 16 = .ok (.iload_n 1, 1) := by decide +kernel
theorem dX8_restore_17 : decode cX8_restore 17 = .ok (.imul, 1) := by decide +kernel
theorem dX8_restore_18 : decode cX8_restore 18 = .ok (.iload 4, 2) := by decide +kernel
theorem dX8_restore_20 : decode cX8_restore 20 = .ok (.iadd, 1) := by decide +kernel
theorem dX8_restore_21 : decode cX8_restore 21 = .ok (.istore 5, 2) := by decide +kernel
theorem dX8_restore_23 : decode cX8_restore 23 = .ok (.sipush 520, 3) := by decide +kernel
theorem dX8_restore_26 : decode cX8_restore 26 = .ok (.iload_n 2, 1) := by decide +kernel
theorem dX8_restore_27 : decode cX8_restore 27 = .ok (.imul, 1) := by decide +kernel
theorem dX8_restore_28 : decode cX8_restore 28 = .ok (.iload 4, 2) := by decide +kernel
theorem dX8_restore_30 : decode cX8_restore 30 = .ok (.iadd, 1) := by decide +kernel
theorem dX8_restore_31 : decode cX8_restore 31 = .ok (.istore 6, 2) := by decide +kernel
theorem dX8_restore_33 : decode cX8_restore 33 = .ok (.iload_n 3, 1) := by decide +kernel
theorem dX8_restore_34 : decode cX8_restore 34 = .ok (.aload_n 0, 1) := by decide +kernel
theorem dX8_restore_35 : decode cX8_restore 35 = .ok (.getfield 14, 3) := by decide +kernel
theorem dX8_restore_38 : decode cX8_restore 38 = .ok (.iload 5, 2) := by decide +kernel
theorem dX8_restore_40 : decode cX8_restore 40 = .ok (.baload, 1) := by decide +kernel
theorem dX8_restore_41 : decode cX8_restore 41 = .ok (.aload_n 0, 1) := by decide +kernel
theorem dX8_restore_42 : decode cX8_restore 42 = .ok (.getfield 44, 3) := by decide +kernel
theorem dX8_restore_45 : decode cX8_restore 45 = .ok (.iload 6, 2) := by decide +kernel
theorem dX8_restore_47 : decode cX8_restore 47 = .ok (.baload, 1) := by decide +kernel
theorem dX8_restore_48 : decode cX8_restore 48 = .ok (.if_icmp .ne 20, 3) := by decide +kernel
theorem dX8_restore_51 : decode cX8_restore 51 = .ok (.aload_n 0, 1) := by decide +kernel
theorem dX8_restore_52 : decode cX8_restore 52 = .ok (.getfield 18, 3) := by decide +kernel
theorem dX8_restore_55 : decode cX8_restore 55 = .ok (.iload 5, 2) := by decide +kernel
theorem dX8_restore_57 : decode cX8_restore 57 = .ok (.iaload, 1) := by decide +kernel
theorem dX8_restore_58 : decode cX8_restore 58 = .ok (.aload_n 0, 1) := by decide +kernel
theorem dX8_restore_59 : decode cX8_restore 59 = .ok (.getfield 47, 3) := by decide +kernel
theorem dX8_restore_62 : decode cX8_restore 62 = .ok (.iload 6, 2) := by decide +kernel
theorem dX8_restore_64 : decode cX8_restore 64 = .ok (.iaload, 1) := by decide +kernel
theorem dX8_restore_65 : decode cX8_restore 65 = .ok (.if_icmp .eq 7, 3) := by decide +kernel
theorem dX8_restore_68 : decode cX8_restore 68 = .ok (.iconst 1, 1) := by decide +kernel
theorem dX8_restore_69 : decode cX8_restore 69 = .ok (.goto 4, 3) := by decide +kernel
theorem dX8_restore_72 : decode cX8_restore 72 = .ok (.iconst 0, 1) := by decide +kernel
theorem dX8_restore_73 : decode cX8_restore 73 = .ok (.iadd, 1) := by decide +kernel
theorem dX8_restore_74 : decode cX8_restore 74 = .ok (.istore_n 3, 1) := by decide +kernel
theorem dX8_restore_75 : decode cX8_restore 75 = .ok (.aload_n 0, 1) := by decide +kernel
theorem dX8_restore_76 : decode cX8_restore 76 = .ok (.getfield 14, 3) := by decide +kernel
theorem dX8_restore_79 : decode cX8_restore 79 = .ok (.iload 5, 2) := by decide +kernel
theorem dX8_restore_81 : decode cX8_restore 81 = .ok (.aload_n 0, 1) := by decide +kernel
theorem dX8_restore_82 : decode cX8_restore 82 = .ok (.getfield 44, 3) := by decide +kernel
theorem dX8_restore_85 : decode cX8_restore 85 = .ok (.iload 6, 2) := by decide +kernel
theorem dX8_restore_87 : decode cX8_restore 87 = .ok (.baload, 1) := by decide +kernel
theorem dX8_restore_88 : decode cX8_restore 88 = .ok (.bastore, 1) := by decide +kernel
theorem dX8_restore_89 : decode cX8_restore 89 = .ok (.aload_n 0, 1) := by decide +kernel
theorem dX8_restore_90 : decode cX8_restore 90 = .ok (.getfield 18, 3) := by decide +kernel
theorem dX8_restore_93 : decode cX8_restore 93 = .ok (.iload 5, 2) := by decide +kernel
theorem dX8_restore_95 : decode cX8_restore 95 = .ok (.aload_n 0, 1) := by decide +kernel
theorem dX8_restore_96 : decode cX8_restore 96 = .ok (.getfield 47, 3) := by decide +kernel
theorem dX8_restore_99 : decode cX8_restore 99 = .ok (.iload 6, 2) := by decide +kernel
theorem dX8_restore_101 : decode cX8_restore 101 = .ok (.iaload, 1) := by decide +kernel
theorem dX8_restore_102 : decode cX8_restore 102 = .ok (.iastore, 1) := by decide +kernel
theorem dX8_restore_103 : decode cX8_restore 103 = .ok (.iinc 4 1, 3) := by decide +kernel
theorem dX8_restore_106 : decode cX8_restore 106 = .ok (.goto (-101), 3) := by decide +kernel
theorem dX8_restore_109 : decode cX8_restore 109 = .ok (.iload_n 3, 1) := by decide +kernel
theorem dX8_restore_110 : decode cX8_restore 110 = .ok (.ireturn, 1) := by decide +kernel
theorem dX8_end_0 : decode cX8_end 0 = .ok (.aload_n 0, 1) := by decide +kernel
theorem dX8_end_1 : decode cX8_end 1 = .ok (.getfield 27, 3) := by decide +kernel
theorem dX8_end_4 : decode cX8_end 4 = .ok (.iload_n 1, 1) := by decide +kernel
theorem dX8_end_5 : decode cX8_end 5 = .ok (.iload_n 2, 1) := by decide +kernel
theorem dX8_end_6 : decode cX8_end 6 = .ok (.iastore, 1) := by decide +kernel
theorem dX8_end_7 : decode cX8_end 7 = .ok (.iconst 0, 1) := by decide +kernel
theorem dX8_end_8 : decode cX8_end 8 = .ok (.istore_n 3, 1) := by decide +kernel
theorem dX8_end_9 : decode cX8_end 9 = .ok (.iload_n 3, 1) := by decide +kernel
theorem dX8_end_10 : decode cX8_end 10 = .ok (.sipush 520, 3) := by decide +kernel
theorem dX8_end_13 : decode cX8_end 13 = .ok (.if_icmp .ge 48, 3) := by decide +kernel
theorem dX8_end_16 : decode cX8_end 16 = .ok (.aload_n 0, 1) := by decide +kernel
theorem dX8_end_17 : decode cX8_end 17 = .ok (.getfield 14, 3) := by decide +kernel
theorem dX8_end_20 : decode cX8_end 20 = .ok (.sipush 520, 3) := by decide +kernel
theorem dX8_end_23 : decode cX8_end 23 = .ok (.iload_n 1, 1) := by decide +kernel
theorem dX8_end_24 : decode cX8_end 24 = .ok (.imul, 1) := by decide +kernel
theorem dX8_end_25 : decode cX8_end 25 = .ok (.iload_n 3, 1) := by decide +kernel
theorem dX8_end_26 : decode cX8_end 26 = .ok (.iadd, 1) := by decide +kernel
theorem dX8_end_27 : decode cX8_end 27 = .ok (.iconst 0, 1) := by decide +kernel
theorem dX8_end_28 : decode cX8_end 28 = .ok (.bastore, 1) := by decide +kernel
theorem dX8_end_29 : decode cX8_end 29 = .ok (.aload_n 0, 1) := by decide +kernel
theorem dX8_end_30 : decode cX8_end 30 = .ok (.getfield 18, 3) := by decide +kernel
theorem dX8_end_33 : decode cX8_end 33 = .ok (.sipush 520, 3) := by decide +kernel
theorem dX8_end_36 : decode cX8_end 36 = .ok (.iload_n 1, 1) := by decide +kernel
theorem dX8_end_37 : decode cX8_end 37 = .ok (.imul, 1) := by decide +kernel
theorem dX8_end_38 : decode cX8_end 38 = .ok (.iload_n 3, 1) := by decide +kernel
theorem dX8_end_39 : decode cX8_end 39 = .ok (.iadd, 1) := by decide +kernel
theorem dX8_end_40 : decode cX8_end 40 = .ok (.iconst 0, 1) := by decide +kernel
theorem dX8_end_41 : decode cX8_end 41 = .ok (.iastore, 1) := by decide +kernel
theorem dX8_end_42 : decode cX8_end 42 = .ok (.aload_n 0, 1) := by decide +kernel
theorem dX8_end_43 : decode cX8_end 43 = .ok (.getfield 21, 3) := by decide +kernel
theorem dX8_end_46 : decode cX8_end 46 = .ok (.sipush 520, 3) := by decide +kernel
theorem dX8_end_49 : decode cX8_end 49 = .ok (.iload_n 1, 1) := by decide +kernel
theorem dX8_end_50 : decode cX8_end 50 = .ok (.imul, 1) := by decide +kernel
theorem dX8_end_51 : decode cX8_end 51 = .ok (.iload_n 3, 1) := by decide +kernel
theorem dX8_end_52 : decode cX8_end 52 = .ok (.iadd, 1) := by decide +kernel
theorem dX8_end_53 : decode cX8_end 53 = .ok (.iconst 0, 1) := by decide +kernel
theorem dX8_end_54 : decode cX8_end 54 = .ok (.bastore, 1) := by decide +kernel
theorem dX8_end_55 : decode cX8_end 55 = .ok (.iinc 3 1, 3) := by decide +kernel
theorem dX8_end_58 : decode cX8_end 58 = .ok (.goto (-49), 3) := by decide +kernel
theorem dX8_end_61 : decode cX8_end 61 = .ok (.iconst 0, 1) := by decide +kernel
theorem dX8_end_62 : decode cX8_end 62 = .ok (.istore_n 3, 1) := by decide +kernel
theorem dX8_end_63 : decode cX8_end 63 = .ok (.iload_n 3, 1) := by decide +kernel
theorem dX8_end_64 : decode cX8_end 64 = .ok (.aload_n 0, 1) := by decide +kernel
theorem dX8_end_65 : decode cX8_end 65 = .ok (.getfield 103, 3) := by decide +kernel
theorem dX8_end_68 : decode cX8_end 68 = .ok (.if_icmp .ge 39, 3) := by decide +kernel
theorem dX8_end_71 : decode cX8_end 71 = .ok (.aload_n 0, 1) := by decide +kernel
theorem dX8_end_72 : decode cX8_end 72 = .ok (.getfield 40, 3) := by decide +kernel
theorem dX8_end_75 : decode cX8_end 75 = .ok (.iload_n 3, 1) := by decide +kernel
theorem dX8_end_76 : decode cX8_end 76 = .ok (.aload_n 0, 1) := by decide +kernel
theorem dX8_end_77 : decode cX8_end 77 = .ok (.getfield 40, 3) := by decide +kernel
theorem dX8_end_80 : decode cX8_end 80 = .ok (.iload_n 3, 1) := by decide +kernel
theorem dX8_end_81 : decode cX8_end 81 = .ok (.baload, 1) := by decide +kernel
theorem dX8_end_82 : decode cX8_end 82 = .ok (.ifCond .eq 17, 3) := by decide +kernel
theorem dX8_end_85 : decode cX8_end 85 = .ok (.aload_n 0, 1) := by decide +kernel
theorem dX8_end_86 : decode cX8_end 86 = .ok (.getfield 37, 3) := by decide +kernel
theorem dX8_end_89 : decode cX8_end 89 = .ok (.iload_n 3, 1) := by decide +kernel
theorem dX8_end_90 : decode cX8_end 90 = .ok (.iaload, 1) := by decide +kernel
theorem dX8_end_91 : decode cX8_end 91 = .ok (.iload_n 1, 1) := by decide +kernel
theorem dX8_end_92 : decode cX8_end 92 = .ok (.if_icmp .eq 7, 3) := by decide +kernel
theorem dX8_end_95 : decode cX8_end 95 = .ok (.iconst 1, 1) := by decide +kernel
theorem dX8_end_96 : decode cX8_end 96 = .ok (.goto 4, 3) := by decide +kernel
theorem dX8_end_99 : decode cX8_end 99 = .ok (.iconst 0, 1) := by decide +kernel
theorem dX8_end_100 : decode cX8_end 100 = .ok (.bastore, 1) := by decide +kernel
theorem dX8_end_101 : decode cX8_end 101 = .ok (.iinc 3 1, 3) := by decide +kernel
theorem dX8_end_104 : decode cX8_end 104 = .ok (.goto (-41), 3) := by decide +kernel
theorem dX8_end_107 : decode cX8_end 107 = .ok (.return_, 1) := by decide +kernel
set_option maxRecDepth 20000 in
theorem ggX8_commit_X8_isActive : GoodIn wsX8_commit wsX8_isActive := goodIn_r _ [9, 10, 11, 23, 24, 25, 26, 27, 28, 29, 30, 31, 32, 33, 34, 35, 36, 37, 38] (by decide +kernel) (by decide +kernel)
set_option maxRecDepth 20000 in
theorem gX8_commit_X8_isActive : GoodIn wsX8_commit (wsV RX8 68 RX8 yX8_isActive wsX8_isActive) := goodIn_app (goodIn_of _ (by decide +kernel)) ggX8_commit_X8_isActive
set_option maxRecDepth 20000 in
theorem ggX8_commit_X8_children : GoodIn wsX8_commit wsX8_children := goodIn_r _ [15, 10, 1, 5, 6, 7, 8, 9, 11, 23, 24, 25, 26, 27, 28, 29, 30, 31, 32, 33, 34, 35, 36, 37, 38] (by decide +kernel) (by decide +kernel)
set_option maxRecDepth 20000 in
theorem gX8_commit_X8_children : GoodIn wsX8_commit (wsV RX8 106 RX8 yX8_children wsX8_children) := goodIn_app (goodIn_of _ (by decide +kernel)) ggX8_commit_X8_children
set_option maxRecDepth 20000 in
theorem ggX8_commit_X8_end : GoodIn wsX8_commit wsX8_end := goodIn_r _ [19, 11, 2, 3, 4, 20, 21, 22, 23, 24, 25, 26, 27, 28, 29, 30, 31, 32, 33, 34, 35, 36, 37, 38] (by decide +kernel) (by decide +kernel)
set_option maxRecDepth 20000 in
theorem gX8_commit_X8_end : GoodIn wsX8_commit (wsV RX8 112 RX8 yX8_end wsX8_end) := goodIn_app (goodIn_of _ (by decide +kernel)) ggX8_commit_X8_end
theorem dX8_commit_0 : decode cX8_commit 0 = .ok (.aload_n 0, 1) := by decide +kernel
theorem dX8_commit_1 : decode cX8_commit 1 = .ok (.iload_n 1, 1) := by decide +kernel
theorem dX8_commit_2 : decode cX8_commit 2 = .ok (.invokevirtual 68, 3) := by decide +kernel
theorem dX8_commit_5 : decode cX8_commit 5 = .ok (.ifCond .eq 11, 3) := by decide +kernel
theorem dX8_commit_8 : decode cX8_commit 8 = .ok (.aload_n 0, 1) := by decide +kernel
theorem dX8_commit_9 : decode cX8_commit 9 = .ok (.iload_n 1, 1) := by decide +kernel
theorem dX8_commit_10 : decode cX8_commit 10 = .ok (.invokevirtual 106, 3) := by decide +kernel
theorem dX8_commit_13 : decode cX8_commit 13 = .ok (.ifCond .le 5, 3) := by decide +kernel
theorem dX8_commit_16 : decode cX8_commit 16 = .ok (.iconst (-1), 1) := by decide +kernel
theorem dX8_commit_17 : decode cX8_commit 17 = .ok (.ireturn, 1) := by decide +kernel
theorem dX8_commit_18 : decode cX8_commit 18 = .ok (.iconst 0, 1) := by decide +kernel
theorem dX8_commit_19 : decode cX8_commit 19 = .ok (.istore_n 2, 1) := by decide +kernel
theorem dX8_commit_20 : decode cX8_commit 20 = .ok (.aload_n 0, 1) := by decide +kernel
theorem dX8_commit_21 : decode cX8_commit 21 = .ok (.getfield 24, 3) := by decide +kernel
theorem dX8_commit_24 : decode cX8_commit 24 = .ok (.iload_n 1, 1) := by decide +kernel
theorem dX8_commit_25 : decode cX8_commit 25 = .ok (.iaload, 1) := by decide +kernel
theorem dX8_commit_26 : decode cX8_commit 26 = .ok (.istore_n 3, 1) := by decide +kernel
theorem dX8_commit_27 : decode cX8_commit 27 = .ok (.iconst 0, 1) := by decide +kernel
theorem dX8_commit_28 : decode cX8_commit 28 = .ok (.istore 4, 2) := by decide +kernel
theorem dX8_commit_30 : decode cX8_commit 30 = .ok (.iload 4, 2) := by decide +kernel
theorem dX8_commit_32 : decode cX8_commit 32 = .ok (.sipush 520, 3) := by decide +kernel
theorem dX8_commit_35 : decode cX8_commit 35 = .ok (.if_icmp .ge 105, 3) := by decide +kernel
theorem dX8_commit_38 : decode cX8_commit 38 = .ok (.sipush 520, 3) := by decide +kernel
theorem dX8_commit_41 : decode cX8_commit 41 = .ok (.iload_n 1, 1) := by decide +kernel
theorem dX8_commit_42 : decode cX8_commit 42 = .ok (.imul, 1) := by decide +kernel
theorem dX8_commit_43 : decode cX8_commit 43 = .ok (.iload 4, 2) := by decide +kernel
theorem dX8_commit_45 : decode cX8_commit 45 = .ok (.iadd, 1) := by decide +kernel
theorem dX8_commit_46 : decode cX8_commit 46 = .ok (.istore 5, 2) := by decide +kernel
theorem dX8_commit_48 : decode cX8_commit 48 = .ok (.sipush 520, 3) := by decide +kernel
theorem dX8_commit_51 : decode cX8_commit 51 = .ok (.iload_n 3, 1) := by decide +kernel
theorem dX8_commit_52 : decode cX8_commit 52 = .ok (.imul, 1) := by decide +kernel
theorem dX8_commit_53 : decode cX8_commit 53 = .ok (.iload 4, 2) := by decide +kernel
theorem dX8_commit_55 : decode cX8_commit 55 = .ok (.iadd, 1) := by decide +kernel
theorem dX8_commit_56 : decode cX8_commit 56 = .ok (.istore 6, 2) := by decide +kernel
theorem dX8_commit_58 : decode cX8_commit 58 = .ok (.aload_n 0, 1) := by decide +kernel
theorem dX8_commit_59 : decode cX8_commit 59 = .ok (.getfield 14, 3) := by decide +kernel
theorem dX8_commit_62 : decode cX8_commit 62 = .ok (.iload 5, 2) := by decide +kernel
theorem dX8_commit_64 : decode cX8_commit 64 = .ok (.baload, 1) := by decide +kernel
theorem dX8_commit_65 : decode cX8_commit 65 = .ok (.ifCond .eq 34, 3) := by decide +kernel
theorem dX8_commit_68 : decode cX8_commit 68 = .ok (.iinc 2 1, 3) := by decide +kernel
theorem dX8_commit_71 : decode cX8_commit 71 = .ok (.aload_n 0, 1) := by decide +kernel
theorem dX8_commit_72 : decode cX8_commit 72 = .ok (.getfield 14, 3) := by decide +kernel
theorem dX8_commit_75 : decode cX8_commit 75 = .ok (.iload 6, 2) := by decide +kernel
theorem dX8_commit_77 : decode cX8_commit 77 = .ok (.aload_n 0, 1) := by decide +kernel
theorem dX8_commit_78 : decode cX8_commit 78 = .ok (.getfield 14, 3) := by decide +kernel
theorem dX8_commit_81 : decode cX8_commit 81 = .ok (.iload 5, 2) := by decide +kernel
theorem dX8_commit_83 : decode cX8_commit 83 = .ok (.baload, 1) := by decide +kernel
theorem dX8_commit_84 : decode cX8_commit 84 = .ok (.bastore, 1) := by decide +kernel
theorem dX8_commit_85 : decode cX8_commit 85 = .ok (.aload_n 0, 1) := by decide +kernel
theorem dX8_commit_86 : decode cX8_commit 86 = .ok (.getfield 18, 3) := by decide +kernel
theorem dX8_commit_89 : decode cX8_commit 89 = .ok (.iload 6, 2) := by decide +kernel
theorem dX8_commit_91 : decode cX8_commit 91 = .ok (.aload_n 0, 1) := by decide +kernel
theorem dX8_commit_92 : decode cX8_commit 92 = .ok (.getfield 18, 3) := by decide +kernel
theorem dX8_commit_95 : decode cX8_commit 95 = .ok (.iload 5, 2) := by decide +kernel
theorem dX8_commit_97 : decode cX8_commit 97 = .ok (.iaload, 1) := by decide +kernel
theorem dX8_commit_98 : decode cX8_commit 98 = .ok (.iastore, 1) := by decide +kernel
theorem dX8_commit_99 : decode cX8_commit 99 = .ok (.iload_n 3, 1) := by decide +kernel
theorem dX8_commit_100 : decode cX8_commit 100 = .ok (.ifCond .eq 34, 3) := by decide +kernel
theorem dX8_commit_103 : decode cX8_commit 103 = .ok (.aload_n 0, 1) := by decide +kernel
theorem dX8_commit_104 : decode cX8_commit 104 = .ok (.getfield 21, 3) := by decide +kernel
theorem dX8_commit_107 : decode cX8_commit 107 = .ok (.iload 5, 2) := by decide +kernel
theorem dX8_commit_109 : decode cX8_commit 109 = .ok (.baload, 1) := by decide +kernel
theorem dX8_commit_110 : decode cX8_commit 110 = .ok (.aload_n 0, 1) := by decide +kernel
theorem dX8_commit_111 : decode cX8_commit 111 = .ok (.getfield 21, 3) := by decide +kernel
theorem dX8_commit_114 : decode cX8_commit 114 = .ok (.iload 6, 2) := by decide +kernel
theorem dX8_commit_116 : decode cX8_commit 116 = .ok (.baload, 1) := by decide +kernel
theorem dX8_commit_117 : decode cX8_commit 117 = .ok (.if_icmp .le 17, 3) := by decide +kernel
theorem dX8_commit_120 : decode cX8_commit 120 = .ok (.aload_n 0, 1) := by decide +kernel
theorem dX8_commit_121 : decode cX8_commit 121 = .ok (.getfield 21, 3) := by decide +kernel
theorem dX8_commit_124 : decode cX8_commit 124 = .ok (.iload 6, 2) := by decide +kernel
theorem dX8_commit_126 : decode cX8_commit 126 = .ok (.aload_n 0, 1) := by decide +kernel
theorem dX8_commit_127 : decode cX8_commit 127 = .ok (.getfield 21, 3) := by decide +kernel
theorem dX8_commit_130 : decode cX8_commit 130 = .ok (.iload 5, 2) := by decide +kernel
theorem dX8_commit_132 : decode cX8_commit 132 = .ok (.baload, 1) := by decide +kernel
theorem dX8_commit_133 : decode cX8_commit 133 = .ok (.bastore, 1) := by decide +kernel
theorem dX8_commit_134 : decode cX8_commit 134 = .ok (.iinc 4 1, 3) := by decide +kernel
theorem dX8_commit_137 : decode cX8_commit 137 = .ok (.goto (-107), 3) := by decide +kernel
theorem dX8_commit_140 : decode cX8_commit 140 = .ok (.aload_n 0, 1) := by decide +kernel
theorem dX8_commit_141 : decode cX8_commit 141 = .ok (.iload_n 1, 1) := by decide +kernel
theorem dX8_commit_142 : decode cX8_commit 142 = .ok (.iconst 1, 1) := by decide +kernel
theorem dX8_commit_143 : decode cX8_commit 143 = .ok (.invokevirtual 112, 3) := by decide +kernel
theorem dX8_commit_146 : decode cX8_commit 146 = .ok (.iload_n 2, 1) := by decide +kernel
theorem dX8_commit_147 : decode cX8_commit 147 = .ok (.ireturn, 1) := by decide +kernel
set_option maxRecDepth 20000 in
theorem ggX8_abort_X8_isActive : GoodIn wsX8_abort wsX8_isActive := goodIn_r _ [6, 1, 7, 23, 24, 25, 26, 27, 28, 29, 30, 31, 32, 33, 34, 35, 36, 37, 38] (by decide +kernel) (by decide +kernel)
set_option maxRecDepth 20000 in
theorem gX8_abort_X8_isActive : GoodIn wsX8_abort (wsV RX8 68 RX8 yX8_isActive wsX8_isActive) := goodIn_app (goodIn_of _ (by decide +kernel)) ggX8_abort_X8_isActive
set_option maxRecDepth 20000 in
theorem ggX8_abort_X8_isAncestor : GoodIn wsX8_abort wsX8_isAncestor := goodIn_r _ [11, 12, 23, 24, 25, 26, 27, 28, 29, 30, 31, 32, 33, 34, 35, 36, 37, 38] (by decide +kernel) (by decide +kernel)
set_option maxRecDepth 20000 in
theorem gX8_abort_X8_isAncestor : GoodIn wsX8_abort (wsV RX8 72 RX8 yX8_isAncestor wsX8_isAncestor) := goodIn_app (goodIn_of _ (by decide +kernel)) ggX8_abort_X8_isAncestor
set_option maxRecDepth 20000 in
theorem ggX8_abort_X8_end : GoodIn wsX8_abort wsX8_end := goodIn_r _ [16, 7, 17, 18, 19, 20, 21, 22, 23, 24, 25, 26, 27, 28, 29, 30, 31, 32, 33, 34, 35, 36, 37, 38] (by decide +kernel) (by decide +kernel)
set_option maxRecDepth 20000 in
theorem gX8_abort_X8_end : GoodIn wsX8_abort (wsV RX8 112 RX8 yX8_end wsX8_end) := goodIn_app (goodIn_of _ (by decide +kernel)) ggX8_abort_X8_end
theorem dX8_abort_0 : decode cX8_abort 0 = .ok (.aload_n 0, 1) := by decide +kernel
theorem dX8_abort_1 : decode cX8_abort 1 = .ok (.iload_n 1, 1) := by decide +kernel
theorem dX8_abort_2 : decode cX8_abort 2 = .ok (.invokevirtual 68, 3) := by decide +kernel
theorem dX8_abort_5 : decode cX8_abort 5 = .ok (.ifCond .ne 5, 3) := by decide +kernel
theorem dX8_abort_8 : decode cX8_abort 8 = .ok (.iconst (-1), 1) := by decide +kernel
theorem dX8_abort_9 : decode cX8_abort 9 = .ok (.ireturn, 1) := by decide +kernel
theorem dX8_abort_10 : decode cX8_abort 10 = .ok (.iconst 0, 1) := by decide +kernel
theorem dX8_abort_11 : decode cX8_abort 11 = .ok (.istore_n 2, 1) := by decide +kernel
theorem dX8_abort_12 : decode cX8_abort 12 = .ok (.aload_n 0, 1) := by decide +kernel
theorem dX8_abort_13 : decode cX8_abort 13 = .ok (.getfield 53, 3) := by decide +kernel
theorem dX8_abort_16 : decode cX8_abort 16 = .ok (.istore_n 3, 1) := by decide +kernel
theorem dX8_abort_17 : decode cX8_abort 17 = .ok (.iload_n 3, 1) := by decide +kernel
theorem dX8_abort_18 : decode cX8_abort 18 = .ok (.ifCond .le 40, 3) := by decide +kernel
theorem dX8_abort_21 : decode cX8_abort 21 = .ok (.aload_n 0, 1) := by decide +kernel
theorem dX8_abort_22 : decode cX8_abort 22 = .ok (.iload_n 3, 1) := by decide +kernel
theorem dX8_abort_23 : decode cX8_abort 23 = .ok (.invokevirtual 68, 3) := by decide +kernel
theorem dX8_abort_26 : decode cX8_abort 26 = .ok (.ifCond .eq 26, 3) := by decide +kernel
theorem dX8_abort_29 : decode cX8_abort 29 = .ok (.iload_n 3, 1) := by decide +kernel
theorem dX8_abort_30 : decode cX8_abort 30 = .ok (.iload_n 1, 1) := by decide +kernel
theorem dX8_abort_31 : decode cX8_abort 31 = .ok (.if_icmp .eq 12, 3) := by decide +kernel
theorem dX8_abort_34 : decode cX8_abort 34 = .ok (.aload_n 0, 1) := by decide +kernel
theorem dX8_abort_35 : decode cX8_abort 35 = .ok (.iload_n 1, 1) := by decide +kernel
theorem dX8_abort_36 : decode cX8_abort 36 = .ok (.iload_n 3, 1) := by decide +kernel
theorem dX8_abort_37 : decode cX8_abort 37 = .ok (.invokevirtual 72, 3) := by decide +kernel
theorem dX8_abort_40 : decode cX8_abort 40 = .ok (.ifCond .eq 12, 3) := by decide +kernel
theorem dX8_abort_43 : decode cX8_abort 43 = .ok (.aload_n 0, 1) := by decide +kernel
theorem dX8_abort_44 : decode cX8_abort 44 = .ok (.iload_n 3, 1) := by decide +kernel
theorem dX8_abort_45 : decode cX8_abort 45 = .ok (.iconst 2, 1) := by decide +kernel
theorem dX8_abort_46 : decode cX8_abort 46 = .ok (.invokevirtual 112, 3) := by decide +kernel
theorem dX8_abort_49 : decode cX8_abort 49 = .ok (.iinc 2 1, 3) := by decide +kernel
theorem dX8_abort_52 : decode cX8_abort 52 = .ok (.iinc 3 (-1), 3) := by decide +kernel
theorem dX8_abort_55 : decode cX8_abort 55 = .ok (.goto (-38), 3) := by decide +kernel
theorem dX8_abort_58 : decode cX8_abort 58 = .ok (.iload_n 2, 1) := by decide +kernel
theorem dX8_abort_59 : decode cX8_abort 59 = .ok (.ireturn, 1) := by decide +kernel
theorem dX8_state_0 : decode cX8_state 0 = .ok (.iload_n 1, 1) := by decide +kernel
theorem dX8_state_1 : decode cX8_state 1 = .ok (.iconst 1, 1) := by decide +kernel
theorem dX8_state_2 : decode cX8_state 2 = .ok (.if_icmp .lt 11, 3) := by decide +kernel
theorem dX8_state_5 : decode cX8_state 5 = .ok (.iload_n 1, 1) := by decide +kernel
theorem dX8_state_6 : decode cX8_state 6 = .ok (.aload_n 0, 1) := by decide +kernel
theorem dX8_state_7 : decode cX8_state 7 = .ok (.getfield 53, 3) := by decide +kernel
theorem dX8_state_10 : decode cX8_state 10 = .ok (.if_icmp .le 7, 3) := by decide +kernel
theorem dX8_state_13 : decode cX8_state 13 = .ok (.iconst (-1), 1) := by decide +kernel
theorem dX8_state_14 : decode cX8_state 14 = .ok (.goto 9, 3) := by decide +kernel
theorem dX8_state_17 : decode cX8_state 17 = .ok (.aload_n 0, 1) := by decide +kernel
theorem dX8_state_18 : decode cX8_state 18 = .ok (.getfield 27, 3) := by decide +kernel
theorem dX8_state_21 : decode cX8_state 21 = .ok (.iload_n 1, 1) := by decide +kernel
theorem dX8_state_22 : decode cX8_state 22 = .ok (.iaload, 1) := by decide +kernel
theorem dX8_state_23 : decode cX8_state 23 = .ok (.ireturn, 1) := by decide +kernel
set_option maxRecDepth 20000 in
theorem ggX8_told_X8_children : GoodIn wsX8_told wsX8_children := goodIn_r _ [9, 1, 2, 10, 11, 12, 8, 13, 14, 22, 23, 24, 25, 26, 27, 28, 29, 30, 31, 32, 33, 34, 35, 36, 37] (by decide +kernel) (by decide +kernel)
set_option maxRecDepth 20000 in
theorem gX8_told_X8_children : GoodIn wsX8_told (wsV RX8 106 RX8 yX8_children wsX8_children) := goodIn_app (goodIn_of _ (by decide +kernel)) ggX8_told_X8_children
set_option maxRecDepth 20000 in
theorem ggX8_told_X8_marksOf : GoodIn wsX8_told wsX8_marksOf := goodIn_r _ [18, 19, 20, 21, 22, 23, 24, 25, 26, 27, 28, 29, 30, 31, 32, 33, 34, 35, 36, 37] (by decide +kernel) (by decide +kernel)
set_option maxRecDepth 20000 in
theorem gX8_told_X8_marksOf : GoodIn wsX8_told (wsV RX8 100 RX8 yX8_marksOf wsX8_marksOf) := goodIn_app (goodIn_of _ (by decide +kernel)) ggX8_told_X8_marksOf
theorem dX8_told_0 : decode cX8_told 0 = .ok (.iload_n 1, 1) := by decide +kernel
theorem dX8_told_1 : decode cX8_told 1 = .ok (.iconst 1, 1) := by decide +kernel
theorem dX8_told_2 : decode cX8_told 2 = .ok (.if_icmp .lt 20, 3) := by decide +kernel
theorem dX8_told_5 : decode cX8_told 5 = .ok (.iload_n 1, 1) := by decide +kernel
theorem dX8_told_6 : decode cX8_told 6 = .ok (.aload_n 0, 1) := by decide +kernel
theorem dX8_told_7 : decode cX8_told 7 = .ok (.getfield 53, 3) := by decide +kernel
theorem dX8_told_10 : decode cX8_told 10 = .ok (.if_icmp .gt 12, 3) := by decide +kernel
theorem dX8_told_13 : decode cX8_told 13 = .ok (.iload_n 2, 1) := by decide +kernel
theorem dX8_told_14 : decode cX8_told 14 = .ok (.ifCond .lt 8, 3) := by decide +kernel
theorem dX8_told_17 : decode cX8_told 17 = .ok (.iload_n 2, 1) := by decide +kernel
theorem dX8_told_18 : decode cX8_told 18 = .ok (.iconst 5, 1) := by decide +kernel
theorem dX8_told_19 : decode cX8_told 19 = .ok (.if_icmp .le 5, 3) := by decide +kernel
theorem dX8_told_22 : decode cX8_told 22 = .ok (.iconst (-1), 1) := by decide +kernel
theorem dX8_told_23 : decode cX8_told 23 = .ok (.ireturn, 1) := by decide +kernel
theorem dX8_told_24 : decode cX8_told 24 = .ok (.iload_n 2, 1) := by decide +kernel
theorem dX8_told_25 : decode cX8_told 25 = .ok (.ifCond .ne 10, 3) := by decide +kernel
theorem dX8_told_28 : decode cX8_told 28 = .ok (.aload_n 0, 1) := by decide +kernel
theorem dX8_told_29 : decode cX8_told 29 = .ok (.getfield 24, 3) := by decide +kernel
theorem dX8_told_32 : decode cX8_told 32 = .ok (.iload_n 1, 1) := by decide +kernel
theorem dX8_told_33 : decode cX8_told 33 = .ok (.iaload, 1) := by decide +kernel
theorem dX8_told_34 : decode cX8_told 34 = .ok (.ireturn, 1) := by decide +kernel
theorem dX8_told_35 : decode cX8_told 35 = .ok (.iload_n 2, 1) := by decide +kernel
theorem dX8_told_36 : decode cX8_told 36 = .ok (.iconst 1, 1) := by decide +kernel
theorem dX8_told_37 : decode cX8_told 37 = .ok (.if_icmp .ne 9, 3) := by decide +kernel
theorem dX8_told_40 : decode cX8_told 40 = .ok (.aload_n 0, 1) := by decide +kernel
theorem dX8_told_41 : decode cX8_told 41 = .ok (.iload_n 1, 1) := by decide +kernel
theorem dX8_told_42 : decode cX8_told 42 = .ok (.invokevirtual 106, 3) := by decide +kernel
theorem dX8_told_45 : decode cX8_told 45 = .ok (.ireturn, 1) := by decide +kernel
theorem dX8_told_46 : decode cX8_told 46 = .ok (.iload_n 2, 1) := by decide +kernel
theorem dX8_told_47 : decode cX8_told 47 = .ok (.iconst 2, 1) := by decide +kernel
theorem dX8_told_48 : decode cX8_told 48 = .ok (.if_icmp .ne 9, 3) := by decide +kernel
theorem dX8_told_51 : decode cX8_told 51 = .ok (.aload_n 0, 1) := by decide +kernel
theorem dX8_told_52 : decode cX8_told 52 = .ok (.iload_n 1, 1) := by decide +kernel
theorem dX8_told_53 : decode cX8_told 53 = .ok (.invokevirtual 100, 3) := by decide +kernel
theorem dX8_told_56 : decode cX8_told 56 = .ok (.ireturn, 1) := by decide +kernel
theorem dX8_told_57 : decode cX8_told 57 = .ok (.iconst 0, 1) := by decide +kernel
theorem dX8_told_58 : decode cX8_told 58 = .ok (.istore_n 3, 1) := by decide +kernel
theorem dX8_told_59 : decode cX8_told 59 = .ok (.iconst 0, 1) := by decide +kernel
theorem dX8_told_60 : decode cX8_told 60 = .ok (.istore 4, 2) := by decide +kernel
theorem dX8_told_62 : decode cX8_told 62 = .ok (.iload 4, 2) := by decide +kernel
theorem dX8_told_64 : decode cX8_told 64 = .ok (.sipush 520, 3) := by decide +kernel
theorem dX8_told_67 : decode cX8_told 67 = .ok (.if_icmp .ge 65, 3) := by decide +kernel
theorem dX8_told_70 : decode cX8_told 70 = .ok (.sipush 520, 3) := by decide +kernel
theorem dX8_told_73 : decode cX8_told 73 = .ok (.iload_n 1, 1) := by decide +kernel
theorem dX8_told_74 : decode cX8_told 74 = .ok (.imul, 1) := by decide +kernel
theorem dX8_told_75 : decode cX8_told 75 = .ok (.iload 4, 2) := by decide +kernel
theorem dX8_told_77 : decode cX8_told 77 = .ok (.iadd, 1) := by decide +kernel
theorem dX8_told_78 : decode cX8_told 78 = .ok (.istore 5, 2) := by decide +kernel
theorem dX8_told_80 : decode cX8_told 80 = .ok (.iload_n 3, 1) := by decide +kernel
theorem dX8_told_81 : decode cX8_told 81 = .ok (.iload_n 2, 1) := by decide +kernel
theorem dX8_told_82 : decode cX8_told 82 = .ok (.iconst 3, 1) := by decide +kernel
theorem dX8_told_83 : decode cX8_told 83 = .ok (.if_icmp .ne 16, 3) := by decide +kernel
theorem dX8_told_86 : decode cX8_told 86 = .ok (.aload_n 0, 1) := by decide +kernel
theorem dX8_told_87 : decode cX8_told 87 = .ok (.getfield 14, 3) := by decide +kernel
theorem dX8_told_90 : decode cX8_told 90 = .ok (.iload 5, 2) := by decide +kernel
theorem dX8_told_92 : decode cX8_told 92 = .ok (.baload, 1) := by decide +kernel
theorem dX8_told_93 : decode cX8_told 93 = .ok (.ifCond .eq 30, 3) := by decide +kernel
theorem dX8_told_96 : decode cX8_told 96 = .ok (.goto 23, 3) := by decide +kernel
theorem dX8_told_99 : decode cX8_told 99 = .ok (.aload_n 0, 1) := by decide +kernel
theorem dX8_told_100 : decode cX8_told 100 = .ok (.getfield 21, 3) := by decide +kernel
theorem dX8_told_103 : decode cX8_told 103 = .ok (.iload 5, 2) := by decide +kernel
theorem dX8_told_105 : decode cX8_told 105 = .ok (.baload, 1) := by decide +kernel
theorem dX8_told_106 : decode cX8_told 106 = .ok (.iload_n 2, 1) := by decide +kernel
theorem dX8_told_107 : decode cX8_told 107 = .ok (.iconst 4, 1) := by decide +kernel
theorem dX8_told_108 : decode cX8_told 108 = .ok (.if_icmp .ne 7, 3) := by decide +kernel
theorem dX8_told_111 : decode cX8_told 111 = .ok (.iconst 1, 1) := by decide +kernel
theorem dX8_told_112 : decode cX8_told 112 = .ok (.goto 4, 3) := by decide +kernel
theorem dX8_told_115 : decode cX8_told 115 = .ok (.iconst 2, 1) := by decide +kernel
theorem dX8_told_116 : decode cX8_told 116 = .ok (.if_icmp .ne 7, 3) := by decide +kernel
theorem dX8_told_119 : decode cX8_told 119 = .ok (.iconst 1, 1) := by decide +kernel
theorem dX8_told_120 : decode cX8_told 120 = .ok (.goto 4, 3) := by decide +kernel
theorem dX8_told_123 : decode cX8_told 123 = .ok (.iconst 0, 1) := by decide +kernel
theorem dX8_told_124 : decode cX8_told 124 = .ok (.iadd, 1) := by decide +kernel
theorem dX8_told_125 : decode cX8_told 125 = .ok (.istore_n 3, 1) := by decide +kernel
theorem dX8_told_126 : decode cX8_told 126 = .ok (.iinc 4 1, 3) := by decide +kernel
theorem dX8_told_129 : decode cX8_told 129 = .ok (.goto (-67), 3) := by decide +kernel
theorem dX8_told_132 : decode cX8_told 132 = .ok (.iload_n 3, 1) := by decide +kernel
theorem dX8_told_133 : decode cX8_told 133 = .ok (.ireturn, 1) := by decide +kernel
set_option maxRecDepth 20000 in
theorem ggX8_held_X8_isActive : GoodIn wsX8_held wsX8_isActive := goodIn_r _ [6, 7, 8, 15, 16, 17, 18, 19, 20, 21, 22, 23, 24, 25, 26, 27, 28, 29, 30] (by decide +kernel) (by decide +kernel)
set_option maxRecDepth 20000 in
theorem gX8_held_X8_isActive : GoodIn wsX8_held (wsV RX8 68 RX8 yX8_isActive wsX8_isActive) := goodIn_app (goodIn_of _ (by decide +kernel)) ggX8_held_X8_isActive
set_option maxRecDepth 20000 in
theorem ggX8_held_X8_find : GoodIn wsX8_held wsX8_find := goodIn_r _ [12, 13, 14, 15, 16, 17, 18, 19, 20, 21, 22, 23, 24, 25, 26, 27, 28, 29, 30] (by decide +kernel) (by decide +kernel)
set_option maxRecDepth 20000 in
theorem gX8_held_X8_find : GoodIn wsX8_held (wsV RX8 60 RX8 yX8_find wsX8_find) := goodIn_app (goodIn_of _ (by decide +kernel)) ggX8_held_X8_find
theorem dX8_held_0 : decode cX8_held 0 = .ok (.aload_n 0, 1) := by decide +kernel
theorem dX8_held_1 : decode cX8_held 1 = .ok (.iload_n 1, 1) := by decide +kernel
theorem dX8_held_2 : decode cX8_held 2 = .ok (.invokevirtual 68, 3) := by decide +kernel
theorem dX8_held_5 : decode cX8_held 5 = .ok (.ifCond .ne 5, 3) := by decide +kernel
theorem dX8_held_8 : decode cX8_held 8 = .ok (.iconst (-1), 1) := by decide +kernel
theorem dX8_held_9 : decode cX8_held 9 = .ok (.ireturn, 1) := by decide +kernel
theorem dX8_held_10 : decode cX8_held 10 = .ok (.aload_n 0, 1) := by decide +kernel
theorem dX8_held_11 : decode cX8_held 11 = .ok (.iload_n 2, 1) := by decide +kernel
theorem dX8_held_12 : decode cX8_held 12 = .ok (.invokevirtual 60, 3) := by decide +kernel
theorem dX8_held_15 : decode cX8_held 15 = .ok (.istore_n 3, 1) := by decide +kernel
theorem dX8_held_16 : decode cX8_held 16 = .ok (.iload_n 3, 1) := by decide +kernel
theorem dX8_held_17 : decode cX8_held 17 = .ok (.iconst (-1), 1) := by decide +kernel
theorem dX8_held_18 : decode cX8_held 18 = .ok (.if_icmp .ne 7, 3) := by decide +kernel
theorem dX8_held_21 : decode cX8_held 21 = .ok (.iconst 0, 1) := by decide +kernel
theorem dX8_held_22 : decode cX8_held 22 = .ok (.goto 15, 3) := by decide +kernel
theorem dX8_held_25 : decode cX8_held 25 = .ok (.aload_n 0, 1) := by decide +kernel
theorem dX8_held_26 : decode cX8_held 26 = .ok (.getfield 21, 3) := by decide +kernel
theorem dX8_held_29 : decode cX8_held 29 = .ok (.sipush 520, 3) := by decide +kernel
theorem dX8_held_32 : decode cX8_held 32 = .ok (.iload_n 1, 1) := by decide +kernel
theorem dX8_held_33 : decode cX8_held 33 = .ok (.imul, 1) := by decide +kernel
theorem dX8_held_34 : decode cX8_held 34 = .ok (.iload_n 3, 1) := by decide +kernel
theorem dX8_held_35 : decode cX8_held 35 = .ok (.iadd, 1) := by decide +kernel
theorem dX8_held_36 : decode cX8_held 36 = .ok (.baload, 1) := by decide +kernel
theorem dX8_held_37 : decode cX8_held 37 = .ok (.ireturn, 1) := by decide +kernel
set_option maxRecDepth 20000 in
theorem ggX8_blocker_X8_isActive : GoodIn wsX8_blocker wsX8_isActive := goodIn_r _ [5, 6, 7, 28, 29, 30, 31, 32, 33, 34, 35, 36, 37, 38, 39, 40, 41, 42, 43] (by decide +kernel) (by decide +kernel)
set_option maxRecDepth 20000 in
theorem gX8_blocker_X8_isActive : GoodIn wsX8_blocker (wsV RX8 68 RX8 yX8_isActive wsX8_isActive) := goodIn_app (goodIn_of _ (by decide +kernel)) ggX8_blocker_X8_isActive
set_option maxRecDepth 20000 in
theorem ggX8_blocker_X8_find : GoodIn wsX8_blocker wsX8_find := goodIn_r _ [11, 12, 13, 28, 29, 30, 31, 32, 33, 34, 35, 36, 37, 38, 39, 40, 41, 42, 43] (by decide +kernel) (by decide +kernel)
set_option maxRecDepth 20000 in
theorem gX8_blocker_X8_find : GoodIn wsX8_blocker (wsV RX8 60 RX8 yX8_find wsX8_find) := goodIn_app (goodIn_of _ (by decide +kernel)) ggX8_blocker_X8_find
set_option maxRecDepth 20000 in
theorem ggX8_blocker_X8_first : GoodIn wsX8_blocker wsX8_first := goodIn_r _ [17, 6, 18, 19, 20, 4, 21, 22, 1, 2, 3, 5, 7, 23, 24, 25, 26, 27, 28, 29, 30, 31, 32, 33, 34, 35, 36, 37, 38, 39, 40, 41, 42, 43] (by decide +kernel) (by decide +kernel)
set_option maxRecDepth 20000 in
theorem gX8_blocker_X8_first : GoodIn wsX8_blocker (wsV RX8 80 RX8 yX8_first wsX8_first) := goodIn_app (goodIn_of _ (by decide +kernel)) ggX8_blocker_X8_first
theorem dX8_blocker_0 : decode cX8_blocker 0 = .ok (.aload_n 0, 1) := by decide +kernel
theorem dX8_blocker_1 : decode cX8_blocker 1 = .ok (.iload_n 1, 1) := by decide +kernel
theorem dX8_blocker_2 : decode cX8_blocker 2 = .ok (.invokevirtual 68, 3) := by decide +kernel
theorem dX8_blocker_5 : decode cX8_blocker 5 = .ok (.ifCond .eq 17, 3) := by decide +kernel
theorem dX8_blocker_8 : decode cX8_blocker 8 = .ok (.aload_n 0, 1) := by decide +kernel
theorem dX8_blocker_9 : decode cX8_blocker 9 = .ok (.iload_n 1, 1) := by decide +kernel
theorem dX8_blocker_10 : decode cX8_blocker 10 = .ok (.aload_n 0, 1) := by decide +kernel
theorem dX8_blocker_11 : decode cX8_blocker 11 = .ok (.iload_n 2, 1) := by decide +kernel
theorem dX8_blocker_12 : decode cX8_blocker 12 = .ok (.invokevirtual 60, 3) := by decide +kernel
theorem dX8_blocker_15 : decode cX8_blocker 15 = .ok (.iload_n 3, 1) := by decide +kernel
theorem dX8_blocker_16 : decode cX8_blocker 16 = .ok (.invokevirtual 80, 3) := by decide +kernel
theorem dX8_blocker_19 : decode cX8_blocker 19 = .ok (.goto 4, 3) := by decide +kernel
theorem dX8_blocker_22 : decode cX8_blocker 22 = .ok (.iconst (-1), 1) := by decide +kernel
theorem dX8_blocker_23 : decode cX8_blocker 23 = .ok (.ireturn, 1) := by decide +kernel
set_option maxRecDepth 20000 in
theorem ggX8_waits_X8_isActive : GoodIn wsX8_waits wsX8_isActive := goodIn_r _ [7, 8, 9, 24, 25, 26, 27, 28, 29, 30, 31, 32, 33, 34, 35, 36, 37, 38, 39] (by decide +kernel) (by decide +kernel)
set_option maxRecDepth 20000 in
theorem gX8_waits_X8_isActive : GoodIn wsX8_waits (wsV RX8 68 RX8 yX8_isActive wsX8_isActive) := goodIn_app (goodIn_of _ (by decide +kernel)) ggX8_waits_X8_isActive
set_option maxRecDepth 20000 in
theorem ggX8_waits_X8_first : GoodIn wsX8_waits wsX8_first := goodIn_r _ [13, 8, 14, 15, 16, 6, 17, 18, 3, 4, 5, 7, 9, 19, 20, 21, 22, 23, 24, 25, 26, 27, 28, 29, 30, 31, 32, 33, 34, 35, 36, 37, 38, 39] (by decide +kernel) (by decide +kernel)
set_option maxRecDepth 20000 in
theorem gX8_waits_X8_first : GoodIn wsX8_waits (wsV RX8 80 RX8 yX8_first wsX8_first) := goodIn_app (goodIn_of _ (by decide +kernel)) ggX8_waits_X8_first
theorem dX8_waits_0 : decode cX8_waits 0 = .ok (.aload_n 0, 1) := by decide +kernel
theorem dX8_waits_1 : decode cX8_waits 1 = .ok (.iload_n 1, 1) := by decide +kernel
theorem dX8_waits_2 : decode cX8_waits 2 = .ok (.invokevirtual 68, 3) := by decide +kernel
theorem dX8_waits_5 : decode cX8_waits 5 = .ok (.ifCond .eq 23, 3) := by decide +kernel
theorem dX8_waits_8 : decode cX8_waits 8 = .ok (.aload_n 0, 1) := by decide +kernel
theorem dX8_waits_9 : decode cX8_waits 9 = .ok (.iload_n 1, 1) := by decide +kernel
theorem dX8_waits_10 : decode cX8_waits 10 = .ok (.aload_n 0, 1) := by decide +kernel
theorem dX8_waits_11 : decode cX8_waits 11 = .ok (.getfield 30, 3) := by decide +kernel
theorem dX8_waits_14 : decode cX8_waits 14 = .ok (.iload_n 1, 1) := by decide +kernel
theorem dX8_waits_15 : decode cX8_waits 15 = .ok (.iaload, 1) := by decide +kernel
theorem dX8_waits_16 : decode cX8_waits 16 = .ok (.aload_n 0, 1) := by decide +kernel
theorem dX8_waits_17 : decode cX8_waits 17 = .ok (.getfield 33, 3) := by decide +kernel
theorem dX8_waits_20 : decode cX8_waits 20 = .ok (.iload_n 1, 1) := by decide +kernel
theorem dX8_waits_21 : decode cX8_waits 21 = .ok (.baload, 1) := by decide +kernel
theorem dX8_waits_22 : decode cX8_waits 22 = .ok (.invokevirtual 80, 3) := by decide +kernel
theorem dX8_waits_25 : decode cX8_waits 25 = .ok (.goto 4, 3) := by decide +kernel
theorem dX8_waits_28 : decode cX8_waits 28 = .ok (.iconst (-1), 1) := by decide +kernel
theorem dX8_waits_29 : decode cX8_waits 29 = .ok (.ireturn, 1) := by decide +kernel
set_option maxRecDepth 20000 in
theorem ggX8_ring_X8_reach : GoodIn wsX8_ring wsX8_reach := goodIn_r _ [7, 1, 2, 8, 9, 10, 11, 12, 6, 13, 14, 15, 16, 17, 18, 19, 20, 21, 22, 23, 24, 25, 26, 27, 28, 29, 30, 31, 32, 33, 34, 35, 36, 37, 38, 39, 40] (by decide +kernel) (by decide +kernel)
set_option maxRecDepth 20000 in
theorem gX8_ring_X8_reach : GoodIn wsX8_ring (wsV RX8 116 RX8 yX8_reach wsX8_reach) := goodIn_app (goodIn_of _ (by decide +kernel)) ggX8_ring_X8_reach
set_option maxRecDepth 20000 in
theorem ggX8_ring_X8_isActive : GoodIn wsX8_ring wsX8_isActive := goodIn_r _ [13, 1, 14, 25, 26, 27, 28, 29, 30, 31, 32, 33, 34, 35, 36, 37, 38, 39, 40] (by decide +kernel) (by decide +kernel)
set_option maxRecDepth 20000 in
theorem gX8_ring_X8_isActive : GoodIn wsX8_ring (wsV RX8 68 RX8 yX8_isActive wsX8_isActive) := goodIn_app (goodIn_of _ (by decide +kernel)) ggX8_ring_X8_isActive
theorem dX8_ring_0 : decode cX8_ring 0 = .ok (.iconst 1, 1) := by decide +kernel
theorem dX8_ring_1 : decode cX8_ring 1 = .ok (.istore_n 1, 1) := by decide +kernel
theorem dX8_ring_2 : decode cX8_ring 2 = .ok (.iload_n 1, 1) := by decide +kernel
theorem dX8_ring_3 : decode cX8_ring 3 = .ok (.aload_n 0, 1) := by decide +kernel
theorem dX8_ring_4 : decode cX8_ring 4 = .ok (.getfield 53, 3) := by decide +kernel
theorem dX8_ring_7 : decode cX8_ring 7 = .ok (.if_icmp .gt 56, 3) := by decide +kernel
theorem dX8_ring_10 : decode cX8_ring 10 = .ok (.iconst 0, 1) := by decide +kernel
theorem dX8_ring_11 : decode cX8_ring 11 = .ok (.istore_n 2, 1) := by decide +kernel
theorem dX8_ring_12 : decode cX8_ring 12 = .ok (.iload_n 2, 1) := by decide +kernel
theorem dX8_ring_13 : decode cX8_ring 13 = .ok (.aload_n 0, 1) := by decide +kernel
theorem dX8_ring_14 : decode cX8_ring 14 = .ok (.getfield 53, 3) := by decide +kernel
theorem dX8_ring_17 : decode cX8_ring 17 = .ok (.if_icmp .gt 16, 3) := by decide +kernel
theorem dX8_ring_20 : decode cX8_ring 20 = .ok (.aload_n 0, 1) := by decide +kernel
theorem dX8_ring_21 : decode cX8_ring 21 = .ok (.getfield 50, 3) := by decide +kernel
theorem dX8_ring_24 : decode cX8_ring 24 = .ok (.iload_n 2, 1) := by decide +kernel
theorem dX8_ring_25 : decode cX8_ring 25 = .ok (.iconst 0, 1) := by decide +kernel
theorem dX8_ring_26 : decode cX8_ring 26 = .ok (.bastore, 1) := by decide +kernel
theorem dX8_ring_27 : decode cX8_ring 27 = .ok (.iinc 2 1, 3) := by decide +kernel
theorem dX8_ring_30 : decode cX8_ring 30 = .ok (.goto (-18), 3) := by decide +kernel
theorem dX8_ring_33 : decode cX8_ring 33 = .ok (.aload_n 0, 1) := by decide +kernel
theorem dX8_ring_34 : decode cX8_ring 34 = .ok (.iload_n 1, 1) := by decide +kernel
theorem dX8_ring_35 : decode cX8_ring 35 = .ok (.invokevirtual 116, 3) := by decide +kernel
theorem dX8_ring_38 : decode cX8_ring 38 = .ok (.aload_n 0, 1) := by decide +kernel
theorem dX8_ring_39 : decode cX8_ring 39 = .ok (.iload_n 1, 1) := by decide +kernel
theorem dX8_ring_40 : decode cX8_ring 40 = .ok (.invokevirtual 68, 3) := by decide +kernel
theorem dX8_ring_43 : decode cX8_ring 43 = .ok (.ifCond .eq 14, 3) := by decide +kernel
theorem dX8_ring_46 : decode cX8_ring 46 = .ok (.aload_n 0, 1) := by decide +kernel
theorem dX8_ring_47 : decode cX8_ring 47 = .ok (.getfield 50, 3) := by decide +kernel
theorem dX8_ring_50 : decode cX8_ring 50 = .ok (.iload_n 1, 1) := by decide +kernel
theorem dX8_ring_51 : decode cX8_ring 51 = .ok (.baload, 1) := by decide +kernel
theorem dX8_ring_52 : decode cX8_ring 52 = .ok (.ifCond .eq 5, 3) := by decide +kernel
theorem dX8_ring_55 : decode cX8_ring 55 = .ok (.iload_n 1, 1) := by decide +kernel
theorem dX8_ring_56 : decode cX8_ring 56 = .ok (.ireturn, 1) := by decide +kernel
theorem dX8_ring_57 : decode cX8_ring 57 = .ok (.iinc 1 1, 3) := by decide +kernel
theorem dX8_ring_60 : decode cX8_ring 60 = .ok (.goto (-58), 3) := by decide +kernel
theorem dX8_ring_63 : decode cX8_ring 63 = .ok (.iconst 0, 1) := by decide +kernel
theorem dX8_ring_64 : decode cX8_ring 64 = .ok (.ireturn, 1) := by decide +kernel
set_option maxRecDepth 20000 in
theorem ggX8_reach_X8_isActive : GoodIn wsX8_reach wsX8_isActive := goodIn_r _ [9, 1, 10, 21, 22, 23, 24, 25, 26, 27, 28, 29, 30, 31, 32, 33, 34, 35, 36] (by decide +kernel) (by decide +kernel)
set_option maxRecDepth 20000 in
theorem gX8_reach_X8_isActive : GoodIn wsX8_reach (wsV RX8 68 RX8 yX8_isActive wsX8_isActive) := goodIn_app (goodIn_of _ (by decide +kernel)) ggX8_reach_X8_isActive
set_option maxRecDepth 20000 in
theorem ggX8_reach_X8_isInWay : GoodIn wsX8_reach wsX8_isInWay := goodIn_r _ [14, 15, 5, 6, 7, 8, 9, 1, 10, 16, 17, 18, 19, 20, 21, 22, 23, 24, 25, 26, 27, 28, 29, 30, 31, 32, 33, 34, 35, 36] (by decide +kernel) (by decide +kernel)
set_option maxRecDepth 20000 in
theorem gX8_reach_X8_isInWay : GoodIn wsX8_reach (wsV RX8 76 RX8 yX8_isInWay wsX8_isInWay) := goodIn_app (goodIn_of _ (by decide +kernel)) ggX8_reach_X8_isInWay
theorem dX8_reach_0 : decode cX8_reach 0 = .ok (.iconst 1, 1) := by decide +kernel
theorem dX8_reach_1 : decode cX8_reach 1 = .ok (.istore_n 2, 1) := by decide +kernel
theorem dX8_reach_2 : decode cX8_reach 2 = .ok (.iconst 0, 1) := by decide +kernel
theorem dX8_reach_3 : decode cX8_reach 3 = .ok (.istore_n 3, 1) := by decide +kernel
theorem dX8_reach_4 : decode cX8_reach 4 = .ok (.iload_n 2, 1) := by decide +kernel
theorem dX8_reach_5 : decode cX8_reach 5 = .ok (.ifCond .eq 143, 3) := by decide +kernel
theorem dX8_reach_8 : decode cX8_reach 8 = .ok (.iconst 0, 1) := by decide +kernel
theorem dX8_reach_9 : decode cX8_reach 9 = .ok (.istore_n 2, 1) := by decide +kernel
theorem dX8_reach_10 : decode cX8_reach 10 = .ok (.iconst 1, 1) := by decide +kernel
theorem dX8_reach_11 : decode cX8_reach 11 = .ok (.istore 4, 2) := by decide +kernel
theorem dX8_reach_13 : decode cX8_reach 13 = .ok (.iload 4, 2) := by decide +kernel
theorem dX8_reach_15 : decode cX8_reach 15 = .ok (.aload_n 0, 1) := by decide +kernel
theorem dX8_reach_16 : decode cX8_reach 16 = .ok (.getfield 53, 3) := by decide +kernel
theorem dX8_reach_19 : decode cX8_reach 19 = .ok (.if_icmp .gt 124, 3) := by decide +kernel
theorem dX8_reach_22 : decode cX8_reach 22 = .ok (.aload_n 0, 1) := by decide +kernel
theorem dX8_reach_23 : decode cX8_reach 23 = .ok (.getfield 50, 3) := by decide +kernel
theorem dX8_reach_26 : decode cX8_reach 26 = .ok (.iload 4, 2) := by decide +kernel
theorem dX8_reach_28 : decode cX8_reach 28 = .ok (.baload, 1) := by decide +kernel
theorem dX8_reach_29 : decode cX8_reach 29 = .ok (.ifCond .ne 13, 3) := by decide +kernel
theorem dX8_reach_32 : decode cX8_reach 32 = .ok (.iload 4, 2) := by decide +kernel
theorem dX8_reach_34 : decode cX8_reach 34 = .ok (.iload_n 1, 1) := by decide +kernel
theorem dX8_reach_35 : decode cX8_reach 35 = .ok (.if_icmp .ne 11, 3) := by decide +kernel
theorem dX8_reach_38 : decode cX8_reach 38 = .ok (.iload_n 3, 1) := by decide +kernel
theorem dX8_reach_39 : decode cX8_reach 39 = .ok (.ifCond .ne 7, 3) := by decide +kernel
theorem dX8_reach_42 : decode cX8_reach 42 = .ok (.iconst 1, 1) := by decide +kernel
theorem dX8_reach_43 : decode cX8_reach 43 = .ok (.goto 4, 3) := by decide +kernel
theorem dX8_reach_46 : decode cX8_reach 46 = .ok (.iconst 0, 1) := by decide +kernel
theorem dX8_reach_47 : decode cX8_reach 47 = .ok (.istore 5, 2) := by decide +kernel
theorem dX8_reach_49 : decode cX8_reach 49 = .ok (.iconst 1, 1) := by decide +kernel
theorem dX8_reach_50 : decode cX8_reach 50 = .ok (.istore 6, 2) := by decide +kernel
theorem dX8_reach_52 : decode cX8_reach 52 = .ok (.iload 6, 2) := by decide +kernel
theorem dX8_reach_54 : decode cX8_reach 54 = .ok (.aload_n 0, 1) := by decide +kernel
theorem dX8_reach_55 : decode cX8_reach 55 = .ok (.getfield 53, 3) := by decide +kernel
theorem dX8_reach_58 : decode cX8_reach 58 = .ok (.if_icmp .gt 79, 3) := by decide +kernel
theorem dX8_reach_61 : decode cX8_reach 61 = .ok (.iload 5, 2) := by decide +kernel
theorem dX8_reach_63 : decode cX8_reach 63 = .ok (.ifCond .eq 74, 3) := by decide +kernel
theorem dX8_reach_66 : decode cX8_reach 66 = .ok (.aload_n 0, 1) := by decide +kernel
theorem dX8_reach_67 : decode cX8_reach 67 = .ok (.iload 4, 2) := by decide +kernel
theorem dX8_reach_69 : decode cX8_reach 69 = .ok (.invokevirtual 68, 3) := by decide +kernel
theorem dX8_reach_72 : decode cX8_reach 72 = .ok (.ifCond .eq 65, 3) := by decide +kernel
theorem dX8_reach_75 : decode cX8_reach 75 = .ok (.aload_n 0, 1) := by decide +kernel
theorem dX8_reach_76 : decode cX8_reach 76 = .ok (.getfield 30, 3) := by decide +kernel
theorem dX8_reach_79 : decode cX8_reach 79 = .ok (.iload 4, 2) := by decide +kernel
theorem dX8_reach_81 : decode cX8_reach 81 = .ok (.iaload, 1) := by decide +kernel
theorem dX8_reach_82 : decode cX8_reach 82 = .ok (.iconst (-1), 1) := by decide +kernel
theorem dX8_reach_83 : decode cX8_reach 83 = .ok (.if_icmp .eq 54, 3) := by decide +kernel
theorem dX8_reach_86 : decode cX8_reach 86 = .ok (.aload_n 0, 1) := by decide +kernel
theorem dX8_reach_87 : decode cX8_reach 87 = .ok (.getfield 50, 3) := by decide +kernel
theorem dX8_reach_90 : decode cX8_reach 90 = .ok (.iload 6, 2) := by decide +kernel
theorem dX8_reach_92 : decode cX8_reach 92 = .ok (.baload, 1) := by decide +kernel
theorem dX8_reach_93 : decode cX8_reach 93 = .ok (.ifCond .ne 38, 3) := by decide +kernel
theorem dX8_reach_96 : decode cX8_reach 96 = .ok (.aload_n 0, 1) := by decide +kernel
theorem dX8_reach_97 : decode cX8_reach 97 = .ok (.iload 6, 2) := by decide +kernel
theorem dX8_reach_99 : decode cX8_reach 99 = .ok (.iload 4, 2) := by decide +kernel
theorem dX8_reach_101 : decode cX8_reach 101 = .ok (.aload_n 0, 1) := by decide +kernel
theorem dX8_reach_102 : decode cX8_reach 102 = .ok (.getfield 30, 3) := by decide +kernel
theorem dX8_reach_105 : decode cX8_reach 105 = .ok (.iload 4, 2) := by decide +kernel
theorem dX8_reach_107 : decode cX8_reach 107 = .ok (.iaload, 1) := by decide +kernel
theorem dX8_reach_108 : decode cX8_reach 108 = .ok (.aload_n 0, 1) := by decide +kernel
theorem dX8_reach_109 : decode cX8_reach 109 = .ok (.getfield 33, 3) := by decide +kernel
theorem dX8_reach_112 : decode cX8_reach 112 = .ok (.iload 4, 2) := by decide +kernel
theorem dX8_reach_114 : decode cX8_reach 114 = .ok (.baload, 1) := by decide +kernel
theorem dX8_reach_115 : decode cX8_reach 115 = .ok (.invokevirtual 76, 3) := by decide +kernel
theorem dX8_reach_118 : decode cX8_reach 118 = .ok (.ifCond .eq 13, 3) := by decide +kernel
theorem dX8_reach_121 : decode cX8_reach 121 = .ok (.aload_n 0, 1) := by decide +kernel
theorem dX8_reach_122 : decode cX8_reach 122 = .ok (.getfield 50, 3) := by decide +kernel
theorem dX8_reach_125 : decode cX8_reach 125 = .ok (.iload 6, 2) := by decide +kernel
theorem dX8_reach_127 : decode cX8_reach 127 = .ok (.iconst 1, 1) := by decide +kernel
theorem dX8_reach_128 : decode cX8_reach 128 = .ok (.bastore, 1) := by decide +kernel
theorem dX8_reach_129 : decode cX8_reach 129 = .ok (.iconst 1, 1) := by decide +kernel
theorem dX8_reach_130 : decode cX8_reach 130 = .ok (.istore_n 2, 1) := by decide +kernel
theorem dX8_reach_131 : decode cX8_reach 131 = .ok (.iinc 6 1, 3) := by decide +kernel
theorem dX8_reach_134 : decode cX8_reach 134 = .ok (.goto (-82), 3) := by decide +kernel
theorem dX8_reach_137 : decode cX8_reach 137 = .ok (.iinc 4 1, 3) := by decide +kernel
theorem dX8_reach_140 : decode cX8_reach 140 = .ok (.goto (-127), 3) := by decide +kernel
theorem dX8_reach_143 : decode cX8_reach 143 = .ok (.iconst 1, 1) := by decide +kernel
theorem dX8_reach_144 : decode cX8_reach 144 = .ok (.istore_n 3, 1) := by decide +kernel
theorem dX8_reach_145 : decode cX8_reach 145 = .ok (.goto (-141), 3) := by decide +kernel
theorem dX8_reach_148 : decode cX8_reach 148 = .ok (.return_, 1) := by decide +kernel
set_option maxRecDepth 20000 in
theorem ggX8_isThere_X8_isActive : GoodIn wsX8_isThere wsX8_isActive := goodIn_r _ [5, 6, 7, 8, 9, 10, 11, 12, 13, 14, 15, 16, 17, 18, 19, 20, 21, 22, 23] (by decide +kernel) (by decide +kernel)
set_option maxRecDepth 20000 in
theorem gX8_isThere_X8_isActive : GoodIn wsX8_isThere (wsV RX8 68 RX8 yX8_isActive wsX8_isActive) := goodIn_app (goodIn_of _ (by decide +kernel)) ggX8_isThere_X8_isActive
theorem dX8_isThere_0 : decode cX8_isThere 0 = .ok (.iload_n 1, 1) := by decide +kernel
theorem dX8_isThere_1 : decode cX8_isThere 1 = .ok (.ifCond .eq 11, 3) := by decide +kernel
theorem dX8_isThere_4 : decode cX8_isThere 4 = .ok (.aload_n 0, 1) := by decide +kernel
theorem dX8_isThere_5 : decode cX8_isThere 5 = .ok (.iload_n 1, 1) := by decide +kernel
theorem dX8_isThere_6 : decode cX8_isThere 6 = .ok (.invokevirtual 68, 3) := by decide +kernel
theorem dX8_isThere_9 : decode cX8_isThere 9 = .ok (.ifCond .eq 7, 3) := by decide +kernel
theorem dX8_isThere_12 : decode cX8_isThere 12 = .ok (.iconst 1, 1) := by decide +kernel
theorem dX8_isThere_13 : decode cX8_isThere 13 = .ok (.goto 4, 3) := by decide +kernel
theorem dX8_isThere_16 : decode cX8_isThere 16 = .ok (.iconst 0, 1) := by decide +kernel
theorem dX8_isThere_17 : decode cX8_isThere 17 = .ok (.ireturn, 1) := by decide +kernel
set_option maxRecDepth 20000 in
theorem ggX8_size_X8_isThere : GoodIn wsX8_size wsX8_isThere := goodIn_r _ [6, 7, 8, 9, 5, 10, 11, 12, 23, 24, 25, 26, 27, 28, 29, 30, 31, 32, 33, 34, 35, 36, 37, 38] (by decide +kernel) (by decide +kernel)
set_option maxRecDepth 20000 in
theorem gX8_size_X8_isThere : GoodIn wsX8_size (wsV RX8 120 RX8 yX8_isThere wsX8_isThere) := goodIn_app (goodIn_of _ (by decide +kernel)) ggX8_size_X8_isThere
set_option maxRecDepth 20000 in
theorem ggX8_size_X8_sees : GoodIn wsX8_size wsX8_sees := goodIn_r _ [16, 17, 18, 19, 5, 20, 21, 22, 23, 24, 25, 26, 27, 28, 29, 30, 31, 32, 33, 34, 35, 36, 37, 38] (by decide +kernel) (by decide +kernel)
set_option maxRecDepth 20000 in
theorem gX8_size_X8_sees : GoodIn wsX8_size (wsV RX8 97 RX8 yX8_sees wsX8_sees) := goodIn_app (goodIn_of _ (by decide +kernel)) ggX8_size_X8_sees
theorem dX8_size_0 : decode cX8_size 0 = .ok (.aload_n 0, 1) := by decide +kernel
theorem dX8_size_1 : decode cX8_size 1 = .ok (.iload_n 1, 1) := by decide +kernel
theorem dX8_size_2 : decode cX8_size 2 = .ok (.invokevirtual 120, 3) := by decide +kernel
theorem dX8_size_5 : decode cX8_size 5 = .ok (.ifCond .ne 5, 3) := by decide +kernel
theorem dX8_size_8 : decode cX8_size 8 = .ok (.iconst (-1), 1) := by decide +kernel
theorem dX8_size_9 : decode cX8_size 9 = .ok (.ireturn, 1) := by decide +kernel
theorem dX8_size_10 : decode cX8_size 10 = .ok (.iconst 0, 1) := by decide +kernel
theorem dX8_size_11 : decode cX8_size 11 = .ok (.istore_n 2, 1) := by decide +kernel
theorem dX8_size_12 : decode cX8_size 12 = .ok (.iconst 0, 1) := by decide +kernel
theorem dX8_size_13 : decode cX8_size 13 = .ok (.istore_n 3, 1) := by decide +kernel
theorem dX8_size_14 : decode cX8_size 14 = .ok (.iload_n 3, 1) := by decide +kernel
theorem dX8_size_15 : decode cX8_size 15 = .ok (.aload_n 0, 1) := by decide +kernel
theorem dX8_size_16 : decode cX8_size 16 = .ok (.getfield 57, 3) := by decide +kernel
theorem dX8_size_19 : decode cX8_size 19 = .ok (.if_icmp .ge 26, 3) := by decide +kernel
theorem dX8_size_22 : decode cX8_size 22 = .ok (.iload_n 2, 1) := by decide +kernel
theorem dX8_size_23 : decode cX8_size 23 = .ok (.aload_n 0, 1) := by decide +kernel
theorem dX8_size_24 : decode cX8_size 24 = .ok (.iload_n 1, 1) := by decide +kernel
theorem dX8_size_25 : decode cX8_size 25 = .ok (.iload_n 3, 1) := by decide +kernel
theorem dX8_size_26 : decode cX8_size 26 = .ok (.invokevirtual 97, 3) := by decide +kernel
theorem dX8_size_29 : decode cX8_size 29 = .ok (.ifCond .eq 7, 3) := by decide +kernel
theorem dX8_size_32 : decode cX8_size 32 = .ok (.iconst 1, 1) := by decide +kernel
theorem dX8_size_33 : decode cX8_size 33 = .ok (.goto 4, 3) := by decide +kernel
theorem dX8_size_36 : decode cX8_size 36 = .ok (.iconst 0, 1) := by decide +kernel
theorem dX8_size_37 : decode cX8_size 37 = .ok (.iadd, 1) := by decide +kernel
theorem dX8_size_38 : decode cX8_size 38 = .ok (.istore_n 2, 1) := by decide +kernel
theorem dX8_size_39 : decode cX8_size 39 = .ok (.iinc 3 1, 3) := by decide +kernel
theorem dX8_size_42 : decode cX8_size 42 = .ok (.goto (-28), 3) := by decide +kernel
theorem dX8_size_45 : decode cX8_size 45 = .ok (.iload_n 2, 1) := by decide +kernel
theorem dX8_size_46 : decode cX8_size 46 = .ok (.ireturn, 1) := by decide +kernel
set_option maxRecDepth 20000 in
theorem ggX8_next_X8_isThere : GoodIn wsX8_next wsX8_isThere := goodIn_r _ [9, 10, 11, 12, 8, 13, 14, 15, 26, 27, 28, 29, 30, 31, 32, 33, 34, 35, 36, 37, 38, 39, 40, 41] (by decide +kernel) (by decide +kernel)
set_option maxRecDepth 20000 in
theorem gX8_next_X8_isThere : GoodIn wsX8_next (wsV RX8 120 RX8 yX8_isThere wsX8_isThere) := goodIn_app (goodIn_of _ (by decide +kernel)) ggX8_next_X8_isThere
set_option maxRecDepth 20000 in
theorem ggX8_next_X8_sees : GoodIn wsX8_next wsX8_sees := goodIn_r _ [19, 20, 21, 22, 8, 23, 24, 25, 26, 27, 28, 29, 30, 31, 32, 33, 34, 35, 36, 37, 38, 39, 40, 41] (by decide +kernel) (by decide +kernel)
set_option maxRecDepth 20000 in
theorem gX8_next_X8_sees : GoodIn wsX8_next (wsV RX8 97 RX8 yX8_sees wsX8_sees) := goodIn_app (goodIn_of _ (by decide +kernel)) ggX8_next_X8_sees
theorem dX8_next_0 : decode cX8_next 0 = .ok (.aload_n 0, 1) := by decide +kernel
theorem dX8_next_1 : decode cX8_next 1 = .ok (.iload_n 1, 1) := by decide +kernel
theorem dX8_next_2 : decode cX8_next 2 = .ok (.invokevirtual 120, 3) := by decide +kernel
theorem dX8_next_5 : decode cX8_next 5 = .ok (.ifCond .ne 7, 3) := by decide +kernel
theorem dX8_next_8 : decode cX8_next 8 = .ok (.ldc2_w 86, 3) := by decide +kernel
theorem dX8_next_11 : decode cX8_next 11 = .ok (.lreturn, 1) := by decide +kernel
theorem dX8_next_12 : decode cX8_next 12 = .ok (.ldc2_w 84, 3) := by decide +kernel
theorem dX8_next_15 : decode cX8_next 15 = .ok (.lstore_n 3, 1) := by decide +kernel
theorem dX8_next_16 : decode cX8_next 16 = .ok (.iconst 0, 1) := by decide +kernel
theorem dX8_next_17 : decode cX8_next 17 = .ok (.istore 5, 2) := by decide +kernel
theorem dX8_next_19 : decode cX8_next 19 = .ok (.iload 5, 2) := by decide +kernel
theorem dX8_next_21 : decode cX8_next 21 = .ok (.aload_n 0, 1) := by decide +kernel
theorem dX8_next_22 : decode cX8_next 22 = .ok (.getfield 57, 3) := by decide +kernel
theorem dX8_next_25 : decode cX8_next 25 = .ok (.if_icmp .ge 56, 3) := by decide +kernel
theorem dX8_next_28 : decode cX8_next 28 = .ok (.aload_n 0, 1) := by decide +kernel
theorem dX8_next_29 : decode cX8_next 29 = .ok (.getfield 7, 3) := by decide +kernel
theorem dX8_next_32 : decode cX8_next 32 = .ok (.iload 5, 2) := by decide +kernel
theorem dX8_next_34 : decode cX8_next 34 = .ok (.iaload, 1) := by decide +kernel
theorem dX8_next_35 : decode cX8_next 35 = .ok (.iload_n 2, 1) := by decide +kernel
theorem dX8_next_36 : decode cX8_next 36 = .ok (.if_icmp .le 37, 3) := by decide +kernel
theorem dX8_next_39 : decode cX8_next 39 = .ok (.aload_n 0, 1) := by decide +kernel
theorem dX8_next_40 : decode cX8_next 40 = .ok (.getfield 7, 3) := by decide +kernel
theorem dX8_next_43 : decode cX8_next 43 = .ok (.iload 5, 2) := by decide +kernel
theorem dX8_next_45 : decode cX8_next 45 = .ok (.iaload, 1) := by decide +kernel
theorem dX8_next_46 : decode cX8_next 46 = .ok (.i2l, 1) := by decide +kernel
theorem dX8_next_47 : decode cX8_next 47 = .ok (.lload_n 3, 1) := by decide +kernel
theorem dX8_next_48 : decode cX8_next 48 = .ok (.lcmp, 1) := by decide +kernel
theorem dX8_next_49 : decode cX8_next 49 = .ok (.ifCond .ge 24, 3) := by decide +kernel
theorem dX8_next_52 : decode cX8_next 52 = .ok (.aload_n 0, 1) := by decide +kernel
theorem dX8_next_53 : decode cX8_next 53 = .ok (.iload_n 1, 1) := by decide +kernel
theorem dX8_next_54 : decode cX8_next 54 = .ok (.iload 5, 2) := by decide +kernel
theorem dX8_next_56 : decode cX8_next 56 = .ok (.invokevirtual 97, 3) := by decide +kernel
theorem dX8_next_59 : decode cX8_next 59 = .ok (.ifCond .eq 14, 3) := by decide +kernel
theorem dX8_next_62 : decode cX8_next 62 = .ok (.aload_n 0, 1) := by decide +kernel
theorem dX8_next_63 : decode cX8_next 63 = .ok (.getfield 7, 3) := by decide +kernel
theorem dX8_next_66 : decode cX8_next 66 = .ok (.iload 5, 2) := by decide +kernel
theorem dX8_next_68 : decode cX8_next 68 = .ok (.iaload, 1) := by decide +kernel
theorem dX8_next_69 : decode cX8_next 69 = .ok (.i2l, 1) := by decide +kernel
theorem dX8_next_70 : decode cX8_next 70 = .ok (.goto 4, 3) := by decide +kernel
theorem dX8_next_73 : decode cX8_next 73 = .ok (.lload_n 3, 1) := by decide +kernel
theorem dX8_next_74 : decode cX8_next 74 = .ok (.lstore_n 3, 1) := by decide +kernel
theorem dX8_next_75 : decode cX8_next 75 = .ok (.iinc 5 1, 3) := by decide +kernel
theorem dX8_next_78 : decode cX8_next 78 = .ok (.goto (-59), 3) := by decide +kernel
theorem dX8_next_81 : decode cX8_next 81 = .ok (.lload_n 3, 1) := by decide +kernel
theorem dX8_next_82 : decode cX8_next 82 = .ok (.lreturn, 1) := by decide +kernel
set_option maxRecDepth 20000 in
theorem ggX8_sum_X8_isThere : GoodIn wsX8_sum wsX8_isThere := goodIn_r _ [9, 10, 11, 12, 8, 13, 14, 15, 26, 27, 28, 29, 30, 31, 32, 33, 34, 35, 36, 37, 38, 39, 40, 41] (by decide +kernel) (by decide +kernel)
set_option maxRecDepth 20000 in
theorem gX8_sum_X8_isThere : GoodIn wsX8_sum (wsV RX8 120 RX8 yX8_isThere wsX8_isThere) := goodIn_app (goodIn_of _ (by decide +kernel)) ggX8_sum_X8_isThere
set_option maxRecDepth 20000 in
theorem ggX8_sum_X8_sees : GoodIn wsX8_sum wsX8_sees := goodIn_r _ [19, 20, 21, 22, 8, 23, 24, 25, 26, 27, 28, 29, 30, 31, 32, 33, 34, 35, 36, 37, 38, 39, 40, 41] (by decide +kernel) (by decide +kernel)
set_option maxRecDepth 20000 in
theorem gX8_sum_X8_sees : GoodIn wsX8_sum (wsV RX8 97 RX8 yX8_sees wsX8_sees) := goodIn_app (goodIn_of _ (by decide +kernel)) ggX8_sum_X8_sees
set_option maxRecDepth 20000 in
theorem ggX8_sum_X8_source : GoodIn wsX8_sum wsX8_source := goodIn_r _ [23, 24, 25, 26, 27, 28, 29, 30, 31, 32, 33, 34, 35, 36, 37, 38, 39, 40, 41] (by decide +kernel) (by decide +kernel)
set_option maxRecDepth 20000 in
theorem gX8_sum_X8_source : GoodIn wsX8_sum (wsV RX8 64 RX8 yX8_source wsX8_source) := goodIn_app (goodIn_of _ (by decide +kernel)) ggX8_sum_X8_source
theorem dX8_sum_0 : decode cX8_sum 0 = .ok (.aload_n 0, 1) := by decide +kernel
theorem dX8_sum_1 : decode cX8_sum 1 = .ok (.iload_n 1, 1) := by decide +kernel
theorem dX8_sum_2 : decode cX8_sum 2 = .ok (.invokevirtual 120, 3) := by decide +kernel
theorem dX8_sum_5 : decode cX8_sum 5 = .ok (.ifCond .ne 7, 3) := by decide +kernel
theorem dX8_sum_8 : decode cX8_sum 8 = .ok (.ldc2_w 86, 3) := by decide +kernel
theorem dX8_sum_11 : decode cX8_sum 11 = .ok (.lreturn, 1) := by decide +kernel
theorem dX8_sum_12 : decode cX8_sum 12 = .ok (.lconst 0, 1) := by decide +kernel
theorem dX8_sum_13 : decode cX8_sum 13 = .ok (.lstore 4, 2) := by decide +kernel
theorem dX8_sum_15 : decode cX8_sum 15 = .ok (.iconst 0, 1) := by decide +kernel
theorem dX8_sum_16 : decode cX8_sum 16 = .ok (.istore 6, 2) := by decide +kernel
theorem dX8_sum_18 : decode cX8_sum 18 = .ok (.iload 6, 2) := by decide +kernel
theorem dX8_sum_20 : decode cX8_sum 20 = .ok (.aload_n 0, 1) := by decide +kernel
theorem dX8_sum_21 : decode cX8_sum 21 = .ok (.getfield 57, 3) := by decide +kernel
theorem dX8_sum_24 : decode cX8_sum 24 = .ok (.if_icmp .ge 70, 3) := by decide +kernel
theorem dX8_sum_27 : decode cX8_sum 27 = .ok (.lload 4, 2) := by decide +kernel
theorem dX8_sum_29 : decode cX8_sum 29 = .ok (.aload_n 0, 1) := by decide +kernel
theorem dX8_sum_30 : decode cX8_sum 30 = .ok (.getfield 7, 3) := by decide +kernel
theorem dX8_sum_33 : decode cX8_sum 33 = .ok (.iload 6, 2) := by decide +kernel
theorem dX8_sum_35 : decode cX8_sum 35 = .ok (.iaload, 1) := by decide +kernel
theorem dX8_sum_36 : decode cX8_sum 36 = .ok (.iload_n 2, 1) := by decide +kernel
theorem dX8_sum_37 : decode cX8_sum 37 = .ok (.if_icmp .lt 47, 3) := by decide +kernel
theorem dX8_sum_40 : decode cX8_sum 40 = .ok (.aload_n 0, 1) := by decide +kernel
theorem dX8_sum_41 : decode cX8_sum 41 = .ok (.getfield 7, 3) := by decide +kernel
theorem dX8_sum_44 : decode cX8_sum 44 = .ok (.iload 6, 2) := by decide +kernel
theorem dX8_sum_46 : decode cX8_sum 46 = .ok (.iaload, 1) := by decide +kernel
theorem dX8_sum_47 : decode cX8_sum 47 = .ok (.iload_n 3, 1) := by decide +kernel
theorem dX8_sum_48 : decode cX8_sum 48 = .ok (.if_icmp .gt 36, 3) := by decide +kernel
theorem dX8_sum_51 : decode cX8_sum 51 = .ok (.aload_n 0, 1) := by decide +kernel
theorem dX8_sum_52 : decode cX8_sum 52 = .ok (.iload_n 1, 1) := by decide +kernel
theorem dX8_sum_53 : decode cX8_sum 53 = .ok (.iload 6, 2) := by decide +kernel
theorem dX8_sum_55 : decode cX8_sum 55 = .ok (.invokevirtual 97, 3) := by decide +kernel
theorem dX8_sum_58 : decode cX8_sum 58 = .ok (.ifCond .eq 26, 3) := by decide +kernel
theorem dX8_sum_61 : decode cX8_sum 61 = .ok (.aload_n 0, 1) := by decide +kernel
theorem dX8_sum_62 : decode cX8_sum 62 = .ok (.getfield 18, 3) := by decide +kernel
theorem dX8_sum_65 : decode cX8_sum 65 = .ok (.sipush 520, 3) := by decide +kernel
theorem dX8_sum_68 : decode cX8_sum 68 = .ok (.aload_n 0, 1) := by decide +kernel
theorem dX8_sum_69 : decode cX8_sum 69 = .ok (.iload_n 1, 1) := by decide +kernel
theorem dX8_sum_70 : decode cX8_sum 70 = .ok (.iload 6, 2) := by decide +kernel
theorem dX8_sum_72 : decode cX8_sum 72 = .ok (.invokevirtual 64, 3) := by decide +kernel
theorem dX8_sum_75 : decode cX8_sum 75 = .ok (.imul, 1) := by decide +kernel
theorem dX8_sum_76 : decode cX8_sum 76 = .ok (.iload 6, 2) := by decide +kernel
theorem dX8_sum_78 : decode cX8_sum 78 = .ok (.iadd, 1) := by decide +kernel
theorem dX8_sum_79 : decode cX8_sum 79 = .ok (.iaload, 1) := by decide +kernel
theorem dX8_sum_80 : decode cX8_sum 80 = .ok (.i2l, 1) := by decide +kernel
theorem dX8_sum_81 : decode cX8_sum 81 = .ok (.goto 4, 3) := by decide +kernel
theorem dX8_sum_84 : decode cX8_sum 84 = .ok (.lconst 0, 1) := by decide +kernel
theorem dX8_sum_85 : decode cX8_sum 85 = .ok (.ladd, 1) := by decide +kernel
theorem dX8_sum_86 : decode cX8_sum 86 = .ok (.lstore 4, 2) := by decide +kernel
theorem dX8_sum_88 : decode cX8_sum 88 = .ok (.iinc 6 1, 3) := by decide +kernel
theorem dX8_sum_91 : decode cX8_sum 91 = .ok (.goto (-73), 3) := by decide +kernel
theorem dX8_sum_94 : decode cX8_sum 94 = .ok (.lload 4, 2) := by decide +kernel
theorem dX8_sum_96 : decode cX8_sum 96 = .ok (.lreturn, 1) := by decide +kernel
theorem dJ9_max_7cf53_0 : decode cJ9_max_7cf53 0 = .ok (.iload_n 0, 1) := by decide +kernel
theorem dJ9_max_7cf53_1 : decode cJ9_max_7cf53 1 = .ok (.iload_n 1, 1) := by decide +kernel
theorem dJ9_max_7cf53_2 : decode cJ9_max_7cf53 2 = .ok (.if_icmp .lt 7, 3) := by decide +kernel
theorem dJ9_max_7cf53_5 : decode cJ9_max_7cf53 5 = .ok (.iload_n 0, 1) := by decide +kernel
theorem dJ9_max_7cf53_6 : decode cJ9_max_7cf53 6 = .ok (.goto 4, 3) := by decide +kernel
theorem dJ9_max_7cf53_9 : decode cJ9_max_7cf53 9 = .ok (.iload_n 1, 1) := by decide +kernel
theorem dJ9_max_7cf53_10 : decode cJ9_max_7cf53 10 = .ok (.ireturn, 1) := by decide +kernel
theorem dJ9_min_f86c9_0 : decode cJ9_min_f86c9 0 = .ok (.lload_n 0, 1) := by decide +kernel
theorem dJ9_min_f86c9_1 : decode cJ9_min_f86c9 1 = .ok (.lload_n 2, 1) := by decide +kernel
theorem dJ9_min_f86c9_2 : decode cJ9_min_f86c9 2 = .ok (.lcmp, 1) := by decide +kernel
theorem dJ9_min_f86c9_3 : decode cJ9_min_f86c9 3 = .ok (.ifCond .gt 7, 3) := by decide +kernel
theorem dJ9_min_f86c9_6 : decode cJ9_min_f86c9 6 = .ok (.lload_n 0, 1) := by decide +kernel
theorem dJ9_min_f86c9_7 : decode cJ9_min_f86c9 7 = .ok (.goto 4, 3) := by decide +kernel
theorem dJ9_min_f86c9_10 : decode cJ9_min_f86c9 10 = .ok (.lload_n 2, 1) := by decide +kernel
theorem dJ9_min_f86c9_11 : decode cJ9_min_f86c9 11 = .ok (.lreturn, 1) := by decide +kernel
theorem dJ7_fill_d0a16_0 : decode cJ7_fill_d0a16 0 = .ok (.iconst 0, 1) := by decide +kernel
theorem dJ7_fill_d0a16_1 : decode cJ7_fill_d0a16 1 = .ok (.istore_n 3, 1) := by decide +kernel
theorem dJ7_fill_d0a16_2 : decode cJ7_fill_d0a16 2 = .ok (.aload_n 0, 1) := by decide +kernel
theorem dJ7_fill_d0a16_3 : decode cJ7_fill_d0a16 3 = .ok (.arraylength, 1) := by decide +kernel
theorem dJ7_fill_d0a16_4 : decode cJ7_fill_d0a16 4 = .ok (.istore 4, 2) := by decide +kernel
theorem dJ7_fill_d0a16_6 : decode cJ7_fill_d0a16 6 = .ok (.iload_n 3, 1) := by decide +kernel
theorem dJ7_fill_d0a16_7 : decode cJ7_fill_d0a16 7 = .ok (.iload 4, 2) := by decide +kernel
theorem dJ7_fill_d0a16_9 : decode cJ7_fill_d0a16 9 = .ok (.if_icmp .ge 13, 3) := by decide +kernel
theorem dJ7_fill_d0a16_12 : decode cJ7_fill_d0a16 12 = .ok (.aload_n 0, 1) := by decide +kernel
theorem dJ7_fill_d0a16_13 : decode cJ7_fill_d0a16 13 = .ok (.iload_n 3, 1) := by decide +kernel
theorem dJ7_fill_d0a16_14 : decode cJ7_fill_d0a16 14 = .ok (.lload_n 1, 1) := by decide +kernel
theorem dJ7_fill_d0a16_15 : decode cJ7_fill_d0a16 15 = .ok (.lastore, 1) := by decide +kernel
theorem dJ7_fill_d0a16_16 : decode cJ7_fill_d0a16 16 = .ok (.iinc 3 1, 3) := by decide +kernel
theorem dJ7_fill_d0a16_19 : decode cJ7_fill_d0a16 19 = .ok (.goto (-13), 3) := by decide +kernel
theorem dJ7_fill_d0a16_22 : decode cJ7_fill_d0a16 22 = .ok (.return_, 1) := by decide +kernel
theorem dJ7_fill_53178_0 : decode cJ7_fill_53178 0 = .ok (.iconst 0, 1) := by decide +kernel
theorem dJ7_fill_53178_1 : decode cJ7_fill_53178 1 = .ok (.istore_n 2, 1) := by decide +kernel
theorem dJ7_fill_53178_2 : decode cJ7_fill_53178 2 = .ok (.aload_n 0, 1) := by decide +kernel
theorem dJ7_fill_53178_3 : decode cJ7_fill_53178 3 = .ok (.arraylength, 1) := by decide +kernel
theorem dJ7_fill_53178_4 : decode cJ7_fill_53178 4 = .ok (.istore_n 3, 1) := by decide +kernel
theorem dJ7_fill_53178_5 : decode cJ7_fill_53178 5 = .ok (.iload_n 2, 1) := by decide +kernel
theorem dJ7_fill_53178_6 : decode cJ7_fill_53178 6 = .ok (.iload_n 3, 1) := by decide +kernel
theorem dJ7_fill_53178_7 : decode cJ7_fill_53178 7 = .ok (.if_icmp .ge 13, 3) := by decide +kernel
theorem dJ7_fill_53178_10 : decode cJ7_fill_53178 10 = .ok (.aload_n 0, 1) := by decide +kernel
theorem dJ7_fill_53178_11 : decode cJ7_fill_53178 11 = .ok (.iload_n 2, 1) := by decide +kernel
theorem dJ7_fill_53178_12 : decode cJ7_fill_53178 12 = .ok (.iload_n 1, 1) := by decide +kernel
theorem dJ7_fill_53178_13 : decode cJ7_fill_53178 13 = .ok (.iastore, 1) := by decide +kernel
theorem dJ7_fill_53178_14 : decode cJ7_fill_53178 14 = .ok (.iinc 2 1, 3) := by decide +kernel
theorem dJ7_fill_53178_17 : decode cJ7_fill_53178 17 = .ok (.goto (-12), 3) := by decide +kernel
theorem dJ7_fill_53178_20 : decode cJ7_fill_53178 20 = .ok (.return_, 1) := by decide +kernel
set_option maxRecDepth 20000 in
theorem ggL_law_X7_init : GoodIn wsL_law wsX7_init := goodIn_r _ [8, 9, 10, 11, 12, 13, 14, 15, 16, 17, 18, 19, 20, 21, 22, 23, 24, 25, 26, 27, 28, 29, 30, 31, 32, 33, 34, 35, 36, 37, 38, 39, 40, 41, 42, 43, 44, 45, 46, 47, 48, 49, 50, 51, 52, 53, 54, 55, 56, 57, 58, 59, 60, 61, 62, 63, 64, 65, 66, 67, 68, 69, 70, 71, 72, 73, 74, 75, 76, 77, 78, 79, 80, 81, 82, 83, 84, 85, 86, 619, 620, 621, 622, 596, 597, 598, 599, 600, 601, 602, 623, 624, 625, 626, 627, 628, 629, 630, 631, 632, 633, 634, 635, 636, 637, 638, 639, 640, 641] (by decide +kernel) (by decide +kernel)
set_option maxRecDepth 20000 in
theorem gL_law_X7_init : GoodIn wsL_law (wsX7_init) := ggL_law_X7_init
set_option maxRecDepth 20000 in
theorem ggL_law_X8_init : GoodIn wsL_law wsX8_init := goodIn_r _ [89, 90, 10, 11, 43, 91, 92, 93, 94, 95, 96, 97, 98, 99, 46, 100, 101, 102, 103, 104, 105, 106, 603, 604, 605, 606, 607, 608, 609, 610, 611, 612, 613, 614, 615, 616, 617, 618] (by decide +kernel) (by decide +kernel)
set_option maxRecDepth 20000 in
theorem gL_law_X8_init : GoodIn wsL_law (wsX8_init) := ggL_law_X8_init
set_option maxRecDepth 20000 in
theorem ggL_law_X7_open : GoodIn wsL_law wsX7_open := goodIn_r _ [110, 15, 111, 112, 113, 14, 114, 115, 116, 117, 118, 45, 119, 120, 121, 122, 48, 123, 124, 125, 126, 127, 128, 129, 130, 44, 596, 597, 598, 599, 600, 601, 602, 619, 620, 621, 622] (by decide +kernel) (by decide +kernel)
set_option maxRecDepth 20000 in
theorem gL_law_X7_open : GoodIn wsL_law (wsV RL 13 RX7 yX7_open wsX7_open) := goodIn_app (goodIn_of _ (by decide +kernel)) ggL_law_X7_open
set_option maxRecDepth 20000 in
theorem ggL_law_X8_open : GoodIn wsL_law wsX8_open := goodIn_r _ [134, 135, 97, 98, 99, 136, 137, 138, 5, 139, 603, 604, 605, 606, 607, 608, 609, 610, 611, 612, 613, 614, 615, 616, 617, 618] (by decide +kernel) (by decide +kernel)
set_option maxRecDepth 20000 in
theorem gL_law_X8_open : GoodIn wsL_law (wsV RL 17 RX8 yX8_open wsX8_open) := goodIn_app (goodIn_of _ (by decide +kernel)) ggL_law_X8_open
set_option maxRecDepth 20000 in
theorem ggL_law_X7_get : GoodIn wsL_law wsX7_get := goodIn_r _ [143, 15, 144, 19, 27, 145, 111, 112, 113, 14, 114, 115, 116, 117, 118, 45, 119, 120, 121, 122, 48, 146, 147, 148, 18, 149, 53, 52, 150, 151, 152, 153, 154, 155, 156, 26, 157, 71, 158, 159, 160, 2, 161, 35, 162, 163, 164, 165, 166, 167, 168, 169, 47, 44, 170, 171, 172, 173, 174, 175, 176, 177, 68, 178, 179, 180, 181, 69, 70, 182, 183, 184, 34, 185, 81, 186, 187, 188, 189, 80, 190, 191, 192, 193, 194, 195, 196, 197, 198, 199, 200, 201, 202, 203, 204, 205, 206, 23, 207, 208, 209, 210, 211, 212, 213, 214, 22, 215, 63, 62, 57, 58, 216, 217, 218, 219, 220, 221, 222, 223, 60, 224, 225, 226, 227, 228, 59, 596, 597, 598, 599, 600, 601, 602, 619, 620, 621, 622, 623, 624, 633, 634, 635, 636, 639, 640, 625, 626, 627, 628, 629, 630, 631, 632] (by decide +kernel) (by decide +kernel)
set_option maxRecDepth 20000 in
theorem gL_law_X7_get : GoodIn wsL_law (wsV RL 18 RX7 yX7_get wsX7_get) := goodIn_app (goodIn_of _ (by decide +kernel)) ggL_law_X7_get
set_option maxRecDepth 20000 in
theorem ggL_law_X8_get : GoodIn wsL_law wsX8_get := goodIn_r _ [232, 94, 233, 95, 234, 235, 236, 237, 238, 5, 239, 240, 91, 136, 137, 138, 139, 135, 98, 241, 242, 243, 244, 245, 246, 247, 248, 99, 100, 96, 249, 250, 251, 252, 253, 254, 255, 256, 257, 258, 259, 260, 97, 261, 262, 263, 264, 603, 604, 605, 606, 607, 608, 609, 610, 611, 612, 613, 614, 615, 616, 617, 618] (by decide +kernel) (by decide +kernel)
set_option maxRecDepth 20000 in
theorem gL_law_X8_get : GoodIn wsL_law (wsV RL 22 RX8 yX8_get wsX8_get) := goodIn_app (goodIn_of _ (by decide +kernel)) ggL_law_X8_get
set_option maxRecDepth 20000 in
theorem ggL_law_X7_put : GoodIn wsL_law wsX7_put := goodIn_r _ [268, 269, 270, 271, 2, 272, 15, 19, 27, 23, 206, 31, 273, 116, 117, 14, 118, 45, 119, 120, 121, 122, 48, 146, 147, 148, 18, 149, 53, 52, 150, 151, 152, 153, 154, 155, 156, 26, 157, 71, 274, 275, 276, 22, 277, 62, 158, 159, 160, 161, 35, 162, 163, 164, 165, 166, 167, 168, 169, 47, 44, 170, 171, 172, 173, 174, 175, 176, 177, 68, 178, 179, 180, 181, 69, 70, 182, 183, 184, 34, 185, 81, 186, 187, 188, 189, 80, 202, 203, 204, 205, 207, 208, 209, 210, 211, 212, 213, 214, 215, 63, 57, 58, 216, 217, 218, 219, 220, 221, 222, 223, 60, 224, 225, 226, 227, 228, 59, 190, 191, 192, 193, 194, 195, 196, 197, 198, 199, 200, 201, 278, 279, 280, 30, 281, 76, 282, 283, 284, 285, 61, 596, 597, 598, 599, 600, 601, 602, 619, 620, 621, 622, 623, 624, 633, 634, 635, 636, 625, 626, 627, 628, 629, 630, 631, 632, 639, 640, 637, 638] (by decide +kernel) (by decide +kernel)
set_option maxRecDepth 20000 in
theorem gL_law_X7_put : GoodIn wsL_law (wsV RL 23 RX7 yX7_put wsX7_put) := goodIn_app (goodIn_of _ (by decide +kernel)) ggL_law_X7_put
set_option maxRecDepth 20000 in
theorem ggL_law_X8_put : GoodIn wsL_law wsX8_put := goodIn_r _ [289, 94, 95, 136, 137, 138, 5, 139, 135, 98, 241, 242, 243, 244, 91, 240, 236, 237, 238, 239, 245, 246, 247, 248, 99, 100, 96, 249, 250, 251, 252, 253, 254, 255, 256, 257, 258, 259, 260, 97, 290, 291, 292, 293, 261, 262, 263, 264, 603, 604, 605, 606, 607, 608, 609, 610, 611, 612, 613, 614, 615, 616, 617, 618] (by decide +kernel) (by decide +kernel)
set_option maxRecDepth 20000 in
theorem gL_law_X8_put : GoodIn wsL_law (wsV RL 27 RX8 yX8_put wsX8_put) := goodIn_app (goodIn_of _ (by decide +kernel)) ggL_law_X8_put
set_option maxRecDepth 20000 in
theorem ggL_law_X7_take : GoodIn wsL_law wsX7_take := goodIn_r _ [297, 269, 270, 271, 2, 272, 15, 19, 27, 23, 206, 31, 273, 116, 117, 14, 118, 45, 119, 120, 121, 122, 48, 146, 147, 148, 18, 149, 53, 52, 150, 151, 152, 153, 154, 155, 156, 26, 157, 71, 274, 275, 276, 22, 277, 62, 158, 159, 160, 161, 35, 162, 163, 164, 165, 166, 167, 168, 169, 47, 44, 170, 171, 172, 173, 174, 175, 176, 177, 68, 178, 179, 180, 181, 69, 70, 182, 183, 184, 34, 185, 81, 186, 187, 188, 189, 80, 202, 203, 204, 205, 207, 208, 209, 210, 211, 212, 213, 214, 215, 63, 57, 58, 216, 217, 218, 219, 220, 221, 222, 223, 60, 224, 225, 226, 227, 228, 59, 190, 191, 192, 193, 194, 195, 196, 197, 198, 199, 200, 201, 278, 279, 280, 30, 281, 76, 282, 283, 284, 285, 61, 596, 597, 598, 599, 600, 601, 602, 619, 620, 621, 622, 623, 624, 633, 634, 635, 636, 625, 626, 627, 628, 629, 630, 631, 632, 639, 640, 637, 638] (by decide +kernel) (by decide +kernel)
set_option maxRecDepth 20000 in
theorem gL_law_X7_take : GoodIn wsL_law (wsV RL 28 RX7 yX7_take wsX7_take) := goodIn_app (goodIn_of _ (by decide +kernel)) ggL_law_X7_take
set_option maxRecDepth 20000 in
theorem ggL_law_X8_take : GoodIn wsL_law wsX8_take := goodIn_r _ [301, 94, 95, 136, 137, 138, 5, 139, 135, 98, 241, 242, 243, 244, 91, 240, 236, 237, 238, 239, 245, 246, 247, 248, 99, 100, 96, 249, 250, 251, 252, 253, 254, 255, 256, 257, 258, 259, 260, 97, 290, 291, 292, 293, 261, 262, 263, 264, 603, 604, 605, 606, 607, 608, 609, 610, 611, 612, 613, 614, 615, 616, 617, 618] (by decide +kernel) (by decide +kernel)
set_option maxRecDepth 20000 in
theorem gL_law_X8_take : GoodIn wsL_law (wsV RL 32 RX8 yX8_take wsX8_take) := goodIn_app (goodIn_of _ (by decide +kernel)) ggL_law_X8_take
set_option maxRecDepth 20000 in
theorem ggL_law_X7_mark : GoodIn wsL_law wsX7_mark := goodIn_r _ [305, 15, 31, 273, 116, 117, 14, 118, 45, 119, 120, 121, 122, 48, 306, 307, 308, 30, 309, 76, 310, 311, 312, 313, 75, 314, 315, 316, 317, 596, 597, 598, 599, 600, 601, 602, 619, 620, 621, 622, 637, 638] (by decide +kernel) (by decide +kernel)
set_option maxRecDepth 20000 in
theorem gL_law_X7_mark : GoodIn wsL_law (wsV RL 33 RX7 yX7_mark wsX7_mark) := goodIn_app (goodIn_of _ (by decide +kernel)) ggL_law_X7_mark
set_option maxRecDepth 20000 in
theorem ggL_law_X8_mark : GoodIn wsL_law wsX8_mark := goodIn_r _ [321, 101, 322, 102, 104, 94, 105, 95, 136, 137, 138, 5, 139, 135, 98, 323, 324, 325, 326, 603, 604, 605, 606, 607, 608, 609, 610, 611, 612, 613, 614, 615, 616, 617, 618] (by decide +kernel) (by decide +kernel)
set_option maxRecDepth 20000 in
theorem gL_law_X8_mark : GoodIn wsL_law (wsV RL 36 RX8 yX8_mark wsX8_mark) := goodIn_app (goodIn_of _ (by decide +kernel)) ggL_law_X8_mark
set_option maxRecDepth 20000 in
theorem ggL_law_X7_back : GoodIn wsL_law wsX7_back := goodIn_r _ [330, 31, 23, 331, 332, 333, 2, 334, 15, 273, 116, 117, 14, 118, 45, 119, 120, 121, 122, 48, 335, 336, 337, 338, 44, 339, 340, 341, 30, 342, 76, 75, 343, 344, 345, 346, 347, 348, 349, 350, 351, 352, 353, 22, 354, 63, 64, 355, 356, 357, 358, 62, 57, 58, 216, 217, 218, 219, 359, 360, 361, 362, 61, 363, 364, 365, 366, 60, 59, 596, 597, 598, 599, 600, 601, 602, 619, 620, 621, 622, 637, 638, 625, 626, 627, 628, 629, 630, 631, 632] (by decide +kernel) (by decide +kernel)
set_option maxRecDepth 20000 in
theorem gL_law_X7_back : GoodIn wsL_law (wsV RL 37 RX7 yX7_back wsX7_back) := goodIn_app (goodIn_of _ (by decide +kernel)) ggL_law_X7_back
set_option maxRecDepth 20000 in
theorem ggL_law_X8_back : GoodIn wsL_law wsX8_back := goodIn_r _ [370, 322, 101, 102, 136, 137, 138, 5, 139, 135, 98, 371, 372, 373, 374, 97, 323, 324, 325, 326, 375, 376, 377, 378, 94, 104, 95, 105, 603, 604, 605, 606, 607, 608, 609, 610, 611, 612, 613, 614, 615, 616, 617, 618] (by decide +kernel) (by decide +kernel)
set_option maxRecDepth 20000 in
theorem gL_law_X8_back : GoodIn wsL_law (wsV RL 40 RX8 yX8_back wsX8_back) := goodIn_app (goodIn_of _ (by decide +kernel)) ggL_law_X8_back
set_option maxRecDepth 20000 in
theorem ggL_law_X7_commit : GoodIn wsL_law wsX7_commit := goodIn_r _ [382, 23, 15, 31, 27, 331, 332, 333, 2, 334, 273, 116, 117, 14, 118, 45, 119, 120, 121, 122, 48, 335, 336, 337, 338, 44, 383, 384, 385, 22, 386, 63, 355, 356, 357, 358, 62, 57, 58, 216, 217, 218, 219, 387, 388, 389, 390, 278, 279, 280, 30, 281, 76, 391, 392, 393, 394, 61, 395, 396, 397, 26, 398, 71, 68, 69, 70, 194, 195, 196, 197, 198, 199, 200, 201, 399, 400, 401, 402, 35, 403, 404, 405, 406, 407, 408, 409, 410, 359, 360, 361, 362, 411, 412, 413, 414, 415, 416, 417, 418, 419, 344, 345, 346, 75, 182, 183, 184, 34, 185, 81, 596, 597, 598, 599, 600, 601, 602, 619, 620, 621, 622, 625, 626, 627, 628, 629, 630, 631, 632, 637, 638, 633, 634, 635, 636, 639, 640] (by decide +kernel) (by decide +kernel)
set_option maxRecDepth 20000 in
theorem gL_law_X7_commit : GoodIn wsL_law (wsV RL 41 RX7 yX7_commit wsX7_commit) := goodIn_app (goodIn_of _ (by decide +kernel)) ggL_law_X7_commit
set_option maxRecDepth 20000 in
theorem ggL_law_X8_commit : GoodIn wsL_law wsX8_commit := goodIn_r _ [423, 97, 94, 95, 96, 136, 137, 138, 5, 139, 135, 98, 371, 372, 373, 374, 424, 425, 426, 427, 322, 102, 101, 603, 604, 605, 606, 607, 608, 609, 610, 611, 612, 613, 614, 615, 616, 617, 618] (by decide +kernel) (by decide +kernel)
set_option maxRecDepth 20000 in
theorem gL_law_X8_commit : GoodIn wsL_law (wsV RL 44 RX8 yX8_commit wsX8_commit) := goodIn_app (goodIn_of _ (by decide +kernel)) ggL_law_X8_commit
set_option maxRecDepth 20000 in
theorem ggL_law_X7_abort : GoodIn wsL_law wsX7_abort := goodIn_r _ [431, 15, 273, 116, 117, 14, 118, 45, 119, 120, 121, 122, 48, 399, 400, 401, 2, 402, 23, 27, 31, 35, 403, 404, 405, 406, 407, 408, 409, 22, 410, 359, 360, 361, 362, 62, 57, 61, 411, 412, 413, 26, 414, 71, 68, 415, 416, 417, 30, 418, 419, 344, 345, 346, 76, 75, 182, 183, 184, 34, 185, 81, 432, 433, 434, 435, 436, 437, 438, 439, 44, 115, 440, 112, 113, 114, 596, 597, 598, 599, 600, 601, 602, 619, 620, 621, 622, 625, 626, 627, 628, 629, 630, 631, 632, 633, 634, 635, 636, 637, 638, 639, 640] (by decide +kernel) (by decide +kernel)
set_option maxRecDepth 20000 in
theorem gL_law_X7_abort : GoodIn wsL_law (wsV RL 45 RX7 yX7_abort wsX7_abort) := goodIn_app (goodIn_of _ (by decide +kernel)) ggL_law_X7_abort
set_option maxRecDepth 20000 in
theorem ggL_law_X8_abort : GoodIn wsL_law wsX8_abort := goodIn_r _ [444, 135, 136, 137, 138, 5, 139, 98, 257, 258, 259, 260, 97, 424, 425, 426, 427, 94, 95, 96, 322, 102, 101, 603, 604, 605, 606, 607, 608, 609, 610, 611, 612, 613, 614, 615, 616, 617, 618] (by decide +kernel) (by decide +kernel)
set_option maxRecDepth 20000 in
theorem gL_law_X8_abort : GoodIn wsL_law (wsV RL 48 RX8 yX8_abort wsX8_abort) := goodIn_app (goodIn_of _ (by decide +kernel)) ggL_law_X8_abort
set_option maxRecDepth 20000 in
theorem ggL_law_X7_state : GoodIn wsL_law wsX7_state := goodIn_r _ [448, 15, 449, 120, 121, 14, 122, 48, 450, 451, 452, 453, 45, 596, 597, 598, 599, 600, 601, 602, 619, 620, 621, 622] (by decide +kernel) (by decide +kernel)
set_option maxRecDepth 20000 in
theorem gL_law_X7_state : GoodIn wsL_law (wsV RL 49 RX7 yX7_state wsX7_state) := goodIn_app (goodIn_of _ (by decide +kernel)) ggL_law_X7_state
set_option maxRecDepth 20000 in
theorem ggL_law_X8_state : GoodIn wsL_law wsX8_state := goodIn_r _ [457, 135, 98, 603, 604, 605, 606, 607, 608, 609, 610, 611, 612, 613, 614, 615, 616, 617, 618] (by decide +kernel) (by decide +kernel)
set_option maxRecDepth 20000 in
theorem gL_law_X8_state : GoodIn wsL_law (wsV RL 52 RX8 yX8_state wsX8_state) := goodIn_app (goodIn_of _ (by decide +kernel)) ggL_law_X8_state
set_option maxRecDepth 20000 in
theorem ggL_law_X7_told : GoodIn wsL_law wsX7_told := goodIn_r _ [461, 15, 31, 23, 27, 449, 120, 121, 14, 122, 48, 387, 388, 389, 390, 44, 335, 336, 337, 338, 45, 462, 315, 316, 30, 317, 76, 75, 383, 384, 385, 22, 386, 63, 355, 356, 357, 358, 62, 57, 58, 216, 217, 218, 219, 463, 464, 465, 26, 466, 71, 68, 70, 596, 597, 598, 599, 600, 601, 602, 619, 620, 621, 622, 637, 638, 625, 626, 627, 628, 629, 630, 631, 632, 633, 634, 635, 636] (by decide +kernel) (by decide +kernel)
set_option maxRecDepth 20000 in
theorem gL_law_X7_told : GoodIn wsL_law (wsV RL 53 RX7 yX7_told wsX7_told) := goodIn_app (goodIn_of _ (by decide +kernel)) ggL_law_X7_told
set_option maxRecDepth 20000 in
theorem ggL_law_X8_told : GoodIn wsL_law wsX8_told := goodIn_r _ [470, 135, 97, 94, 96, 371, 372, 373, 5, 374, 136, 137, 138, 139, 98, 323, 324, 325, 326, 322, 101, 102, 603, 604, 605, 606, 607, 608, 609, 610, 611, 612, 613, 614, 615, 616, 617, 618] (by decide +kernel) (by decide +kernel)
set_option maxRecDepth 20000 in
theorem gL_law_X8_told : GoodIn wsL_law (wsV RL 56 RX8 yX8_told wsX8_told) := goodIn_app (goodIn_of _ (by decide +kernel)) ggL_law_X8_told
set_option maxRecDepth 20000 in
theorem ggL_law_X7_held : GoodIn wsL_law wsX7_held := goodIn_r _ [474, 15, 27, 19, 273, 116, 117, 14, 118, 45, 119, 120, 121, 122, 48, 207, 151, 152, 18, 153, 53, 52, 475, 476, 477, 26, 478, 70, 198, 199, 200, 201, 71, 68, 69, 596, 597, 598, 599, 600, 601, 602, 619, 620, 621, 622, 623, 624, 633, 634, 635, 636] (by decide +kernel) (by decide +kernel)
set_option maxRecDepth 20000 in
theorem gL_law_X7_held : GoodIn wsL_law (wsV RL 57 RX7 yX7_held wsX7_held) := goodIn_app (goodIn_of _ (by decide +kernel)) ggL_law_X7_held
set_option maxRecDepth 20000 in
theorem ggL_law_X8_held : GoodIn wsL_law wsX8_held := goodIn_r _ [482, 96, 136, 137, 138, 5, 139, 135, 98, 236, 237, 238, 239, 240, 91, 603, 604, 605, 606, 607, 608, 609, 610, 611, 612, 613, 614, 615, 616, 617, 618] (by decide +kernel) (by decide +kernel)
set_option maxRecDepth 20000 in
theorem gL_law_X8_held : GoodIn wsL_law (wsV RL 60 RX8 yX8_held wsX8_held) := goodIn_app (goodIn_of _ (by decide +kernel)) ggL_law_X8_held
set_option maxRecDepth 20000 in
theorem ggL_law_X7_blocker : GoodIn wsL_law wsX7_blocker := goodIn_r _ [486, 15, 19, 273, 116, 117, 14, 118, 45, 119, 120, 121, 122, 48, 207, 151, 152, 18, 153, 53, 52, 162, 163, 164, 2, 165, 27, 166, 167, 168, 169, 47, 44, 170, 171, 172, 173, 174, 175, 176, 26, 177, 71, 68, 178, 179, 180, 181, 69, 70, 596, 597, 598, 599, 600, 601, 602, 619, 620, 621, 622, 623, 624, 633, 634, 635, 636] (by decide +kernel) (by decide +kernel)
set_option maxRecDepth 20000 in
theorem gL_law_X7_blocker : GoodIn wsL_law (wsV RL 61 RX7 yX7_blocker wsX7_blocker) := goodIn_app (goodIn_of _ (by decide +kernel)) ggL_law_X7_blocker
set_option maxRecDepth 20000 in
theorem ggL_law_X8_blocker : GoodIn wsL_law wsX8_blocker := goodIn_r _ [490, 136, 137, 138, 5, 139, 135, 98, 236, 237, 238, 239, 240, 91, 249, 250, 251, 252, 253, 254, 255, 256, 96, 257, 258, 259, 260, 97, 603, 604, 605, 606, 607, 608, 609, 610, 611, 612, 613, 614, 615, 616, 617, 618] (by decide +kernel) (by decide +kernel)
set_option maxRecDepth 20000 in
theorem gL_law_X8_blocker : GoodIn wsL_law (wsV RL 65 RX8 yX8_blocker wsX8_blocker) := goodIn_app (goodIn_of _ (by decide +kernel)) ggL_law_X8_blocker
set_option maxRecDepth 20000 in
theorem ggL_law_X7_waits : GoodIn wsL_law wsX7_waits := goodIn_r _ [494, 15, 35, 273, 116, 117, 14, 118, 45, 119, 120, 121, 122, 48, 495, 496, 497, 34, 498, 81, 499, 500, 501, 502, 80, 503, 504, 505, 506, 162, 163, 164, 2, 165, 27, 166, 167, 168, 169, 47, 44, 170, 171, 172, 173, 174, 175, 176, 26, 177, 71, 68, 178, 179, 180, 181, 69, 70, 596, 597, 598, 599, 600, 601, 602, 619, 620, 621, 622, 639, 640, 633, 634, 635, 636] (by decide +kernel) (by decide +kernel)
set_option maxRecDepth 20000 in
theorem gL_law_X7_waits : GoodIn wsL_law (wsV RL 66 RX7 yX7_waits wsX7_waits) := goodIn_app (goodIn_of _ (by decide +kernel)) ggL_law_X7_waits
set_option maxRecDepth 20000 in
theorem ggL_law_X8_waits : GoodIn wsL_law wsX8_waits := goodIn_r _ [510, 99, 100, 136, 137, 138, 5, 139, 135, 98, 249, 250, 251, 252, 253, 254, 255, 256, 96, 257, 258, 259, 260, 97, 603, 604, 605, 606, 607, 608, 609, 610, 611, 612, 613, 614, 615, 616, 617, 618] (by decide +kernel) (by decide +kernel)
set_option maxRecDepth 20000 in
theorem gL_law_X8_waits : GoodIn wsL_law (wsV RL 69 RX8 yX8_waits wsX8_waits) := goodIn_app (goodIn_of _ (by decide +kernel)) ggL_law_X8_waits
set_option maxRecDepth 20000 in
theorem ggL_law_X7_ring : GoodIn wsL_law wsX7_ring := goodIn_r _ [514, 39, 15, 515, 516, 517, 2, 518, 35, 27, 519, 520, 521, 38, 522, 86, 523, 524, 218, 525, 432, 433, 434, 14, 435, 48, 495, 496, 497, 34, 498, 81, 166, 167, 168, 169, 47, 44, 170, 171, 172, 173, 526, 527, 528, 26, 529, 71, 68, 530, 500, 501, 502, 80, 531, 504, 505, 506, 178, 179, 180, 181, 69, 70, 532, 533, 534, 535, 536, 537, 538, 539, 540, 541, 542, 543, 544, 545, 546, 547, 548, 596, 597, 598, 599, 600, 601, 602, 641, 619, 620, 621, 622, 639, 640, 633, 634, 635, 636] (by decide +kernel) (by decide +kernel)
set_option maxRecDepth 20000 in
theorem gL_law_X7_ring : GoodIn wsL_law (wsV RL 70 RX7 yX7_ring wsX7_ring) := goodIn_app (goodIn_of _ (by decide +kernel)) ggL_law_X7_ring
set_option maxRecDepth 20000 in
theorem ggL_law_X8_ring : GoodIn wsL_law wsX8_ring := goodIn_r _ [552, 135, 106, 553, 554, 555, 5, 556, 99, 100, 136, 137, 138, 139, 98, 253, 254, 255, 256, 96, 257, 258, 259, 260, 97, 603, 604, 605, 606, 607, 608, 609, 610, 611, 612, 613, 614, 615, 616, 617, 618] (by decide +kernel) (by decide +kernel)
set_option maxRecDepth 20000 in
theorem gL_law_X8_ring : GoodIn wsL_law (wsV RL 74 RX8 yX8_ring wsX8_ring) := goodIn_app (goodIn_of _ (by decide +kernel)) ggL_law_X8_ring
set_option maxRecDepth 20000 in
theorem ggL_law_X7_size : GoodIn wsL_law wsX7_size := goodIn_r _ [560, 15, 19, 23, 111, 112, 113, 14, 114, 115, 116, 117, 118, 45, 119, 120, 121, 122, 48, 208, 209, 210, 2, 211, 166, 167, 168, 169, 47, 44, 170, 171, 172, 173, 212, 213, 214, 22, 215, 63, 62, 57, 58, 216, 217, 218, 219, 561, 562, 563, 18, 564, 53, 220, 221, 222, 223, 60, 596, 597, 598, 599, 600, 601, 602, 619, 620, 621, 622, 625, 626, 627, 628, 629, 630, 631, 632, 623, 624] (by decide +kernel) (by decide +kernel)
set_option maxRecDepth 20000 in
theorem gL_law_X7_size : GoodIn wsL_law (wsV RL 75 RX7 yX7_size wsX7_size) := goodIn_app (goodIn_of _ (by decide +kernel)) ggL_law_X7_size
set_option maxRecDepth 20000 in
theorem ggL_law_X8_size : GoodIn wsL_law wsX8_size := goodIn_r _ [568, 240, 569, 570, 571, 5, 572, 136, 137, 138, 139, 135, 98, 290, 291, 292, 293, 261, 262, 263, 264, 94, 97, 603, 604, 605, 606, 607, 608, 609, 610, 611, 612, 613, 614, 615, 616, 617, 618] (by decide +kernel) (by decide +kernel)
set_option maxRecDepth 20000 in
theorem gL_law_X8_size : GoodIn wsL_law (wsV RL 78 RX8 yX8_size wsX8_size) := goodIn_app (goodIn_of _ (by decide +kernel)) ggL_law_X8_size
set_option maxRecDepth 20000 in
theorem ggL_law_X7_next : GoodIn wsL_law wsX7_next := goodIn_r _ [576, 15, 144, 206, 19, 23, 577, 578, 196, 579, 111, 112, 113, 14, 114, 115, 116, 117, 118, 45, 119, 120, 121, 122, 48, 208, 209, 210, 2, 211, 166, 167, 168, 169, 47, 44, 170, 171, 172, 173, 212, 213, 214, 22, 215, 63, 62, 57, 58, 216, 217, 218, 219, 561, 562, 563, 18, 564, 53, 580, 581, 582, 583, 52, 220, 221, 222, 223, 60, 596, 597, 598, 599, 600, 601, 602, 619, 620, 621, 622, 625, 626, 627, 628, 629, 630, 631, 632, 623, 624] (by decide +kernel) (by decide +kernel)
set_option maxRecDepth 20000 in
theorem gL_law_X7_next : GoodIn wsL_law (wsV RL 79 RX7 yX7_next wsX7_next) := goodIn_app (goodIn_of _ (by decide +kernel)) ggL_law_X7_next
set_option maxRecDepth 20000 in
theorem ggL_law_X8_next : GoodIn wsL_law wsX8_next := goodIn_r _ [587, 234, 233, 240, 91, 569, 570, 571, 5, 572, 136, 137, 138, 139, 135, 98, 290, 291, 292, 293, 261, 262, 263, 264, 94, 97, 603, 604, 605, 606, 607, 608, 609, 610, 611, 612, 613, 614, 615, 616, 617, 618] (by decide +kernel) (by decide +kernel)
set_option maxRecDepth 20000 in
theorem gL_law_X8_next : GoodIn wsL_law (wsV RL 82 RX8 yX8_next wsX8_next) := goodIn_app (goodIn_of _ (by decide +kernel)) ggL_law_X8_next
set_option maxRecDepth 20000 in
theorem ggL_law_X7_sum : GoodIn wsL_law wsX7_sum := goodIn_r _ [591, 15, 144, 19, 23, 111, 112, 113, 14, 114, 115, 116, 117, 118, 45, 119, 120, 121, 122, 48, 208, 209, 210, 2, 211, 166, 167, 168, 169, 47, 44, 170, 171, 172, 173, 212, 213, 214, 22, 215, 63, 62, 57, 58, 216, 217, 218, 219, 561, 562, 563, 18, 564, 53, 580, 581, 582, 583, 52, 220, 221, 222, 223, 60, 224, 225, 226, 227, 228, 59, 596, 597, 598, 599, 600, 601, 602, 619, 620, 621, 622, 625, 626, 627, 628, 629, 630, 631, 632, 623, 624] (by decide +kernel) (by decide +kernel)
set_option maxRecDepth 20000 in
theorem gL_law_X7_sum : GoodIn wsL_law (wsV RL 83 RX7 yX7_sum wsX7_sum) := goodIn_app (goodIn_of _ (by decide +kernel)) ggL_law_X7_sum
set_option maxRecDepth 20000 in
theorem ggL_law_X8_sum : GoodIn wsL_law wsX8_sum := goodIn_r _ [595, 234, 240, 91, 95, 569, 570, 571, 5, 572, 136, 137, 138, 139, 135, 98, 290, 291, 292, 293, 261, 262, 263, 264, 94, 97, 603, 604, 605, 606, 607, 608, 609, 610, 611, 612, 613, 614, 615, 616, 617, 618] (by decide +kernel) (by decide +kernel)
set_option maxRecDepth 20000 in
theorem gL_law_X8_sum : GoodIn wsL_law (wsV RL 87 RX8 yX8_sum wsX8_sum) := goodIn_app (goodIn_of _ (by decide +kernel)) ggL_law_X8_sum
theorem dL_law_0 : decode cL_law 0 = .ok (.new 7, 3) := by decide +kernel
theorem dL_law_3 : decode cL_law 3 = .ok (.dup, 1) := by decide +kernel
theorem dL_law_4 : decode cL_law 4 = .ok (.invokespecial 9, 3) := by decide +kernel
theorem dL_law_7 : decode cL_law 7 = .ok (.astore_n 1, 1) := by decide +kernel
theorem dL_law_8 : decode cL_law 8 = .ok (.new 10, 3) := by decide +kernel
theorem dL_law_11 : decode cL_law 11 = .ok (.dup, 1) := by decide +kernel
theorem dL_law_12 : decode cL_law 12 = .ok (.invokespecial 12, 3) := by decide +kernel
theorem dL_law_15 : decode cL_law 15 = .ok (.astore_n 2, 1) := by decide +kernel
theorem dL_law_16 : decode cL_law 16 = .ok (.iconst 0, 1) := by decide +kernel
theorem dL_law_17 : decode cL_law 17 = .ok (.istore_n 3, 1) := by decide +kernel
theorem dL_law_18 : decode cL_law 18 = .ok (.iload_n 3, 1) := by decide +kernel
theorem dL_law_19 : decode cL_law 19 = .ok (.aload_n 0, 1) := by decide +kernel
theorem dL_law_20 : decode cL_law 20 = .ok (.arraylength, 1) := by decide +kernel
theorem dL_law_21 : decode cL_law 21 = .ok (.iconst 4, 1) := by decide +kernel
theorem dL_law_22 : decode cL_law 22 = .ok (.isub, 1) := by decide +kernel
theorem dL_law_23 : decode cL_law 23 = .ok (.if_icmp .gt 619, 3) := by decide +kernel
theorem dL_law_26 : decode cL_law 26 = .ok (.aload_n 0, 1) := by decide +kernel
theorem dL_law_27 : decode cL_law 27 = .ok (.iload_n 3, 1) := by decide +kernel
theorem dL_law_28 : decode cL_law 28 = .ok (.iaload, 1) := by decide +kernel
theorem dL_law_29 : decode cL_law 29 = .ok (.bipush 31, 2) := by decide +kernel
theorem dL_law_31 : decode cL_law 31 = .ok (.iand, 1) := by decide +kernel
theorem dL_law_32 : decode cL_law 32 = .ok (.tableswitch 604 0 16 #[84, 107, 141, 184, 217, 240, 273, 296, 319, 342, 375, 408, 467, 490, 503, 526, 560], 84) := by decide +kernel
theorem dL_law_116 : decode cL_law 116 = .ok (.aload_n 1, 1) := by decide +kernel
theorem dL_law_117 : decode cL_law 117 = .ok (.aload_n 0, 1) := by decide +kernel
theorem dL_law_118 : decode cL_law 118 = .ok (.iload_n 3, 1) := by decide +kernel
theorem dL_law_119 : decode cL_law 119 = .ok (.iconst 1, 1) := by decide +kernel
theorem dL_law_120 : decode cL_law 120 = .ok (.iadd, 1) := by decide +kernel
theorem dL_law_121 : decode cL_law 121 = .ok (.iaload, 1) := by decide +kernel
theorem dL_law_122 : decode cL_law 122 = .ok (.invokevirtual 13, 3) := by decide +kernel
theorem dL_law_125 : decode cL_law 125 = .ok (.aload_n 2, 1) := by decide +kernel
theorem dL_law_126 : decode cL_law 126 = .ok (.aload_n 0, 1) := by decide +kernel
theorem dL_law_127 : decode cL_law 127 = .ok (.iload_n 3, 1) := by decide +kernel
theorem dL_law_128 : decode cL_law 128 = .ok (.iconst 1, 1) := by decide +kernel
theorem dL_law_129 : decode cL_law 129 = .ok (.iadd, 1) := by decide +kernel
theorem dL_law_130 : decode cL_law 130 = .ok (.iaload, 1) := by decide +kernel
theorem dL_law_131 : decode cL_law 131 = .ok (.invokevirtual 17, 3) := by decide +kernel
theorem dL_law_134 : decode cL_law 134 = .ok (.if_icmp .eq 502, 3) := by decide +kernel
theorem dL_law_137 : decode cL_law 137 = .ok (.iconst 0, 1) := by decide +kernel
theorem dL_law_138 : decode cL_law 138 = .ok (.ireturn, 1) := by decide +kernel
theorem dL_law_139 : decode cL_law 139 = .ok (.aload_n 1, 1) := by decide +kernel
theorem dL_law_140 : decode cL_law 140 = .ok (.aload_n 0, 1) := by decide +kernel
theorem dL_law_141 : decode cL_law 141 = .ok (.iload_n 3, 1) := by decide +kernel
theorem dL_law_142 : decode cL_law 142 = .ok (.iconst 1, 1) := by decide +kernel
theorem dL_law_143 : decode cL_law 143 = .ok (.iadd, 1) := by decide +kernel
theorem dL_law_144 : decode cL_law 144 = .ok (.iaload, 1) := by decide +kernel
theorem dL_law_145 : decode cL_law 145 = .ok (.aload_n 0, 1) := by decide +kernel
theorem dL_law_146 : decode cL_law 146 = .ok (.iload_n 3, 1) := by decide +kernel
theorem dL_law_147 : decode cL_law 147 = .ok (.iconst 2, 1) := by decide +kernel
theorem dL_law_148 : decode cL_law 148 = .ok (.iadd, 1) := by decide +kernel
theorem dL_law_149 : decode cL_law 149 = .ok (.iaload, 1) := by decide +kernel
theorem dL_law_150 : decode cL_law 150 = .ok (.invokevirtual 18, 3) := by decide +kernel
theorem dL_law_153 : decode cL_law 153 = .ok (.aload_n 2, 1) := by decide +kernel
theorem dL_law_154 : decode cL_law 154 = .ok (.aload_n 0, 1) := by decide +kernel
theorem dL_law_155 : decode cL_law 155 = .ok (.iload_n 3, 1) := by decide +kernel
theorem dL_law_156 : decode cL_law 156 = .ok (.iconst 1, 1) := by decide +kernel
theorem dL_law_157 : decode cL_law 157 = .ok (.iadd, 1) := by decide +kernel
theorem dL_law_158 : decode cL_law 158 = .ok (.iaload, 1) := by decide +kernel
theorem dL_law_159 : decode cL_law 159 = .ok (.aload_n 0, 1) := by decide +kernel
theorem dL_law_160 : decode cL_law 160 = .ok (.iload_n 3, 1) := by decide +kernel
theorem dL_law_161 : decode cL_law 161 = .ok (.iconst 2, 1) := by decide +kernel
theorem dL_law_162 : decode cL_law 162 = .ok (.iadd, 1) := by decide +kernel
theorem dL_law_163 : decode cL_law 163 = .ok (.iaload, 1) := by decide +kernel
theorem dL_law_164 : decode cL_law 164 = .ok (.invokevirtual 22, 3) := by decide +kernel
theorem dL_law_167 : decode cL_law 167 = .ok (.lcmp, 1) := by decide +kernel
theorem dL_law_168 : decode cL_law 168 = .ok (.ifCond .eq 468, 3) := by decide +kernel
theorem dL_law_171 : decode cL_law 171 = .ok (.iconst 0, 1) := by decide +kernel
theorem dL_law_172 : decode cL_law 172 = .ok (.ireturn, 1) := by decide +kernel
theorem dL_law_173 : decode cL_law 173 = .ok (.aload_n 1, 1) := by decide +kernel
theorem dL_law_174 : decode cL_law 174 = .ok (.aload_n 0, 1) := by decide +kernel
theorem dL_law_175 : decode cL_law 175 = .ok (.iload_n 3, 1) := by decide +kernel
theorem dL_law_176 : decode cL_law 176 = .ok (.iconst 1, 1) := by decide +kernel
theorem dL_law_177 : decode cL_law 177 = .ok (.iadd, 1) := by decide +kernel
theorem dL_law_178 : decode cL_law 178 = .ok (.iaload, 1) := by decide +kernel
theorem dL_law_179 : decode cL_law 179 = .ok (.aload_n 0, 1) := by decide +kernel
theorem dL_law_180 : decode cL_law 180 = .ok (.iload_n 3, 1) := by decide +kernel
theorem dL_law_181 : decode cL_law 181 = .ok (.iconst 2, 1) := by decide +kernel
theorem dL_law_182 : decode cL_law 182 = .ok (.iadd, 1) := by decide +kernel
theorem dL_law_183 : decode cL_law 183 = .ok (.iaload, 1) := by decide +kernel
theorem dL_law_184 : decode cL_law 184 = .ok (.aload_n 0, 1) := by decide +kernel
theorem dL_law_185 : decode cL_law 185 = .ok (.iload_n 3, 1) := by decide +kernel
theorem dL_law_186 : decode cL_law 186 = .ok (.iconst 3, 1) := by decide +kernel
theorem dL_law_187 : decode cL_law 187 = .ok (.iadd, 1) := by decide +kernel
theorem dL_law_188 : decode cL_law 188 = .ok (.iaload, 1) := by decide +kernel
theorem dL_law_189 : decode cL_law 189 = .ok (.invokevirtual 23, 3) := by decide +kernel
theorem dL_law_192 : decode cL_law 192 = .ok (.aload_n 2, 1) := by decide +kernel
theorem dL_law_193 : decode cL_law 193 = .ok (.aload_n 0, 1) := by decide +kernel
theorem dL_law_194 : decode cL_law 194 = .ok (.iload_n 3, 1) := by decide +kernel
theorem dL_law_195 : decode cL_law 195 = .ok (.iconst 1, 1) := by decide +kernel
theorem dL_law_196 : decode cL_law 196 = .ok (.iadd, 1) := by decide +kernel
theorem dL_law_197 : decode cL_law 197 = .ok (.iaload, 1) := by decide +kernel
theorem dL_law_198 : decode cL_law 198 = .ok (.aload_n 0, 1) := by decide +kernel
theorem dL_law_199 : decode cL_law 199 = .ok (.iload_n 3, 1) := by decide +kernel
theorem dL_law_200 : decode cL_law 200 = .ok (.iconst 2, 1) := by decide +kernel
theorem dL_law_201 : decode cL_law 201 = .ok (.iadd, 1) := by decide +kernel
theorem dL_law_202 : decode cL_law 202 = .ok (.iaload, 1) := by decide +kernel
theorem dL_law_203 : decode cL_law 203 = .ok (.aload_n 0, 1) := by decide +kernel
theorem dL_law_204 : decode cL_law 204 = .ok (.iload_n 3, 1) := by decide +kernel
theorem dL_law_205 : decode cL_law 205 = .ok (.iconst 3, 1) := by decide +kernel
theorem dL_law_206 : decode cL_law 206 = .ok (.iadd, 1) := by decide +kernel
theorem dL_law_207 : decode cL_law 207 = .ok (.iaload, 1) := by decide +kernel
theorem dL_law_208 : decode cL_law 208 = .ok (.invokevirtual 27, 3) := by decide +kernel
theorem dL_law_211 : decode cL_law 211 = .ok (.if_icmp .eq 425, 3) := by decide +kernel
theorem dL_law_214 : decode cL_law 214 = .ok (.iconst 0, 1) := by decide +kernel
theorem dL_law_215 : decode cL_law 215 = .ok (.ireturn, 1) := by decide +kernel
theorem dL_law_216 : decode cL_law 216 = .ok (.aload_n 1, 1) := by decide +kernel
theorem dL_law_217 : decode cL_law 217 = .ok (.aload_n 0, 1) := by decide +kernel
theorem dL_law_218 : decode cL_law 218 = .ok (.iload_n 3, 1) := by decide +kernel
theorem dL_law_219 : decode cL_law 219 = .ok (.iconst 1, 1) := by decide +kernel
theorem dL_law_220 : decode cL_law 220 = .ok (.iadd, 1) := by decide +kernel
theorem dL_law_221 : decode cL_law 221 = .ok (.iaload, 1) := by decide +kernel
theorem dL_law_222 : decode cL_law 222 = .ok (.aload_n 0, 1) := by decide +kernel
theorem dL_law_223 : decode cL_law 223 = .ok (.iload_n 3, 1) := by decide +kernel
theorem dL_law_224 : decode cL_law 224 = .ok (.iconst 2, 1) := by decide +kernel
theorem dL_law_225 : decode cL_law 225 = .ok (.iadd, 1) := by decide +kernel
theorem dL_law_226 : decode cL_law 226 = .ok (.iaload, 1) := by decide +kernel
theorem dL_law_227 : decode cL_law 227 = .ok (.invokevirtual 28, 3) := by decide +kernel
theorem dL_law_230 : decode cL_law 230 = .ok (.aload_n 2, 1) := by decide +kernel
theorem dL_law_231 : decode cL_law 231 = .ok (.aload_n 0, 1) := by decide +kernel
theorem dL_law_232 : decode cL_law 232 = .ok (.iload_n 3, 1) := by decide +kernel
theorem dL_law_233 : decode cL_law 233 = .ok (.iconst 1, 1) := by decide +kernel
theorem dL_law_234 : decode cL_law 234 = .ok (.iadd, 1) := by decide +kernel
theorem dL_law_235 : decode cL_law 235 = .ok (.iaload, 1) := by decide +kernel
theorem dL_law_236 : decode cL_law 236 = .ok (.aload_n 0, 1) := by decide +kernel
theorem dL_law_237 : decode cL_law 237 = .ok (.iload_n 3, 1) := by decide +kernel
theorem dL_law_238 : decode cL_law 238 = .ok (.iconst 2, 1) := by decide +kernel
theorem dL_law_239 : decode cL_law 239 = .ok (.iadd, 1) := by decide +kernel
theorem dL_law_240 : decode cL_law 240 = .ok (.iaload, 1) := by decide +kernel
theorem dL_law_241 : decode cL_law 241 = .ok (.invokevirtual 32, 3) := by decide +kernel
theorem dL_law_244 : decode cL_law 244 = .ok (.if_icmp .eq 392, 3) := by decide +kernel
theorem dL_law_247 : decode cL_law 247 = .ok (.iconst 0, 1) := by decide +kernel
theorem dL_law_248 : decode cL_law 248 = .ok (.ireturn, 1) := by decide +kernel
theorem dL_law_249 : decode cL_law 249 = .ok (.aload_n 1, 1) := by decide +kernel
theorem dL_law_250 : decode cL_law 250 = .ok (.aload_n 0, 1) := by decide +kernel
theorem dL_law_251 : decode cL_law 251 = .ok (.iload_n 3, 1) := by decide +kernel
theorem dL_law_252 : decode cL_law 252 = .ok (.iconst 1, 1) := by decide +kernel
theorem dL_law_253 : decode cL_law 253 = .ok (.iadd, 1) := by decide +kernel
theorem dL_law_254 : decode cL_law 254 = .ok (.iaload, 1) := by decide +kernel
theorem dL_law_255 : decode cL_law 255 = .ok (.invokevirtual 33, 3) := by decide +kernel
theorem dL_law_258 : decode cL_law 258 = .ok (.aload_n 2, 1) := by decide +kernel
theorem dL_law_259 : decode cL_law 259 = .ok (.aload_n 0, 1) := by decide +kernel
theorem dL_law_260 : decode cL_law 260 = .ok (.iload_n 3, 1) := by decide +kernel
theorem dL_law_261 : decode cL_law 261 = .ok (.iconst 1, 1) := by decide +kernel
theorem dL_law_262 : decode cL_law 262 = .ok (.iadd, 1) := by decide +kernel
theorem dL_law_263 : decode cL_law 263 = .ok (.iaload, 1) := by decide +kernel
theorem dL_law_264 : decode cL_law 264 = .ok (.invokevirtual 36, 3) := by decide +kernel
theorem dL_law_267 : decode cL_law 267 = .ok (.if_icmp .eq 369, 3) := by decide +kernel
theorem dL_law_270 : decode cL_law 270 = .ok (.iconst 0, 1) := by decide +kernel
theorem dL_law_271 : decode cL_law 271 = .ok (.ireturn, 1) := by decide +kernel
theorem dL_law_272 : decode cL_law 272 = .ok (.aload_n 1, 1) := by decide +kernel
theorem dL_law_273 : decode cL_law 273 = .ok (.aload_n 0, 1) := by decide +kernel
theorem dL_law_274 : decode cL_law 274 = .ok (.iload_n 3, 1) := by decide +kernel
theorem dL_law_275 : decode cL_law 275 = .ok (.iconst 1, 1) := by decide +kernel
theorem dL_law_276 : decode cL_law 276 = .ok (.iadd, 1) := by decide +kernel
theorem dL_law_277 : decode cL_law 277 = .ok (.iaload, 1) := by decide +kernel
theorem dL_law_278 : decode cL_law 278 = .ok (.aload_n 0, 1) := by decide +kernel
theorem dL_law_279 : decode cL_law 279 = .ok (.iload_n 3, 1) := by decide +kernel
theorem dL_law_280 : decode cL_law 280 = .ok (.iconst 2, 1) := by decide +kernel
theorem dL_law_281 : decode cL_law 281 = .ok (.iadd, 1) := by decide +kernel
theorem dL_law_282 : decode cL_law 282 = .ok (.iaload, 1) := by decide +kernel
theorem dL_law_283 : decode cL_law 283 = .ok (.invokevirtual 37, 3) := by decide +kernel
theorem dL_law_286 : decode cL_law 286 = .ok (.aload_n 2, 1) := by decide +kernel
theorem dL_law_287 : decode cL_law 287 = .ok (.aload_n 0, 1) := by decide +kernel
theorem dL_law_288 : decode cL_law 288 = .ok (.iload_n 3, 1) := by decide +kernel
theorem dL_law_289 : decode cL_law 289 = .ok (.iconst 1, 1) := by decide +kernel
theorem dL_law_290 : decode cL_law 290 = .ok (.iadd, 1) := by decide +kernel
theorem dL_law_291 : decode cL_law 291 = .ok (.iaload, 1) := by decide +kernel
theorem dL_law_292 : decode cL_law 292 = .ok (.aload_n 0, 1) := by decide +kernel
theorem dL_law_293 : decode cL_law 293 = .ok (.iload_n 3, 1) := by decide +kernel
theorem dL_law_294 : decode cL_law 294 = .ok (.iconst 2, 1) := by decide +kernel
theorem dL_law_295 : decode cL_law 295 = .ok (.iadd, 1) := by decide +kernel
theorem dL_law_296 : decode cL_law 296 = .ok (.iaload, 1) := by decide +kernel
theorem dL_law_297 : decode cL_law 297 = .ok (.invokevirtual 40, 3) := by decide +kernel
theorem dL_law_300 : decode cL_law 300 = .ok (.if_icmp .eq 336, 3) := by decide +kernel
theorem dL_law_303 : decode cL_law 303 = .ok (.iconst 0, 1) := by decide +kernel
theorem dL_law_304 : decode cL_law 304 = .ok (.ireturn, 1) := by decide +kernel
theorem dL_law_305 : decode cL_law 305 = .ok (.aload_n 1, 1) := by decide +kernel
theorem dL_law_306 : decode cL_law 306 = .ok (.aload_n 0, 1) := by decide +kernel
theorem dL_law_307 : decode cL_law 307 = .ok (.iload_n 3, 1) := by decide +kernel
theorem dL_law_308 : decode cL_law 308 = .ok (.iconst 1, 1) := by decide +kernel
theorem dL_law_309 : decode cL_law 309 = .ok (.iadd, 1) := by decide +kernel
theorem dL_law_310 : decode cL_law 310 = .ok (.iaload, 1) := by decide +kernel
theorem dL_law_311 : decode cL_law 311 = .ok (.invokevirtual 41, 3) := by decide +kernel
theorem dL_law_314 : decode cL_law 314 = .ok (.aload_n 2, 1) := by decide +kernel
theorem dL_law_315 : decode cL_law 315 = .ok (.aload_n 0, 1) := by decide +kernel
theorem dL_law_316 : decode cL_law 316 = .ok (.iload_n 3, 1) := by decide +kernel
theorem dL_law_317 : decode cL_law 317 = .ok (.iconst 1, 1) := by decide +kernel
theorem dL_law_318 : decode cL_law 318 = .ok (.iadd, 1) := by decide +kernel
theorem dL_law_319 : decode cL_law 319 = .ok (.iaload, 1) := by decide +kernel
theorem dL_law_320 : decode cL_law 320 = .ok (.invokevirtual 44, 3) := by decide +kernel
theorem dL_law_323 : decode cL_law 323 = .ok (.if_icmp .eq 313, 3) := by decide +kernel
theorem dL_law_326 : decode cL_law 326 = .ok (.iconst 0, 1) := by decide +kernel
theorem dL_law_327 : decode cL_law 327 = .ok (.ireturn, 1) := by decide +kernel
theorem dL_law_328 : decode cL_law 328 = .ok (.aload_n 1, 1) := by decide +kernel
theorem dL_law_329 : decode cL_law 329 = .ok (.aload_n 0, 1) := by decide +kernel
theorem dL_law_330 : decode cL_law 330 = .ok (.iload_n 3, 1) := by decide +kernel
theorem dL_law_331 : decode cL_law 331 = .ok (.iconst 1, 1) := by decide +kernel
theorem dL_law_332 : decode cL_law 332 = .ok (.iadd, 1) := by decide +kernel
theorem dL_law_333 : decode cL_law 333 = .ok (.iaload, 1) := by decide +kernel
theorem dL_law_334 : decode cL_law 334 = .ok (.invokevirtual 45, 3) := by decide +kernel
theorem dL_law_337 : decode cL_law 337 = .ok (.aload_n 2, 1) := by decide +kernel
theorem dL_law_338 : decode cL_law 338 = .ok (.aload_n 0, 1) := by decide +kernel
theorem dL_law_339 : decode cL_law 339 = .ok (.iload_n 3, 1) := by decide +kernel
theorem dL_law_340 : decode cL_law 340 = .ok (.iconst 1, 1) := by decide +kernel
theorem dL_law_341 : decode cL_law 341 = .ok (.iadd, 1) := by decide +kernel
theorem dL_law_342 : decode cL_law 342 = .ok (.iaload, 1) := by decide +kernel
theorem dL_law_343 : decode cL_law 343 = .ok (.invokevirtual 48, 3) := by decide +kernel
theorem dL_law_346 : decode cL_law 346 = .ok (.if_icmp .eq 290, 3) := by decide +kernel
theorem dL_law_349 : decode cL_law 349 = .ok (.iconst 0, 1) := by decide +kernel
theorem dL_law_350 : decode cL_law 350 = .ok (.ireturn, 1) := by decide +kernel
theorem dL_law_351 : decode cL_law 351 = .ok (.aload_n 1, 1) := by decide +kernel
theorem dL_law_352 : decode cL_law 352 = .ok (.aload_n 0, 1) := by decide +kernel
theorem dL_law_353 : decode cL_law 353 = .ok (.iload_n 3, 1) := by decide +kernel
theorem dL_law_354 : decode cL_law 354 = .ok (.iconst 1, 1) := by decide +kernel
theorem dL_law_355 : decode cL_law 355 = .ok (.iadd, 1) := by decide +kernel
theorem dL_law_356 : decode cL_law 356 = .ok (.iaload, 1) := by decide +kernel
theorem dL_law_357 : decode cL_law 357 = .ok (.invokevirtual 49, 3) := by decide +kernel
theorem dL_law_360 : decode cL_law 360 = .ok (.aload_n 2, 1) := by decide +kernel
theorem dL_law_361 : decode cL_law 361 = .ok (.aload_n 0, 1) := by decide +kernel
theorem dL_law_362 : decode cL_law 362 = .ok (.iload_n 3, 1) := by decide +kernel
theorem dL_law_363 : decode cL_law 363 = .ok (.iconst 1, 1) := by decide +kernel
theorem dL_law_364 : decode cL_law 364 = .ok (.iadd, 1) := by decide +kernel
theorem dL_law_365 : decode cL_law 365 = .ok (.iaload, 1) := by decide +kernel
theorem dL_law_366 : decode cL_law 366 = .ok (.invokevirtual 52, 3) := by decide +kernel
theorem dL_law_369 : decode cL_law 369 = .ok (.if_icmp .eq 267, 3) := by decide +kernel
theorem dL_law_372 : decode cL_law 372 = .ok (.iconst 0, 1) := by decide +kernel
theorem dL_law_373 : decode cL_law 373 = .ok (.ireturn, 1) := by decide +kernel
theorem dL_law_374 : decode cL_law 374 = .ok (.aload_n 1, 1) := by decide +kernel
theorem dL_law_375 : decode cL_law 375 = .ok (.aload_n 0, 1) := by decide +kernel
theorem dL_law_376 : decode cL_law 376 = .ok (.iload_n 3, 1) := by decide +kernel
theorem dL_law_377 : decode cL_law 377 = .ok (.iconst 1, 1) := by decide +kernel
theorem dL_law_378 : decode cL_law 378 = .ok (.iadd, 1) := by decide +kernel
theorem dL_law_379 : decode cL_law 379 = .ok (.iaload, 1) := by decide +kernel
theorem dL_law_380 : decode cL_law 380 = .ok (.aload_n 0, 1) := by decide +kernel
theorem dL_law_381 : decode cL_law 381 = .ok (.iload_n 3, 1) := by decide +kernel
theorem dL_law_382 : decode cL_law 382 = .ok (.iconst 2, 1) := by decide +kernel
theorem dL_law_383 : decode cL_law 383 = .ok (.iadd, 1) := by decide +kernel
theorem dL_law_384 : decode cL_law 384 = .ok (.iaload, 1) := by decide +kernel
theorem dL_law_385 : decode cL_law 385 = .ok (.invokevirtual 53, 3) := by decide +kernel
theorem dL_law_388 : decode cL_law 388 = .ok (.aload_n 2, 1) := by decide +kernel
theorem dL_law_389 : decode cL_law 389 = .ok (.aload_n 0, 1) := by decide +kernel
theorem dL_law_390 : decode cL_law 390 = .ok (.iload_n 3, 1) := by decide +kernel
theorem dL_law_391 : decode cL_law 391 = .ok (.iconst 1, 1) := by decide +kernel
theorem dL_law_392 : decode cL_law 392 = .ok (.iadd, 1) := by decide +kernel
theorem dL_law_393 : decode cL_law 393 = .ok (.iaload, 1) := by decide +kernel
theorem dL_law_394 : decode cL_law 394 = .ok (.aload_n 0, 1) := by decide +kernel
theorem dL_law_395 : decode cL_law 395 = .ok (.iload_n 3, 1) := by decide +kernel
theorem dL_law_396 : decode cL_law 396 = .ok (.iconst 2, 1) := by decide +kernel
theorem dL_law_397 : decode cL_law 397 = .ok (.iadd, 1) := by decide +kernel
theorem dL_law_398 : decode cL_law 398 = .ok (.iaload, 1) := by decide +kernel
theorem dL_law_399 : decode cL_law 399 = .ok (.invokevirtual 56, 3) := by decide +kernel
theorem dL_law_402 : decode cL_law 402 = .ok (.if_icmp .eq 234, 3) := by decide +kernel
theorem dL_law_405 : decode cL_law 405 = .ok (.iconst 0, 1) := by decide +kernel
theorem dL_law_406 : decode cL_law 406 = .ok (.ireturn, 1) := by decide +kernel
theorem dL_law_407 : decode cL_law 407 = .ok (.aload_n 1, 1) := by decide +kernel
theorem dL_law_408 : decode cL_law 408 = .ok (.aload_n 0, 1) := by decide +kernel
theorem dL_law_409 : decode cL_law 409 = .ok (.iload_n 3, 1) := by decide +kernel
theorem dL_law_410 : decode cL_law 410 = .ok (.iconst 1, 1) := by decide +kernel
theorem dL_law_411 : decode cL_law 411 = .ok (.iadd, 1) := by decide +kernel
theorem dL_law_412 : decode cL_law 412 = .ok (.iaload, 1) := by decide +kernel
theorem dL_law_413 : decode cL_law 413 = .ok (.aload_n 0, 1) := by decide +kernel
theorem dL_law_414 : decode cL_law 414 = .ok (.iload_n 3, 1) := by decide +kernel
theorem dL_law_415 : decode cL_law 415 = .ok (.iconst 2, 1) := by decide +kernel
theorem dL_law_416 : decode cL_law 416 = .ok (.iadd, 1) := by decide +kernel
theorem dL_law_417 : decode cL_law 417 = .ok (.iaload, 1) := by decide +kernel
theorem dL_law_418 : decode cL_law 418 = .ok (.invokevirtual 57, 3) := by decide +kernel
theorem dL_law_421 : decode cL_law 421 = .ok (.aload_n 2, 1) := by decide +kernel
theorem dL_law_422 : decode cL_law 422 = .ok (.aload_n 0, 1) := by decide +kernel
theorem dL_law_423 : decode cL_law 423 = .ok (.iload_n 3, 1) := by decide +kernel
theorem dL_law_424 : decode cL_law 424 = .ok (.iconst 1, 1) := by decide +kernel
theorem dL_law_425 : decode cL_law 425 = .ok (.iadd, 1) := by decide +kernel
theorem dL_law_426 : decode cL_law 426 = .ok (.iaload, 1) := by decide +kernel
theorem dL_law_427 : decode cL_law 427 = .ok (.aload_n 0, 1) := by decide +kernel
theorem dL_law_428 : decode cL_law 428 = .ok (.iload_n 3, 1) := by decide +kernel
theorem dL_law_429 : decode cL_law 429 = .ok (.iconst 2, 1) := by decide +kernel
theorem dL_law_430 : decode cL_law 430 = .ok (.iadd, 1) := by decide +kernel
theorem dL_law_431 : decode cL_law 431 = .ok (.iaload, 1) := by decide +kernel
theorem dL_law_432 : decode cL_law 432 = .ok (.invokevirtual 60, 3) := by decide +kernel
theorem dL_law_435 : decode cL_law 435 = .ok (.if_icmp .eq 201, 3) := by decide +kernel
theorem dL_law_438 : decode cL_law 438 = .ok (.iconst 0, 1) := by decide +kernel
theorem dL_law_439 : decode cL_law 439 = .ok (.ireturn, 1) := by decide +kernel
theorem dL_law_440 : decode cL_law 440 = .ok (.aload_n 1, 1) := by decide +kernel
theorem dL_law_441 : decode cL_law 441 = .ok (.aload_n 0, 1) := by decide +kernel
theorem dL_law_442 : decode cL_law 442 = .ok (.iload_n 3, 1) := by decide +kernel
theorem dL_law_443 : decode cL_law 443 = .ok (.iconst 1, 1) := by decide +kernel
theorem dL_law_444 : decode cL_law 444 = .ok (.iadd, 1) := by decide +kernel
theorem dL_law_445 : decode cL_law 445 = .ok (.iaload, 1) := by decide +kernel
theorem dL_law_446 : decode cL_law 446 = .ok (.aload_n 0, 1) := by decide +kernel
theorem dL_law_447 : decode cL_law 447 = .ok (.iload_n 3, 1) := by decide +kernel
theorem dL_law_448 : decode cL_law 448 = .ok (.iconst 2, 1) := by decide +kernel
theorem dL_law_449 : decode cL_law 449 = .ok (.iadd, 1) := by decide +kernel
theorem dL_law_450 : decode cL_law 450 = .ok (.iaload, 1) := by decide +kernel
theorem dL_law_451 : decode cL_law 451 = .ok (.aload_n 0, 1) := by decide +kernel
theorem dL_law_452 : decode cL_law 452 = .ok (.iload_n 3, 1) := by decide +kernel
theorem dL_law_453 : decode cL_law 453 = .ok (.iconst 3, 1) := by decide +kernel
theorem dL_law_454 : decode cL_law 454 = .ok (.iadd, 1) := by decide +kernel
theorem dL_law_455 : decode cL_law 455 = .ok (.iaload, 1) := by decide +kernel
theorem dL_law_456 : decode cL_law 456 = .ok (.ifCond .eq 7, 3) := by decide +kernel
theorem dL_law_459 : decode cL_law 459 = .ok (.iconst 1, 1) := by decide +kernel
theorem dL_law_460 : decode cL_law 460 = .ok (.goto 4, 3) := by decide +kernel
theorem dL_law_463 : decode cL_law 463 = .ok (.iconst 0, 1) := by decide +kernel
theorem dL_law_464 : decode cL_law 464 = .ok (.invokevirtual 61, 3) := by decide +kernel
theorem dL_law_467 : decode cL_law 467 = .ok (.aload_n 2, 1) := by decide +kernel
theorem dL_law_468 : decode cL_law 468 = .ok (.aload_n 0, 1) := by decide +kernel
theorem dL_law_469 : decode cL_law 469 = .ok (.iload_n 3, 1) := by decide +kernel
theorem dL_law_470 : decode cL_law 470 = .ok (.iconst 1, 1) := by decide +kernel
theorem dL_law_471 : decode cL_law 471 = .ok (.iadd, 1) := by decide +kernel
theorem dL_law_472 : decode cL_law 472 = .ok (.iaload, 1) := by decide +kernel
theorem dL_law_473 : decode cL_law 473 = .ok (.aload_n 0, 1) := by decide +kernel
theorem dL_law_474 : decode cL_law 474 = .ok (.iload_n 3, 1) := by decide +kernel
theorem dL_law_475 : decode cL_law 475 = .ok (.iconst 2, 1) := by decide +kernel
theorem dL_law_476 : decode cL_law 476 = .ok (.iadd, 1) := by decide +kernel
theorem dL_law_477 : decode cL_law 477 = .ok (.iaload, 1) := by decide +kernel
theorem dL_law_478 : decode cL_law 478 = .ok (.aload_n 0, 1) := by decide +kernel
theorem dL_law_479 : decode cL_law 479 = .ok (.iload_n 3, 1) := by decide +kernel
theorem dL_law_480 : decode cL_law 480 = .ok (.iconst 3, 1) := by decide +kernel
theorem dL_law_481 : decode cL_law 481 = .ok (.iadd, 1) := by decide +kernel
theorem dL_law_482 : decode cL_law 482 = .ok (.iaload, 1) := by decide +kernel
theorem dL_law_483 : decode cL_law 483 = .ok (.ifCond .eq 7, 3) := by decide +kernel
theorem dL_law_486 : decode cL_law 486 = .ok (.iconst 1, 1) := by decide +kernel
theorem dL_law_487 : decode cL_law 487 = .ok (.goto 4, 3) := by decide +kernel
theorem dL_law_490 : decode cL_law 490 = .ok (.iconst 0, 1) := by decide +kernel
theorem dL_law_491 : decode cL_law 491 = .ok (.invokevirtual 65, 3) := by decide +kernel
theorem dL_law_494 : decode cL_law 494 = .ok (.if_icmp .eq 142, 3) := by decide +kernel
theorem dL_law_497 : decode cL_law 497 = .ok (.iconst 0, 1) := by decide +kernel
theorem dL_law_498 : decode cL_law 498 = .ok (.ireturn, 1) := by decide +kernel
theorem dL_law_499 : decode cL_law 499 = .ok (.aload_n 1, 1) := by decide +kernel
theorem dL_law_500 : decode cL_law 500 = .ok (.aload_n 0, 1) := by decide +kernel
theorem dL_law_501 : decode cL_law 501 = .ok (.iload_n 3, 1) := by decide +kernel
theorem dL_law_502 : decode cL_law 502 = .ok (.iconst 1, 1) := by decide +kernel
theorem dL_law_503 : decode cL_law 503 = .ok (.iadd, 1) := by decide +kernel
theorem dL_law_504 : decode cL_law 504 = .ok (.iaload, 1) := by decide +kernel
theorem dL_law_505 : decode cL_law 505 = .ok (.invokevirtual 66, 3) := by decide +kernel
theorem dL_law_508 : decode cL_law 508 = .ok (.aload_n 2, 1) := by decide +kernel
theorem dL_law_509 : decode cL_law 509 = .ok (.aload_n 0, 1) := by decide +kernel
theorem dL_law_510 : decode cL_law 510 = .ok (.iload_n 3, 1) := by decide +kernel
theorem dL_law_511 : decode cL_law 511 = .ok (.iconst 1, 1) := by decide +kernel
theorem dL_law_512 : decode cL_law 512 = .ok (.iadd, 1) := by decide +kernel
theorem dL_law_513 : decode cL_law 513 = .ok (.iaload, 1) := by decide +kernel
theorem dL_law_514 : decode cL_law 514 = .ok (.invokevirtual 69, 3) := by decide +kernel
theorem dL_law_517 : decode cL_law 517 = .ok (.if_icmp .eq 119, 3) := by decide +kernel
theorem dL_law_520 : decode cL_law 520 = .ok (.iconst 0, 1) := by decide +kernel
theorem dL_law_521 : decode cL_law 521 = .ok (.ireturn, 1) := by decide +kernel
theorem dL_law_522 : decode cL_law 522 = .ok (.aload_n 1, 1) := by decide +kernel
theorem dL_law_523 : decode cL_law 523 = .ok (.invokevirtual 70, 3) := by decide +kernel
theorem dL_law_526 : decode cL_law 526 = .ok (.aload_n 2, 1) := by decide +kernel
theorem dL_law_527 : decode cL_law 527 = .ok (.invokevirtual 74, 3) := by decide +kernel
theorem dL_law_530 : decode cL_law 530 = .ok (.if_icmp .eq 106, 3) := by decide +kernel
theorem dL_law_533 : decode cL_law 533 = .ok (.iconst 0, 1) := by decide +kernel
theorem dL_law_534 : decode cL_law 534 = .ok (.ireturn, 1) := by decide +kernel
theorem dL_law_535 : decode cL_law 535 = .ok (.aload_n 1, 1) := by decide +kernel
theorem dL_law_536 : decode cL_law 536 = .ok (.aload_n 0, 1) := by decide +kernel
theorem dL_law_537 : decode cL_law 537 = .ok (.iload_n 3, 1) := by decide +kernel
theorem dL_law_538 : decode cL_law 538 = .ok (.iconst 1, 1) := by decide +kernel
theorem dL_law_539 : decode cL_law 539 = .ok (.iadd, 1) := by decide +kernel
theorem dL_law_540 : decode cL_law 540 = .ok (.iaload, 1) := by decide +kernel
theorem dL_law_541 : decode cL_law 541 = .ok (.invokevirtual 75, 3) := by decide +kernel
theorem dL_law_544 : decode cL_law 544 = .ok (.aload_n 2, 1) := by decide +kernel
theorem dL_law_545 : decode cL_law 545 = .ok (.aload_n 0, 1) := by decide +kernel
theorem dL_law_546 : decode cL_law 546 = .ok (.iload_n 3, 1) := by decide +kernel
theorem dL_law_547 : decode cL_law 547 = .ok (.iconst 1, 1) := by decide +kernel
theorem dL_law_548 : decode cL_law 548 = .ok (.iadd, 1) := by decide +kernel
theorem dL_law_549 : decode cL_law 549 = .ok (.iaload, 1) := by decide +kernel
theorem dL_law_550 : decode cL_law 550 = .ok (.invokevirtual 78, 3) := by decide +kernel
theorem dL_law_553 : decode cL_law 553 = .ok (.if_icmp .eq 83, 3) := by decide +kernel
theorem dL_law_556 : decode cL_law 556 = .ok (.iconst 0, 1) := by decide +kernel
theorem dL_law_557 : decode cL_law 557 = .ok (.ireturn, 1) := by decide +kernel
theorem dL_law_558 : decode cL_law 558 = .ok (.aload_n 1, 1) := by decide +kernel
theorem dL_law_559 : decode cL_law 559 = .ok (.aload_n 0, 1) := by decide +kernel
theorem dL_law_560 : decode cL_law 560 = .ok (.iload_n 3, 1) := by decide +kernel
theorem dL_law_561 : decode cL_law 561 = .ok (.iconst 1, 1) := by decide +kernel
theorem dL_law_562 : decode cL_law 562 = .ok (.iadd, 1) := by decide +kernel
theorem dL_law_563 : decode cL_law 563 = .ok (.iaload, 1) := by decide +kernel
theorem dL_law_564 : decode cL_law 564 = .ok (.aload_n 0, 1) := by decide +kernel
theorem dL_law_565 : decode cL_law 565 = .ok (.iload_n 3, 1) := by decide +kernel
theorem dL_law_566 : decode cL_law 566 = .ok (.iconst 2, 1) := by decide +kernel
theorem dL_law_567 : decode cL_law 567 = .ok (.iadd, 1) := by decide +kernel
theorem dL_law_568 : decode cL_law 568 = .ok (.iaload, 1) := by decide +kernel
theorem dL_law_569 : decode cL_law 569 = .ok (.invokevirtual 79, 3) := by decide +kernel
theorem dL_law_572 : decode cL_law 572 = .ok (.aload_n 2, 1) := by decide +kernel
theorem dL_law_573 : decode cL_law 573 = .ok (.aload_n 0, 1) := by decide +kernel
theorem dL_law_574 : decode cL_law 574 = .ok (.iload_n 3, 1) := by decide +kernel
theorem dL_law_575 : decode cL_law 575 = .ok (.iconst 1, 1) := by decide +kernel
theorem dL_law_576 : decode cL_law 576 = .ok (.iadd, 1) := by decide +kernel
theorem dL_law_577 : decode cL_law 577 = .ok (.iaload, 1) := by decide +kernel
theorem dL_law_578 : decode cL_law 578 = .ok (.aload_n 0, 1) := by decide +kernel
theorem dL_law_579 : decode cL_law 579 = .ok (.iload_n 3, 1) := by decide +kernel
theorem dL_law_580 : decode cL_law 580 = .ok (.iconst 2, 1) := by decide +kernel
theorem dL_law_581 : decode cL_law 581 = .ok (.iadd, 1) := by decide +kernel
theorem dL_law_582 : decode cL_law 582 = .ok (.iaload, 1) := by decide +kernel
theorem dL_law_583 : decode cL_law 583 = .ok (.invokevirtual 82, 3) := by decide +kernel
theorem dL_law_586 : decode cL_law 586 = .ok (.lcmp, 1) := by decide +kernel
theorem dL_law_587 : decode cL_law 587 = .ok (.ifCond .eq 49, 3) := by decide +kernel
theorem dL_law_590 : decode cL_law 590 = .ok (.iconst 0, 1) := by decide +kernel
theorem dL_law_591 : decode cL_law 591 = .ok (.ireturn, 1) := by decide +kernel
theorem dL_law_592 : decode cL_law 592 = .ok (.aload_n 1, 1) := by decide +kernel
theorem dL_law_593 : decode cL_law 593 = .ok (.aload_n 0, 1) := by decide +kernel
theorem dL_law_594 : decode cL_law 594 = .ok (.iload_n 3, 1) := by decide +kernel
theorem dL_law_595 : decode cL_law 595 = .ok (.iconst 1, 1) := by decide +kernel
theorem dL_law_596 : decode cL_law 596 = .ok (.iadd, 1) := by decide +kernel
theorem dL_law_597 : decode cL_law 597 = .ok (.iaload, 1) := by decide +kernel
theorem dL_law_598 : decode cL_law 598 = .ok (.aload_n 0, 1) := by decide +kernel
theorem dL_law_599 : decode cL_law 599 = .ok (.iload_n 3, 1) := by decide +kernel
theorem dL_law_600 : decode cL_law 600 = .ok (.iconst 2, 1) := by decide +kernel
theorem dL_law_601 : decode cL_law 601 = .ok (.iadd, 1) := by decide +kernel
theorem dL_law_602 : decode cL_law 602 = .ok (.iaload, 1) := by decide +kernel
theorem dL_law_603 : decode cL_law 603 = .ok (.aload_n 0, 1) := by decide +kernel
theorem dL_law_604 : decode cL_law 604 = .ok (.iload_n 3, 1) := by decide +kernel
theorem dL_law_605 : decode cL_law 605 = .ok (.iconst 3, 1) := by decide +kernel
theorem dL_law_606 : decode cL_law 606 = .ok (.iadd, 1) := by decide +kernel
theorem dL_law_607 : decode cL_law 607 = .ok (.iaload, 1) := by decide +kernel
theorem dL_law_608 : decode cL_law 608 = .ok (.invokevirtual 83, 3) := by decide +kernel
theorem dL_law_611 : decode cL_law 611 = .ok (.aload_n 2, 1) := by decide +kernel
theorem dL_law_612 : decode cL_law 612 = .ok (.aload_n 0, 1) := by decide +kernel
theorem dL_law_613 : decode cL_law 613 = .ok (.iload_n 3, 1) := by decide +kernel
theorem dL_law_614 : decode cL_law 614 = .ok (.iconst 1, 1) := by decide +kernel
theorem dL_law_615 : decode cL_law 615 = .ok (.iadd, 1) := by decide +kernel
theorem dL_law_616 : decode cL_law 616 = .ok (.iaload, 1) := by decide +kernel
theorem dL_law_617 : decode cL_law 617 = .ok (.aload_n 0, 1) := by decide +kernel
theorem dL_law_618 : decode cL_law 618 = .ok (.iload_n 3, 1) := by decide +kernel
theorem dL_law_619 : decode cL_law 619 = .ok (.iconst 2, 1) := by decide +kernel
theorem dL_law_620 : decode cL_law 620 = .ok (.iadd, 1) := by decide +kernel
theorem dL_law_621 : decode cL_law 621 = .ok (.iaload, 1) := by decide +kernel
theorem dL_law_622 : decode cL_law 622 = .ok (.aload_n 0, 1) := by decide +kernel
theorem dL_law_623 : decode cL_law 623 = .ok (.iload_n 3, 1) := by decide +kernel
theorem dL_law_624 : decode cL_law 624 = .ok (.iconst 3, 1) := by decide +kernel
theorem dL_law_625 : decode cL_law 625 = .ok (.iadd, 1) := by decide +kernel
theorem dL_law_626 : decode cL_law 626 = .ok (.iaload, 1) := by decide +kernel
theorem dL_law_627 : decode cL_law 627 = .ok (.invokevirtual 87, 3) := by decide +kernel
theorem dL_law_630 : decode cL_law 630 = .ok (.lcmp, 1) := by decide +kernel
theorem dL_law_631 : decode cL_law 631 = .ok (.ifCond .eq 5, 3) := by decide +kernel
theorem dL_law_634 : decode cL_law 634 = .ok (.iconst 0, 1) := by decide +kernel
theorem dL_law_635 : decode cL_law 635 = .ok (.ireturn, 1) := by decide +kernel
theorem dL_law_636 : decode cL_law 636 = .ok (.iinc 3 4, 3) := by decide +kernel
theorem dL_law_639 : decode cL_law 639 = .ok (.goto (-621), 3) := by decide +kernel
theorem dL_law_642 : decode cL_law 642 = .ok (.iconst 1, 1) := by decide +kernel
theorem dL_law_643 : decode cL_law 643 = .ok (.ireturn, 1) := by decide +kernel
abbrev vwCl : List vw_C := [(RX0, TX0, 4), (RX1, TX1, 4), (RX2, TX2, 2), (RX3, TX3, 2), (RX4, TX4, 1), (RX5, TX5, 2), (RX6, TX6, 8), (RX7, TX7, 7), (RX8, TX8, 16)]
end
section
/-- what holds all along a method's body -/
def ux_C (p : Program) (s : State) (m : MethodId) (args : Array Value) (meth : Method) (c : Code) (cc : ByteArray) (nL : Nat) (own : String) (Ts : List Cond) (ret : Option FieldType) (D : va_G) (cl : List vw_C) (tys : List (ClassId × FieldType)) {S : Type} (wf : S → va_W) (A : Nat → Prop) : Prop :=
  p.tables.exec = Jvm.exec ∧ c.code = cc ∧ c.maxLocals = nL ∧ s.vm.findClass own = some m.cls ∧ (∀ w ∈ Ts, w.before args s = true) ∧ meth.sig.returnType = ret ∧ meth.locks = false ∧ va_K D cl tys s ∧ ∀ σ, va_D A (wf σ)
/-- the machine at pc, locals lv, operand stack st, the world in the state σ, comes to a state with Q -/
def ux_V (p : Program) (l : Launch) (e : Env) (R : Room) (s : State) (m : MethodId) (args : Array Value) (below : List Frame) (meth : Method) (c : Code) (Q : State → Prop) (nL : Nat) (D : va_G) (cl : List vw_C) {S : Type} (wf : S → va_W) (A : Nat → Prop) (cs sl : Nat) (σ : S) (pc : Nat) (lv : List (Nat × Value)) (st : List Value) : Prop :=
  ∀ (H : Heap) (locs : List Loc) (ls : Array Slot), va_P D cl (wf σ) H → va_S A s.heap H locs → lv_has ls nL lv → W p l e R s m args below meth c H locs cs sl Q (F0 m pc ls st)
def ux_Pre (D : va_G) (cl : List vw_C) (tys : List (ClassId × FieldType)) {S : Type} (wf : S → va_W) (A : Nat → Prop) (as : List Value) (σ : S) : Array Value → State → Prop :=
  va_Pc as (fun U => va_P D cl (wf σ) U.heap ∧ va_K D cl tys U ∧ ∀ σ', va_D A (wf σ'))
/-- contracts: an int (or boolean), a long, nothing, a given reference -/
def ux_I (l : Launch) (D : va_G) (cl : List vw_C) (tys : List (ClassId × FieldType)) {S : Type} (wf : S → va_W) (A : Nat → Prop) (y : MethodName) (ws : List Cond) (rm : Room) (as : List Value) (σ : S) (post : Int32 → S → Prop) : Prop :=
  Met l y ws rm (ux_Pre D cl tys wf A as σ) (va_Qi post (fun σ' t => va_P D cl (wf σ') t.heap) A) 0 0 A
def ux_L (l : Launch) (D : va_G) (cl : List vw_C) (tys : List (ClassId × FieldType)) {S : Type} (wf : S → va_W) (A : Nat → Prop) (y : MethodName) (ws : List Cond) (rm : Room) (as : List Value) (σ : S) (post : Int64 → S → Prop) : Prop :=
  Met l y ws rm (ux_Pre D cl tys wf A as σ) (va_Ql post (fun σ' t => va_P D cl (wf σ') t.heap) A) 0 0 A
def ux_N (l : Launch) (D : va_G) (cl : List vw_C) (tys : List (ClassId × FieldType)) {S : Type} (wf : S → va_W) (A : Nat → Prop) (y : MethodName) (ws : List Cond) (rm : Room) (as : List Value) (σ : S) (post : S → Prop) : Prop :=
  Met l y ws rm (ux_Pre D cl tys wf A as σ) (va_Qv post (fun σ' t => va_P D cl (wf σ') t.heap) A) 0 0 A
def ux_R (l : Launch) (D : va_G) (cl : List vw_C) (tys : List (ClassId × FieldType)) {S : Type} (wf : S → va_W) (A : Nat → Prop) (y : MethodName) (ws : List Cond) (rm : Room) (as : List Value) (σ : S) (ra : Nat) (post : S → Prop) : Prop :=
  Met l y ws rm (ux_Pre D cl tys wf A as σ) (va_Qr post (fun σ' a t => a = ra ∧ va_P D cl (wf σ') t.heap) A) 0 0 A
/-- a field's static side -/
def ux_F (Ts : List Cond) (own : String) (index : Nat) (Cn : String) (T : u_T) (N k : Nat) : Prop :=
  (∀ w ∈ u_ws Cn T N, w ∈ Ts) ∧ k < N ∧ Cond.fieldLink own index (T k).1 (T k).2.1 (T k).2.2.1 ∈ Ts
/-- an int field that may be written -/
def ux_FI (T : u_T) (N k : Nat) (ty0 : Nat → FieldType) : Prop :=
  (∀ k, k < N → parseFieldDescriptor (T k).2.2.1 = some (ty0 k)) ∧ (∀ a, a < N → ∀ b, b < N → a ≠ b → (T a).2.1 ≠ (T b).2.1) ∧ (T k).2.2.2 = false ∧ parseFieldDescriptor (T k).2.2.1 = some .int
/-- a call's static side -/
def ux_G (Ts : List Cond) (own : String) (index : Nat) (Cn : String) (y : MethodName) (ws : List Cond) (n : Nat) : Prop :=
  GoodIn Ts (wsV own index Cn y ws) ∧ y.cls = Cn ∧ y.cls ≠ "java/lang/invoke/MethodHandle" ∧ y.cls ≠ "java/lang/invoke/VarHandle" ∧ (parseMethodDescriptor y.desc).map (fun d => d.parameters.length) = some n
/-- a call of a static method elsewhere -/
def ux_GS (Ts : List Cond) (own : String) (index : Nat) (y : MethodName) (ws : List Cond) (n : Nat) : Prop :=
  GoodIn Ts (va_wsS own index y ws) ∧ y.cls ≠ "java/lang/invoke/MethodHandle" ∧ y.cls ≠ "java/lang/invoke/VarHandle" ∧ (parseMethodDescriptor y.desc).map (fun d => d.parameters.length) = some n
def ux_rm (d : Nat) : Room := { frames := d, cells := 0, slots := 0, locals := 32 * d }
theorem ux_Pre_blind {D : va_G} {cl : List vw_C} {tys : List (ClassId × FieldType)} {S : Type} {wf : S → va_W} {A : Nat → Prop} {as : List Value} {σ : S} : FrameBlind (ux_Pre D cl tys wf A as σ) := by
  intro a U g mk q
  obtain ⟨q0, qP, qK, qD⟩ := q
  exact ⟨q0, qP, va_K.moved (u := U) (U := U.calling g mk a) (Vm.Alike.refl U.vm) qK, qD⟩
section UX
variable {p : Program} {l : Launch} {e : Env} {R : Room} {s : State} {m : MethodId} {args : Array Value} {below : List Frame} {meth : Method} {c : Code} {Q : State → Prop} {cc : ByteArray} {nL : Nat} {own : String} {Ts : List Cond} {ret : Option FieldType} {D : va_G} {cl : List vw_C} {tys : List (ClassId × FieldType)} {S : Type} {wf : S → va_W} {A : Nat → Prop} {cs sl : Nat} {σ : S} {pc : Nat} {lv : List (Nat × Value)} {st : List Value}
theorem ux_iconst (C : ux_C p s m args meth c cc nL own Ts ret D cl tys wf A) {n : Int} (v : Int32) (hdg : decode cc pc = .ok (.iconst n, 1)) (hv : Int32.ofInt n = v) (k : ux_V p l e R s m args below meth c Q nL D cl wf A cs sl σ (pc + 1) lv (.int v :: st)) : ux_V p l e R s m args below meth c Q nL D cl wf A cs sl σ pc lv (st) :=
  fun H locs ls hP hS hl => lv_iconst C.1 C.2.1 hdg hv (k H locs ls hP hS hl)
theorem ux_bipush (C : ux_C p s m args meth c cc nL own Ts ret D cl tys wf A) {n : Int} (v : Int32) (hdg : decode cc pc = .ok (.bipush n, 2)) (hv : (Int8.ofInt n).toInt32 = v) (k : ux_V p l e R s m args below meth c Q nL D cl wf A cs sl σ (pc + 2) lv (.int v :: st)) : ux_V p l e R s m args below meth c Q nL D cl wf A cs sl σ pc lv (st) :=
  fun H locs ls hP hS hl => lv_bipush C.1 C.2.1 hdg hv (k H locs ls hP hS hl)
theorem ux_sipush (C : ux_C p s m args meth c cc nL own Ts ret D cl tys wf A) {n : Int} (v : Int32) (hdg : decode cc pc = .ok (.sipush n, 3)) (hv : (Int16.ofInt n).toInt32 = v) (k : ux_V p l e R s m args below meth c Q nL D cl wf A cs sl σ (pc + 3) lv (.int v :: st)) : ux_V p l e R s m args below meth c Q nL D cl wf A cs sl σ pc lv (st) :=
  fun H locs ls hP hS hl => lv_sipush C.1 C.2.1 hdg hv (k H locs ls hP hS hl)
theorem ux_lconst (C : ux_C p s m args meth c cc nL own Ts ret D cl tys wf A) {n : Fin 2} (v : Int64) (hdg : decode cc pc = .ok (.lconst n, 1)) (hv : Int64.ofNat (n : Nat) = v) (k : ux_V p l e R s m args below meth c Q nL D cl wf A cs sl σ (pc + 1) lv (.long v :: st)) : ux_V p l e R s m args below meth c Q nL D cl wf A cs sl σ pc lv (st) :=
  fun H locs ls hP hS hl => lv_lconst C.1 C.2.1 hdg hv (k H locs ls hP hS hl)
theorem ux_iload_n (C : ux_C p s m args meth c cc nL own Ts ret D cl tys wf A) {k : Fin 4} {x : Int32} (hdg : decode cc pc = .ok (.iload_n k, 1)) (q : Nat) (hk : lv[q]? = some ((k : Nat), .int x)) (kk : ux_V p l e R s m args below meth c Q nL D cl wf A cs sl σ (pc + 1) lv (.int x :: st)) : ux_V p l e R s m args below meth c Q nL D cl wf A cs sl σ pc lv st :=
  fun H locs ls hP hS hl => lv_iload_n C.1 C.2.1 hdg rfl (lv_at hl q hk) (kk H locs ls hP hS hl)
theorem ux_iload (C : ux_C p s m args meth c cc nL own Ts ret D cl tys wf A) {i : Nat} {x : Int32} (hdg : decode cc pc = .ok (.iload i, 2)) (q : Nat) (hk : lv[q]? = some (i, .int x)) (kk : ux_V p l e R s m args below meth c Q nL D cl wf A cs sl σ (pc + 2) lv (.int x :: st)) : ux_V p l e R s m args below meth c Q nL D cl wf A cs sl σ pc lv st :=
  fun H locs ls hP hS hl => lv_iload C.1 C.2.1 hdg (lv_at hl q hk) (kk H locs ls hP hS hl)
theorem ux_istore_n (C : ux_C p s m args meth c cc nL own Ts ret D cl tys wf A) {k : Fin 4} {i : Nat} {x : Int32} (lv' : List (Nat × Value)) (hdg : decode cc pc = .ok (.istore_n k, 1)) (hi : (k : Nat) = i) (hn : i < nL) (hl : (i, Value.int x) :: lv.filter (fun q => !(q.1 == i) && !(q.1 + 1 == i && q.2.category == 2)) = lv') (kk : ux_V p l e R s m args below meth c Q nL D cl wf A cs sl σ (pc + 1) lv' st) : ux_V p l e R s m args below meth c Q nL D cl wf A cs sl σ pc lv (.int x :: st) :=
  fun H locs ls hP hS h => lv_istore_n C.1 C.2.1 hdg hi h hn hl (fun ls hl => kk H locs ls hP hS hl)
theorem ux_istore (C : ux_C p s m args meth c cc nL own Ts ret D cl tys wf A) {i : Nat} {x : Int32} (lv' : List (Nat × Value)) (hdg : decode cc pc = .ok (.istore i, 2)) (hn : i < nL) (hl : (i, Value.int x) :: lv.filter (fun q => !(q.1 == i) && !(q.1 + 1 == i && q.2.category == 2)) = lv') (kk : ux_V p l e R s m args below meth c Q nL D cl wf A cs sl σ (pc + 2) lv' st) : ux_V p l e R s m args below meth c Q nL D cl wf A cs sl σ pc lv (.int x :: st) :=
  fun H locs ls hP hS h => lv_istore C.1 C.2.1 hdg h hn hl (fun ls hl => kk H locs ls hP hS hl)
theorem ux_lload_n (C : ux_C p s m args meth c cc nL own Ts ret D cl tys wf A) {k : Fin 4} {x : Int64} (hdg : decode cc pc = .ok (.lload_n k, 1)) (q : Nat) (hk : lv[q]? = some ((k : Nat), .long x)) (kk : ux_V p l e R s m args below meth c Q nL D cl wf A cs sl σ (pc + 1) lv (.long x :: st)) : ux_V p l e R s m args below meth c Q nL D cl wf A cs sl σ pc lv st :=
  fun H locs ls hP hS hl => lv_lload_n C.1 C.2.1 hdg rfl (lv_at hl q hk) (kk H locs ls hP hS hl)
theorem ux_lload (C : ux_C p s m args meth c cc nL own Ts ret D cl tys wf A) {i : Nat} {x : Int64} (hdg : decode cc pc = .ok (.lload i, 2)) (q : Nat) (hk : lv[q]? = some (i, .long x)) (kk : ux_V p l e R s m args below meth c Q nL D cl wf A cs sl σ (pc + 2) lv (.long x :: st)) : ux_V p l e R s m args below meth c Q nL D cl wf A cs sl σ pc lv st :=
  fun H locs ls hP hS hl => lv_lload C.1 C.2.1 hdg (lv_at hl q hk) (kk H locs ls hP hS hl)
theorem ux_lstore_n (C : ux_C p s m args meth c cc nL own Ts ret D cl tys wf A) {k : Fin 4} {i : Nat} {x : Int64} (lv' : List (Nat × Value)) (hdg : decode cc pc = .ok (.lstore_n k, 1)) (hi : (k : Nat) = i) (hn : i + 1 < nL) (hl : (i, Value.long x) :: lv.filter (fun q => !(q.1 == i) && (!(q.1 == i + 1) && !(q.1 + 1 == i && q.2.category == 2))) = lv') (kk : ux_V p l e R s m args below meth c Q nL D cl wf A cs sl σ (pc + 1) lv' st) : ux_V p l e R s m args below meth c Q nL D cl wf A cs sl σ pc lv (.long x :: st) :=
  fun H locs ls hP hS h => lv_lstore_n C.1 C.2.1 hdg hi h hn hl (fun ls hl => kk H locs ls hP hS hl)
theorem ux_lstore (C : ux_C p s m args meth c cc nL own Ts ret D cl tys wf A) {i : Nat} {x : Int64} (lv' : List (Nat × Value)) (hdg : decode cc pc = .ok (.lstore i, 2)) (hn : i + 1 < nL) (hl : (i, Value.long x) :: lv.filter (fun q => !(q.1 == i) && (!(q.1 == i + 1) && !(q.1 + 1 == i && q.2.category == 2))) = lv') (kk : ux_V p l e R s m args below meth c Q nL D cl wf A cs sl σ (pc + 2) lv' st) : ux_V p l e R s m args below meth c Q nL D cl wf A cs sl σ pc lv (.long x :: st) :=
  fun H locs ls hP hS h => lv_lstore C.1 C.2.1 hdg h hn hl (fun ls hl => kk H locs ls hP hS hl)
theorem ux_aload_n (C : ux_C p s m args meth c cc nL own Ts ret D cl tys wf A) {k : Fin 4} {x : Nat} (hdg : decode cc pc = .ok (.aload_n k, 1)) (q : Nat) (hk : lv[q]? = some ((k : Nat), .ref x)) (kk : ux_V p l e R s m args below meth c Q nL D cl wf A cs sl σ (pc + 1) lv (.ref x :: st)) : ux_V p l e R s m args below meth c Q nL D cl wf A cs sl σ pc lv st :=
  fun H locs ls hP hS hl => lv_aload_n C.1 C.2.1 hdg rfl (lv_at hl q hk) (kk H locs ls hP hS hl)
theorem ux_aload (C : ux_C p s m args meth c cc nL own Ts ret D cl tys wf A) {i : Nat} {x : Nat} (hdg : decode cc pc = .ok (.aload i, 2)) (q : Nat) (hk : lv[q]? = some (i, .ref x)) (kk : ux_V p l e R s m args below meth c Q nL D cl wf A cs sl σ (pc + 2) lv (.ref x :: st)) : ux_V p l e R s m args below meth c Q nL D cl wf A cs sl σ pc lv st :=
  fun H locs ls hP hS hl => lv_aload C.1 C.2.1 hdg (lv_at hl q hk) (kk H locs ls hP hS hl)
theorem ux_astore_n (C : ux_C p s m args meth c cc nL own Ts ret D cl tys wf A) {k : Fin 4} {i : Nat} {x : Nat} (lv' : List (Nat × Value)) (hdg : decode cc pc = .ok (.astore_n k, 1)) (hi : (k : Nat) = i) (hn : i < nL) (hl : (i, Value.ref x) :: lv.filter (fun q => !(q.1 == i) && !(q.1 + 1 == i && q.2.category == 2)) = lv') (kk : ux_V p l e R s m args below meth c Q nL D cl wf A cs sl σ (pc + 1) lv' st) : ux_V p l e R s m args below meth c Q nL D cl wf A cs sl σ pc lv (.ref x :: st) :=
  fun H locs ls hP hS h => lv_astore_n C.1 C.2.1 hdg hi h hn hl (fun ls hl => kk H locs ls hP hS hl)
theorem ux_astore (C : ux_C p s m args meth c cc nL own Ts ret D cl tys wf A) {i : Nat} {x : Nat} (lv' : List (Nat × Value)) (hdg : decode cc pc = .ok (.astore i, 2)) (hn : i < nL) (hl : (i, Value.ref x) :: lv.filter (fun q => !(q.1 == i) && !(q.1 + 1 == i && q.2.category == 2)) = lv') (kk : ux_V p l e R s m args below meth c Q nL D cl wf A cs sl σ (pc + 2) lv' st) : ux_V p l e R s m args below meth c Q nL D cl wf A cs sl σ pc lv (.ref x :: st) :=
  fun H locs ls hP hS h => lv_astore C.1 C.2.1 hdg h hn hl (fun ls hl => kk H locs ls hP hS hl)
theorem ux_iinc (C : ux_C p s m args meth c cc nL own Ts ret D cl tys wf A) {i : Nat} {n : Int} {x : Int32} (v : Int32) (lv' : List (Nat × Value)) (hdg : decode cc pc = .ok (.iinc i n, 3)) (k : Nat) (hk : lv[k]? = some (i, .int x)) (hv : x + Int32.ofInt n = v) (hn : i < nL) (hl : (i, Value.int v) :: lv.filter (fun q => !(q.1 == i) && !(q.1 + 1 == i && q.2.category == 2)) = lv') (kk : ux_V p l e R s m args below meth c Q nL D cl wf A cs sl σ (pc + 3) lv' st) : ux_V p l e R s m args below meth c Q nL D cl wf A cs sl σ pc lv st :=
  fun H locs ls hP hS h => lv_iinc C.1 C.2.1 hdg h hk hv hn hl (fun ls hl => kk H locs ls hP hS hl)
theorem ux_iadd (C : ux_C p s m args meth c cc nL own Ts ret D cl tys wf A) {x y : Int32} (hdg : decode cc pc = .ok (.iadd, 1)) (k : ux_V p l e R s m args below meth c Q nL D cl wf A cs sl σ (pc + 1) lv (.int (x + y) :: st)) : ux_V p l e R s m args below meth c Q nL D cl wf A cs sl σ pc lv (.int y :: .int x :: st) :=
  fun H locs ls hP hS hl => lv_iadd C.1 C.2.1 hdg (k H locs ls hP hS hl)
theorem ux_isub (C : ux_C p s m args meth c cc nL own Ts ret D cl tys wf A) {x y : Int32} (hdg : decode cc pc = .ok (.isub, 1)) (k : ux_V p l e R s m args below meth c Q nL D cl wf A cs sl σ (pc + 1) lv (.int (x - y) :: st)) : ux_V p l e R s m args below meth c Q nL D cl wf A cs sl σ pc lv (.int y :: .int x :: st) :=
  fun H locs ls hP hS hl => lv_isub C.1 C.2.1 hdg (k H locs ls hP hS hl)
theorem ux_imul (C : ux_C p s m args meth c cc nL own Ts ret D cl tys wf A) {x y : Int32} (hdg : decode cc pc = .ok (.imul, 1)) (k : ux_V p l e R s m args below meth c Q nL D cl wf A cs sl σ (pc + 1) lv (.int (x * y) :: st)) : ux_V p l e R s m args below meth c Q nL D cl wf A cs sl σ pc lv (.int y :: .int x :: st) :=
  fun H locs ls hP hS hl => lv_imul C.1 C.2.1 hdg (k H locs ls hP hS hl)
theorem ux_iand (C : ux_C p s m args meth c cc nL own Ts ret D cl tys wf A) {x y : Int32} (hdg : decode cc pc = .ok (.iand, 1)) (k : ux_V p l e R s m args below meth c Q nL D cl wf A cs sl σ (pc + 1) lv (.int (x &&& y) :: st)) : ux_V p l e R s m args below meth c Q nL D cl wf A cs sl σ pc lv (.int y :: .int x :: st) :=
  fun H locs ls hP hS hl => lv_iand C.1 C.2.1 hdg (k H locs ls hP hS hl)
theorem ux_ior (C : ux_C p s m args meth c cc nL own Ts ret D cl tys wf A) {x y : Int32} (hdg : decode cc pc = .ok (.ior, 1)) (k : ux_V p l e R s m args below meth c Q nL D cl wf A cs sl σ (pc + 1) lv (.int (x ||| y) :: st)) : ux_V p l e R s m args below meth c Q nL D cl wf A cs sl σ pc lv (.int y :: .int x :: st) :=
  fun H locs ls hP hS hl => lv_ior C.1 C.2.1 hdg (k H locs ls hP hS hl)
theorem ux_ladd (C : ux_C p s m args meth c cc nL own Ts ret D cl tys wf A) {x y : Int64} (hdg : decode cc pc = .ok (.ladd, 1)) (k : ux_V p l e R s m args below meth c Q nL D cl wf A cs sl σ (pc + 1) lv (.long (x + y) :: st)) : ux_V p l e R s m args below meth c Q nL D cl wf A cs sl σ pc lv (.long y :: .long x :: st) :=
  fun H locs ls hP hS hl => lv_ladd C.1 C.2.1 hdg (k H locs ls hP hS hl)
theorem ux_lsub (C : ux_C p s m args meth c cc nL own Ts ret D cl tys wf A) {x y : Int64} (hdg : decode cc pc = .ok (.lsub, 1)) (k : ux_V p l e R s m args below meth c Q nL D cl wf A cs sl σ (pc + 1) lv (.long (x - y) :: st)) : ux_V p l e R s m args below meth c Q nL D cl wf A cs sl σ pc lv (.long y :: .long x :: st) :=
  fun H locs ls hP hS hl => lv_lsub C.1 C.2.1 hdg (k H locs ls hP hS hl)
theorem ux_land (C : ux_C p s m args meth c cc nL own Ts ret D cl tys wf A) {x y : Int64} (hdg : decode cc pc = .ok (.land, 1)) (k : ux_V p l e R s m args below meth c Q nL D cl wf A cs sl σ (pc + 1) lv (.long (x &&& y) :: st)) : ux_V p l e R s m args below meth c Q nL D cl wf A cs sl σ pc lv (.long y :: .long x :: st) :=
  fun H locs ls hP hS hl => lv_land C.1 C.2.1 hdg (k H locs ls hP hS hl)
theorem ux_lor (C : ux_C p s m args meth c cc nL own Ts ret D cl tys wf A) {x y : Int64} (hdg : decode cc pc = .ok (.lor, 1)) (k : ux_V p l e R s m args below meth c Q nL D cl wf A cs sl σ (pc + 1) lv (.long (x ||| y) :: st)) : ux_V p l e R s m args below meth c Q nL D cl wf A cs sl σ pc lv (.long y :: .long x :: st) :=
  fun H locs ls hP hS hl => lv_lor C.1 C.2.1 hdg (k H locs ls hP hS hl)
theorem ux_idiv (C : ux_C p s m args meth c cc nL own Ts ret D cl tys wf A) {x y : Int32} (hdg : decode cc pc = .ok (.idiv, 1)) (hne : ¬ y = 0) (k : ux_V p l e R s m args below meth c Q nL D cl wf A cs sl σ (pc + 1) lv (.int (x / y) :: st)) : ux_V p l e R s m args below meth c Q nL D cl wf A cs sl σ pc lv (.int y :: .int x :: st) :=
  fun H locs ls hP hS hl => lv_idiv C.1 C.2.1 hdg hne (k H locs ls hP hS hl)
theorem ux_irem (C : ux_C p s m args meth c cc nL own Ts ret D cl tys wf A) {x y : Int32} (hdg : decode cc pc = .ok (.irem, 1)) (hne : ¬ y = 0) (k : ux_V p l e R s m args below meth c Q nL D cl wf A cs sl σ (pc + 1) lv (.int (x - x / y * y) :: st)) : ux_V p l e R s m args below meth c Q nL D cl wf A cs sl σ pc lv (.int y :: .int x :: st) :=
  fun H locs ls hP hS hl => lv_irem C.1 C.2.1 hdg hne (k H locs ls hP hS hl)
theorem ux_i2l (C : ux_C p s m args meth c cc nL own Ts ret D cl tys wf A) {x : Int32} (hdg : decode cc pc = .ok (.i2l, 1)) (k : ux_V p l e R s m args below meth c Q nL D cl wf A cs sl σ (pc + 1) lv (.long x.toInt64 :: st)) : ux_V p l e R s m args below meth c Q nL D cl wf A cs sl σ pc lv (.int x :: st) :=
  fun H locs ls hP hS hl => lv_i2l C.1 C.2.1 hdg rfl (k H locs ls hP hS hl)
theorem ux_l2i (C : ux_C p s m args meth c cc nL own Ts ret D cl tys wf A) {x : Int64} (hdg : decode cc pc = .ok (.l2i, 1)) (k : ux_V p l e R s m args below meth c Q nL D cl wf A cs sl σ (pc + 1) lv (.int x.toInt32 :: st)) : ux_V p l e R s m args below meth c Q nL D cl wf A cs sl σ pc lv (.long x :: st) :=
  fun H locs ls hP hS hl => lv_l2i C.1 C.2.1 hdg rfl (k H locs ls hP hS hl)
theorem ux_i2b (C : ux_C p s m args meth c cc nL own Ts ret D cl tys wf A) {x : Int32} (v : Int32) (hdg : decode cc pc = .ok (.i2b, 1)) (hv : x.toInt8.toInt32 = v) (k : ux_V p l e R s m args below meth c Q nL D cl wf A cs sl σ (pc + 1) lv (.int v :: st)) : ux_V p l e R s m args below meth c Q nL D cl wf A cs sl σ pc lv (.int x :: st) :=
  fun H locs ls hP hS hl => lv_i2b C.1 C.2.1 hdg hv (k H locs ls hP hS hl)
theorem ux_lshl (C : ux_C p s m args meth c cc nL own Ts ret D cl tys wf A) {x : Int64} {y : Int32} (hdg : decode cc pc = .ok (.lshl, 1)) (k : ux_V p l e R s m args below meth c Q nL D cl wf A cs sl σ (pc + 1) lv (.long (x <<< (y.toInt64 &&& 63)) :: st)) : ux_V p l e R s m args below meth c Q nL D cl wf A cs sl σ pc lv (.int y :: .long x :: st) :=
  fun H locs ls hP hS hl => lv_lshl C.1 C.2.1 hdg rfl (k H locs ls hP hS hl)
theorem ux_lushr (C : ux_C p s m args meth c cc nL own Ts ret D cl tys wf A) {x : Int64} {y : Int32} (hdg : decode cc pc = .ok (.lushr, 1)) (k : ux_V p l e R s m args below meth c Q nL D cl wf A cs sl σ (pc + 1) lv (.long ((x.toUInt64 >>> (y.toInt64.toUInt64 &&& Int64.toUInt64 63)).toInt64) :: st)) : ux_V p l e R s m args below meth c Q nL D cl wf A cs sl σ pc lv (.int y :: .long x :: st) :=
  fun H locs ls hP hS hl => lv_lushr C.1 C.2.1 hdg rfl (k H locs ls hP hS hl)
theorem ux_lcmp (C : ux_C p s m args meth c cc nL own Ts ret D cl tys wf A) {x y : Int64} (hdg : decode cc pc = .ok (.lcmp, 1)) (k : ux_V p l e R s m args below meth c Q nL D cl wf A cs sl σ (pc + 1) lv (.int (lg_cmp x y) :: st)) : ux_V p l e R s m args below meth c Q nL D cl wf A cs sl σ pc lv (.long y :: .long x :: st) :=
  fun H locs ls hP hS hl => W.lcmp C.1 C.2.1 hdg (k H locs ls hP hS hl)
theorem ux_dup (C : ux_C p s m args meth c cc nL own Ts ret D cl tys wf A) {va : Value} (hdg : decode cc pc = .ok (.dup, 1)) (h1 : va.category = 1) (k : ux_V p l e R s m args below meth c Q nL D cl wf A cs sl σ (pc + 1) lv (va :: va :: st)) : ux_V p l e R s m args below meth c Q nL D cl wf A cs sl σ pc lv (va :: st) :=
  fun H locs ls hP hS hl => lv_dup C.1 C.2.1 hdg h1 (k H locs ls hP hS hl)
theorem ux_pop (C : ux_C p s m args meth c cc nL own Ts ret D cl tys wf A) {va : Value} (hdg : decode cc pc = .ok (.pop, 1)) (h1 : va.category = 1) (k : ux_V p l e R s m args below meth c Q nL D cl wf A cs sl σ (pc + 1) lv (st)) : ux_V p l e R s m args below meth c Q nL D cl wf A cs sl σ pc lv (va :: st) :=
  fun H locs ls hP hS hl => lv_pop C.1 C.2.1 hdg h1 (k H locs ls hP hS hl)
theorem ux_dup_x1 (C : ux_C p s m args meth c cc nL own Ts ret D cl tys wf A) {va vb : Value} (hdg : decode cc pc = .ok (.dup_x1, 1)) (h1 : va.category = 1) (h2 : vb.category = 1) (k : ux_V p l e R s m args below meth c Q nL D cl wf A cs sl σ (pc + 1) lv (va :: vb :: va :: st)) : ux_V p l e R s m args below meth c Q nL D cl wf A cs sl σ pc lv (va :: vb :: st) :=
  fun H locs ls hP hS hl => lv_dup_x1 C.1 C.2.1 hdg h1 h2 (k H locs ls hP hS hl)
theorem ux_dup_x2 (C : ux_C p s m args meth c cc nL own Ts ret D cl tys wf A) {va vb vd : Value} (hdg : decode cc pc = .ok (.dup_x2, 1)) (h1 : va.category = 1) (h2 : vb.category = 1) (h3 : vd.category = 1) (k : ux_V p l e R s m args below meth c Q nL D cl wf A cs sl σ (pc + 1) lv (va :: vb :: vd :: va :: st)) : ux_V p l e R s m args below meth c Q nL D cl wf A cs sl σ pc lv (va :: vb :: vd :: st) :=
  fun H locs ls hP hS hl => lv_dup_x2 C.1 C.2.1 hdg h1 h2 h3 (k H locs ls hP hS hl)
theorem ux_dup2_11 (C : ux_C p s m args meth c cc nL own Ts ret D cl tys wf A) {va vb : Value} (hdg : decode cc pc = .ok (.dup2, 1)) (h1 : va.category = 1) (h2 : vb.category = 1) (k : ux_V p l e R s m args below meth c Q nL D cl wf A cs sl σ (pc + 1) lv (va :: vb :: va :: vb :: st)) : ux_V p l e R s m args below meth c Q nL D cl wf A cs sl σ pc lv (va :: vb :: st) :=
  fun H locs ls hP hS hl => lv_dup2_11 C.1 C.2.1 hdg h1 h2 (k H locs ls hP hS hl)
theorem ux_dup2_2 (C : ux_C p s m args meth c cc nL own Ts ret D cl tys wf A) {va : Value} (hdg : decode cc pc = .ok (.dup2, 1)) (h1 : va.category = 2) (k : ux_V p l e R s m args below meth c Q nL D cl wf A cs sl σ (pc + 1) lv (va :: va :: st)) : ux_V p l e R s m args below meth c Q nL D cl wf A cs sl σ pc lv (va :: st) :=
  fun H locs ls hP hS hl => lv_dup2_2 C.1 C.2.1 hdg h1 (k H locs ls hP hS hl)
theorem ux_if_eq (C : ux_C p s m args meth c cc nL own Ts ret D cl tys wf A) {x : Int32} {off : Int} (tgt : Nat) (hdg : decode cc pc = .ok (.ifCond .eq off, 3)) (ht : (pc : Int) + off = (tgt : Int)) (kt : x = 0 → ux_V p l e R s m args below meth c Q nL D cl wf A cs sl σ tgt lv st) (kf : ¬ x = 0 → ux_V p l e R s m args below meth c Q nL D cl wf A cs sl σ (pc + 3) lv st) : ux_V p l e R s m args below meth c Q nL D cl wf A cs sl σ pc lv (.int x :: st) :=
  fun H locs ls hP hS hl => lv_if_eq C.1 C.2.1 hdg ht (fun h => kt h H locs ls hP hS hl) (fun h => kf h H locs ls hP hS hl)
theorem ux_icmp_eq (C : ux_C p s m args meth c cc nL own Ts ret D cl tys wf A) {x y : Int32} {off : Int} (tgt : Nat) (hdg : decode cc pc = .ok (.if_icmp .eq off, 3)) (ht : (pc : Int) + off = (tgt : Int)) (kt : x = y → ux_V p l e R s m args below meth c Q nL D cl wf A cs sl σ tgt lv st) (kf : ¬ x = y → ux_V p l e R s m args below meth c Q nL D cl wf A cs sl σ (pc + 3) lv st) : ux_V p l e R s m args below meth c Q nL D cl wf A cs sl σ pc lv (.int y :: .int x :: st) :=
  fun H locs ls hP hS hl => lv_icmp_eq C.1 C.2.1 hdg ht (fun h => kt h H locs ls hP hS hl) (fun h => kf h H locs ls hP hS hl)
theorem ux_if_ne (C : ux_C p s m args meth c cc nL own Ts ret D cl tys wf A) {x : Int32} {off : Int} (tgt : Nat) (hdg : decode cc pc = .ok (.ifCond .ne off, 3)) (ht : (pc : Int) + off = (tgt : Int)) (kt : ¬ x = 0 → ux_V p l e R s m args below meth c Q nL D cl wf A cs sl σ tgt lv st) (kf : x = 0 → ux_V p l e R s m args below meth c Q nL D cl wf A cs sl σ (pc + 3) lv st) : ux_V p l e R s m args below meth c Q nL D cl wf A cs sl σ pc lv (.int x :: st) :=
  fun H locs ls hP hS hl => lv_if_ne C.1 C.2.1 hdg ht (fun h => kt h H locs ls hP hS hl) (fun h => kf h H locs ls hP hS hl)
theorem ux_icmp_ne (C : ux_C p s m args meth c cc nL own Ts ret D cl tys wf A) {x y : Int32} {off : Int} (tgt : Nat) (hdg : decode cc pc = .ok (.if_icmp .ne off, 3)) (ht : (pc : Int) + off = (tgt : Int)) (kt : ¬ x = y → ux_V p l e R s m args below meth c Q nL D cl wf A cs sl σ tgt lv st) (kf : x = y → ux_V p l e R s m args below meth c Q nL D cl wf A cs sl σ (pc + 3) lv st) : ux_V p l e R s m args below meth c Q nL D cl wf A cs sl σ pc lv (.int y :: .int x :: st) :=
  fun H locs ls hP hS hl => lv_icmp_ne C.1 C.2.1 hdg ht (fun h => kt h H locs ls hP hS hl) (fun h => kf h H locs ls hP hS hl)
theorem ux_if_lt (C : ux_C p s m args meth c cc nL own Ts ret D cl tys wf A) {x : Int32} {off : Int} (tgt : Nat) (hdg : decode cc pc = .ok (.ifCond .lt off, 3)) (ht : (pc : Int) + off = (tgt : Int)) (kt : x < 0 → ux_V p l e R s m args below meth c Q nL D cl wf A cs sl σ tgt lv st) (kf : ¬ x < 0 → ux_V p l e R s m args below meth c Q nL D cl wf A cs sl σ (pc + 3) lv st) : ux_V p l e R s m args below meth c Q nL D cl wf A cs sl σ pc lv (.int x :: st) :=
  fun H locs ls hP hS hl => lv_if_lt C.1 C.2.1 hdg ht (fun h => kt h H locs ls hP hS hl) (fun h => kf h H locs ls hP hS hl)
theorem ux_icmp_lt (C : ux_C p s m args meth c cc nL own Ts ret D cl tys wf A) {x y : Int32} {off : Int} (tgt : Nat) (hdg : decode cc pc = .ok (.if_icmp .lt off, 3)) (ht : (pc : Int) + off = (tgt : Int)) (kt : x < y → ux_V p l e R s m args below meth c Q nL D cl wf A cs sl σ tgt lv st) (kf : ¬ x < y → ux_V p l e R s m args below meth c Q nL D cl wf A cs sl σ (pc + 3) lv st) : ux_V p l e R s m args below meth c Q nL D cl wf A cs sl σ pc lv (.int y :: .int x :: st) :=
  fun H locs ls hP hS hl => lv_icmp_lt C.1 C.2.1 hdg ht (fun h => kt h H locs ls hP hS hl) (fun h => kf h H locs ls hP hS hl)
theorem ux_if_ge (C : ux_C p s m args meth c cc nL own Ts ret D cl tys wf A) {x : Int32} {off : Int} (tgt : Nat) (hdg : decode cc pc = .ok (.ifCond .ge off, 3)) (ht : (pc : Int) + off = (tgt : Int)) (kt : 0 ≤ x → ux_V p l e R s m args below meth c Q nL D cl wf A cs sl σ tgt lv st) (kf : ¬ 0 ≤ x → ux_V p l e R s m args below meth c Q nL D cl wf A cs sl σ (pc + 3) lv st) : ux_V p l e R s m args below meth c Q nL D cl wf A cs sl σ pc lv (.int x :: st) :=
  fun H locs ls hP hS hl => lv_if_ge C.1 C.2.1 hdg ht (fun h => kt h H locs ls hP hS hl) (fun h => kf h H locs ls hP hS hl)
theorem ux_icmp_ge (C : ux_C p s m args meth c cc nL own Ts ret D cl tys wf A) {x y : Int32} {off : Int} (tgt : Nat) (hdg : decode cc pc = .ok (.if_icmp .ge off, 3)) (ht : (pc : Int) + off = (tgt : Int)) (kt : y ≤ x → ux_V p l e R s m args below meth c Q nL D cl wf A cs sl σ tgt lv st) (kf : ¬ y ≤ x → ux_V p l e R s m args below meth c Q nL D cl wf A cs sl σ (pc + 3) lv st) : ux_V p l e R s m args below meth c Q nL D cl wf A cs sl σ pc lv (.int y :: .int x :: st) :=
  fun H locs ls hP hS hl => lv_icmp_ge C.1 C.2.1 hdg ht (fun h => kt h H locs ls hP hS hl) (fun h => kf h H locs ls hP hS hl)
theorem ux_if_gt (C : ux_C p s m args meth c cc nL own Ts ret D cl tys wf A) {x : Int32} {off : Int} (tgt : Nat) (hdg : decode cc pc = .ok (.ifCond .gt off, 3)) (ht : (pc : Int) + off = (tgt : Int)) (kt : 0 < x → ux_V p l e R s m args below meth c Q nL D cl wf A cs sl σ tgt lv st) (kf : ¬ 0 < x → ux_V p l e R s m args below meth c Q nL D cl wf A cs sl σ (pc + 3) lv st) : ux_V p l e R s m args below meth c Q nL D cl wf A cs sl σ pc lv (.int x :: st) :=
  fun H locs ls hP hS hl => lv_if_gt C.1 C.2.1 hdg ht (fun h => kt h H locs ls hP hS hl) (fun h => kf h H locs ls hP hS hl)
theorem ux_icmp_gt (C : ux_C p s m args meth c cc nL own Ts ret D cl tys wf A) {x y : Int32} {off : Int} (tgt : Nat) (hdg : decode cc pc = .ok (.if_icmp .gt off, 3)) (ht : (pc : Int) + off = (tgt : Int)) (kt : y < x → ux_V p l e R s m args below meth c Q nL D cl wf A cs sl σ tgt lv st) (kf : ¬ y < x → ux_V p l e R s m args below meth c Q nL D cl wf A cs sl σ (pc + 3) lv st) : ux_V p l e R s m args below meth c Q nL D cl wf A cs sl σ pc lv (.int y :: .int x :: st) :=
  fun H locs ls hP hS hl => lv_icmp_gt C.1 C.2.1 hdg ht (fun h => kt h H locs ls hP hS hl) (fun h => kf h H locs ls hP hS hl)
theorem ux_if_le (C : ux_C p s m args meth c cc nL own Ts ret D cl tys wf A) {x : Int32} {off : Int} (tgt : Nat) (hdg : decode cc pc = .ok (.ifCond .le off, 3)) (ht : (pc : Int) + off = (tgt : Int)) (kt : x ≤ 0 → ux_V p l e R s m args below meth c Q nL D cl wf A cs sl σ tgt lv st) (kf : ¬ x ≤ 0 → ux_V p l e R s m args below meth c Q nL D cl wf A cs sl σ (pc + 3) lv st) : ux_V p l e R s m args below meth c Q nL D cl wf A cs sl σ pc lv (.int x :: st) :=
  fun H locs ls hP hS hl => lv_if_le C.1 C.2.1 hdg ht (fun h => kt h H locs ls hP hS hl) (fun h => kf h H locs ls hP hS hl)
theorem ux_icmp_le (C : ux_C p s m args meth c cc nL own Ts ret D cl tys wf A) {x y : Int32} {off : Int} (tgt : Nat) (hdg : decode cc pc = .ok (.if_icmp .le off, 3)) (ht : (pc : Int) + off = (tgt : Int)) (kt : x ≤ y → ux_V p l e R s m args below meth c Q nL D cl wf A cs sl σ tgt lv st) (kf : ¬ x ≤ y → ux_V p l e R s m args below meth c Q nL D cl wf A cs sl σ (pc + 3) lv st) : ux_V p l e R s m args below meth c Q nL D cl wf A cs sl σ pc lv (.int y :: .int x :: st) :=
  fun H locs ls hP hS hl => lv_icmp_le C.1 C.2.1 hdg ht (fun h => kt h H locs ls hP hS hl) (fun h => kf h H locs ls hP hS hl)
theorem ux_goto (C : ux_C p s m args meth c cc nL own Ts ret D cl tys wf A) {off : Int} (tgt : Nat) (hdg : decode cc pc = .ok (.goto off, 3)) (ht : (pc : Int) + off = (tgt : Int)) (k : ux_V p l e R s m args below meth c Q nL D cl wf A cs sl σ tgt lv st) : ux_V p l e R s m args below meth c Q nL D cl wf A cs sl σ pc lv st :=
  fun H locs ls hP hS hl => lv_goto C.1 C.2.1 hdg ht (k H locs ls hP hS hl)
theorem ux_tableIn (C : ux_C p s m args meth c cc nL own Ts ret D cl tys wf A) {dflt lo hi : Int} {offs : Array Int} {len : Nat} {x : Int32} {off : Int} (tgt : Nat) (hdg : decode cc pc = .ok (.tableswitch dflt lo hi offs, len)) (h1 : ¬ x.toInt < lo) (h2 : ¬ hi < x.toInt) (ho : offs[(x.toInt - lo).toNat]? = some off) (ht : (pc : Int) + off = (tgt : Int)) (k : ux_V p l e R s m args below meth c Q nL D cl wf A cs sl σ tgt lv st) : ux_V p l e R s m args below meth c Q nL D cl wf A cs sl σ pc lv (.int x :: st) :=
  fun H locs ls hP hS hl => lv_tableIn C.1 C.2.1 hdg h1 h2 ho ht (k H locs ls hP hS hl)
theorem ux_tableOut (C : ux_C p s m args meth c cc nL own Ts ret D cl tys wf A) {dflt lo hi : Int} {offs : Array Int} {len : Nat} {x : Int32} (tgt : Nat) (hdg : decode cc pc = .ok (.tableswitch dflt lo hi offs, len)) (h : x.toInt < lo ∨ hi < x.toInt) (ht : (pc : Int) + dflt = (tgt : Int)) (k : ux_V p l e R s m args below meth c Q nL D cl wf A cs sl σ tgt lv st) : ux_V p l e R s m args below meth c Q nL D cl wf A cs sl σ pc lv (.int x :: st) :=
  fun H locs ls hP hS hl => lv_tableOut C.1 C.2.1 hdg h ht (k H locs ls hP hS hl)
theorem ux_top {x : Int32} (y : Int32) (h : x = y) (k : ux_V p l e R s m args below meth c Q nL D cl wf A cs sl σ pc lv (.int y :: st)) : ux_V p l e R s m args below meth c Q nL D cl wf A cs sl σ pc lv (.int x :: st) := h ▸ k
theorem ux_topl {x : Int64} (y : Int64) (h : x = y) (k : ux_V p l e R s m args below meth c Q nL D cl wf A cs sl σ pc lv (.long y :: st)) : ux_V p l e R s m args below meth c Q nL D cl wf A cs sl σ pc lv (.long x :: st) := h ▸ k
theorem ux_sub (lv' : List (Nat × Value)) (ks : List Nat) (hl : lv_pick lv ks = lv') (k : ux_V p l e R s m args below meth c Q nL D cl wf A cs sl σ pc lv' st) : ux_V p l e R s m args below meth c Q nL D cl wf A cs sl σ pc lv st := fun H locs ls hP hS h => k H locs ls hP hS (lv_sub h ks hl)
theorem ux_at {σ' : S} (h : σ = σ') (k : ux_V p l e R s m args below meth c Q nL D cl wf A cs sl σ' pc lv st) : ux_V p l e R s m args below meth c Q nL D cl wf A cs sl σ pc lv st := h ▸ k
theorem ux_ldc2 (C : ux_C p s m args meth c cc nL own Ts ret D cl tys wf A) {index : Nat} (v : Int64) (hw : Cond.constantLong own index v ∈ Ts) (hdg : decode cc pc = .ok (.ldc2_w index, 3)) (k : ux_V p l e R s m args below meth c Q nL D cl wf A cs sl σ (pc + 3) lv (.long v :: st)) : ux_V p l e R s m args below meth c Q nL D cl wf A cs sl σ pc lv st :=
  fun H locs ls hP hS hl => lv_ldc2 C.1 C.2.1 C.2.2.2.1 (C.2.2.2.2.1 _ hw) hdg (k H locs ls hP hS hl)
theorem ux_ldc (C : ux_C p s m args meth c cc nL own Ts ret D cl tys wf A) {index : Nat} (v : Int32) (hw : Cond.constant own index v ∈ Ts) (hdg : decode cc pc = .ok (.ldc index, 2)) (k : ux_V p l e R s m args below meth c Q nL D cl wf A cs sl σ (pc + 2) lv (.int v :: st)) : ux_V p l e R s m args below meth c Q nL D cl wf A cs sl σ pc lv st :=
  fun H locs ls hP hS hl => lv_ldc C.1 C.2.1 C.2.2.2.1 (C.2.2.2.2.1 _ hw) hdg (k H locs ls hP hS hl)
theorem ux_get (C : ux_C p s m args meth c cc nL own Ts ret D cl tys wf A) {index ci N k : Nat} {Cn : String} {T : u_T} (hF : ux_F Ts own index Cn T N k) (q0 : Nat) {a : Nat} {fs : List Value} {v : Value} (he : (wf σ)[q0]? = some (a, .inr (ci, fs))) (hc : cl[ci]? = some (Cn, T, N)) (hv : fs[k]? = some v) (hdg : decode cc pc = .ok (.getfield index, 3)) (kk : ux_V p l e R s m args below meth c Q nL D cl wf A cs sl σ (pc + 3) lv (v :: st)) : ux_V p l e R s m args below meth c Q nL D cl wf A cs sl σ pc lv (.ref a :: st) :=
  fun H locs ls hP hS hl => va_get C.1 C.2.1 C.2.2.2.2.1 hF.1 C.2.2.2.1 C.2.2.2.2.2.2.2.1 hP q0 he hc k hF.2.1 (C.2.2.2.2.1 _ hF.2.2) (fun _ h => h) hv hdg (kk H locs ls hP hS hl)
theorem ux_putI (C : ux_C p s m args meth c cc nL own Ts ret D cl tys wf A) {index ci N k : Nat} {Cn : String} {T : u_T} (hF : ux_F Ts own index Cn T N k) {ty0 : Nat → FieldType} (hI : ux_FI T N k ty0) (q0 : Nat) {a : Nat} {fs : List Value} {x : Int32} (he : (wf σ)[q0]? = some (a, .inr (ci, fs))) (hc : cl[ci]? = some (Cn, T, N)) (hlen : k < fs.length) (hdg : decode cc pc = .ok (.putfield index, 3)) (σ' : S) (hw : (wf σ).set q0 (a, .inr (ci, fs.set k (.int x))) = wf σ') (kk : ux_V p l e R s m args below meth c Q nL D cl wf A cs sl σ' (pc + 3) lv st) : ux_V p l e R s m args below meth c Q nL D cl wf A cs sl σ pc lv (.int x :: .ref a :: st) :=
  fun H locs ls hP hS hl => va_put C.1 C.2.1 C.2.2.2.2.1 hF.1 ty0 hI.1 hI.2.1 C.2.2.2.1 C.2.2.2.2.2.2.2.1 hP (C.2.2.2.2.2.2.2.2 σ) hS q0 he hc k hF.2.1 (C.2.2.2.2.1 _ hF.2.2) (fun _ h => h) hI.2.2.1 hI.2.2.2 rfl rfl hlen hdg (fun H locs hP _ hS => kk H locs ls (hw ▸ hP) hS hl)
theorem ux_iald (C : ux_C p s m args meth c cc nL own Ts ret D cl tys wf A) (q0 t0 j : Nat) {a n : Nat} {cA : ClassId} {f : Nat → Int32} {i : Int32} (ha : (wf σ)[q0]? = some (a, .inl (cA, n, .inl f))) (ht : tys[t0]? = some (cA, .int)) (hi : i = nI j) (hj : j < n) (hn : n < 2 ^ 31) (hdg : decode cc pc = .ok (.iaload, 1)) (kk : ux_V p l e R s m args below meth c Q nL D cl wf A cs sl σ (pc + 1) lv (.int (f j) :: st)) : ux_V p l e R s m args below meth c Q nL D cl wf A cs sl σ pc lv (.int i :: .ref a :: st) :=
  fun H locs ls hP hS hl => va_iald C.1 C.2.1 C.2.2.2.2.2.2.2.1 hP q0 t0 ha ht (by rw [hi]; exact vp_in_nI hj hn) hdg (by rw [hi, nI_clamp (Nat.lt_trans hj hn)]; exact kk H locs ls hP hS hl)
theorem ux_zald (C : ux_C p s m args meth c cc nL own Ts ret D cl tys wf A) (q0 t0 j : Nat) {a n : Nat} {cA : ClassId} {f : Nat → Int32} {i : Int32} (ha : (wf σ)[q0]? = some (a, .inl (cA, n, .inl f))) (ht : tys[t0]? = some (cA, .boolean)) (hi : i = nI j) (hj : j < n) (hn : n < 2 ^ 31) (hdg : decode cc pc = .ok (.baload, 1)) (kk : ux_V p l e R s m args below meth c Q nL D cl wf A cs sl σ (pc + 1) lv (.int (f j) :: st)) : ux_V p l e R s m args below meth c Q nL D cl wf A cs sl σ pc lv (.int i :: .ref a :: st) :=
  fun H locs ls hP hS hl => va_zald C.1 C.2.1 C.2.2.2.2.2.2.2.1 hP q0 t0 ha ht (by rw [hi]; exact vp_in_nI hj hn) hdg (by rw [hi, nI_clamp (Nat.lt_trans hj hn)]; exact kk H locs ls hP hS hl)
theorem ux_bald (C : ux_C p s m args meth c cc nL own Ts ret D cl tys wf A) (q0 t0 j : Nat) {a n : Nat} {cA : ClassId} {f : Nat → Int32} {i : Int32} (ha : (wf σ)[q0]? = some (a, .inl (cA, n, .inl f))) (ht : tys[t0]? = some (cA, .byte)) (hi : i = nI j) (hj : j < n) (hn : n < 2 ^ 31) (hdg : decode cc pc = .ok (.baload, 1)) (kk : ux_V p l e R s m args below meth c Q nL D cl wf A cs sl σ (pc + 1) lv (.int (f j) :: st)) : ux_V p l e R s m args below meth c Q nL D cl wf A cs sl σ pc lv (.int i :: .ref a :: st) :=
  fun H locs ls hP hS hl => va_bald C.1 C.2.1 C.2.2.2.2.2.2.2.1 hP q0 t0 ha ht (by rw [hi]; exact vp_in_nI hj hn) hdg (by rw [hi, nI_clamp (Nat.lt_trans hj hn)]; exact kk H locs ls hP hS hl)
theorem ux_lald (C : ux_C p s m args meth c cc nL own Ts ret D cl tys wf A) (q0 t0 j : Nat) {a n : Nat} {cA : ClassId} {f : Nat → Int64} {i : Int32} (ha : (wf σ)[q0]? = some (a, .inl (cA, n, .inr (.inl f)))) (ht : tys[t0]? = some (cA, .long)) (hi : i = nI j) (hj : j < n) (hn : n < 2 ^ 31) (hdg : decode cc pc = .ok (.laload, 1)) (kk : ux_V p l e R s m args below meth c Q nL D cl wf A cs sl σ (pc + 1) lv (.long (f j) :: st)) : ux_V p l e R s m args below meth c Q nL D cl wf A cs sl σ pc lv (.int i :: .ref a :: st) :=
  fun H locs ls hP hS hl => va_lald C.1 C.2.1 C.2.2.2.2.2.2.2.1 hP q0 t0 ha ht (by rw [hi]; exact vp_in_nI hj hn) hdg (by rw [hi, nI_clamp (Nat.lt_trans hj hn)]; exact kk H locs ls hP hS hl)
theorem ux_iast (C : ux_C p s m args meth c cc nL own Ts ret D cl tys wf A) (q0 t0 j : Nat) {a n : Nat} {cA : ClassId} {f : Nat → Int32} {i x : Int32} (ha : (wf σ)[q0]? = some (a, .inl (cA, n, .inl f))) (ht : tys[t0]? = some (cA, .int)) (hi : i = nI j) (hj : j < n) (hn : n < 2 ^ 31) (hdg : decode cc pc = .ok (.iastore, 1)) (σ' : S) (hw : (wf σ).set q0 (a, .inl (cA, n, .inl (upd f j x))) = wf σ') (kk : ux_V p l e R s m args below meth c Q nL D cl wf A cs sl σ' (pc + 1) lv st) : ux_V p l e R s m args below meth c Q nL D cl wf A cs sl σ pc lv (.int x :: .int i :: .ref a :: st) :=
  fun H locs ls hP hS hl => va_iast C.1 C.2.1 C.2.2.2.2.2.2.2.1 hP (C.2.2.2.2.2.2.2.2 σ) hS q0 t0 ha ht (by rw [hi]; exact vp_in_nI hj hn) hdg (fun H locs hP _ hS => kk H locs ls (by rw [hi, nI_clamp (Nat.lt_trans hj hn), hw] at hP; exact hP) hS hl)
theorem ux_zast (C : ux_C p s m args meth c cc nL own Ts ret D cl tys wf A) (q0 t0 j : Nat) {a n : Nat} {cA : ClassId} {f : Nat → Int32} {i x : Int32} (ha : (wf σ)[q0]? = some (a, .inl (cA, n, .inl f))) (ht : tys[t0]? = some (cA, .boolean)) (hi : i = nI j) (hj : j < n) (hn : n < 2 ^ 31) (hx : vp_nar .boolean x = x) (hdg : decode cc pc = .ok (.bastore, 1)) (σ' : S) (hw : (wf σ).set q0 (a, .inl (cA, n, .inl (upd f j x))) = wf σ') (kk : ux_V p l e R s m args below meth c Q nL D cl wf A cs sl σ' (pc + 1) lv st) : ux_V p l e R s m args below meth c Q nL D cl wf A cs sl σ pc lv (.int x :: .int i :: .ref a :: st) :=
  fun H locs ls hP hS hl => va_zast C.1 C.2.1 C.2.2.2.2.2.2.2.1 hP (C.2.2.2.2.2.2.2.2 σ) hS q0 t0 ha ht (by rw [hi]; exact vp_in_nI hj hn) hdg (fun H locs hP _ hS => kk H locs ls (by rw [hi, nI_clamp (Nat.lt_trans hj hn), hx, hw] at hP; exact hP) hS hl)
theorem ux_bast (C : ux_C p s m args meth c cc nL own Ts ret D cl tys wf A) (q0 t0 j : Nat) {a n : Nat} {cA : ClassId} {f : Nat → Int32} {i x : Int32} (ha : (wf σ)[q0]? = some (a, .inl (cA, n, .inl f))) (ht : tys[t0]? = some (cA, .byte)) (hi : i = nI j) (hj : j < n) (hn : n < 2 ^ 31) (hx : vp_nar .byte x = x) (hdg : decode cc pc = .ok (.bastore, 1)) (σ' : S) (hw : (wf σ).set q0 (a, .inl (cA, n, .inl (upd f j x))) = wf σ') (kk : ux_V p l e R s m args below meth c Q nL D cl wf A cs sl σ' (pc + 1) lv st) : ux_V p l e R s m args below meth c Q nL D cl wf A cs sl σ pc lv (.int x :: .int i :: .ref a :: st) :=
  fun H locs ls hP hS hl => va_bast C.1 C.2.1 C.2.2.2.2.2.2.2.1 hP (C.2.2.2.2.2.2.2.2 σ) hS q0 t0 ha ht (by rw [hi]; exact vp_in_nI hj hn) hdg (fun H locs hP _ hS => kk H locs ls (by rw [hi, nI_clamp (Nat.lt_trans hj hn), hx, hw] at hP; exact hP) hS hl)
theorem ux_last (C : ux_C p s m args meth c cc nL own Ts ret D cl tys wf A) (q0 t0 j : Nat) {a n : Nat} {cA : ClassId} {f : Nat → Int64} {i : Int32} {x : Int64} (ha : (wf σ)[q0]? = some (a, .inl (cA, n, .inr (.inl f)))) (ht : tys[t0]? = some (cA, .long)) (hi : i = nI j) (hj : j < n) (hn : n < 2 ^ 31) (hdg : decode cc pc = .ok (.lastore, 1)) (σ' : S) (hw : (wf σ).set q0 (a, .inl (cA, n, .inr (.inl (vp_updL f j x)))) = wf σ') (kk : ux_V p l e R s m args below meth c Q nL D cl wf A cs sl σ' (pc + 1) lv st) : ux_V p l e R s m args below meth c Q nL D cl wf A cs sl σ pc lv (.long x :: .int i :: .ref a :: st) :=
  fun H locs ls hP hS hl => va_last C.1 C.2.1 C.2.2.2.2.2.2.2.1 hP (C.2.2.2.2.2.2.2.2 σ) hS q0 t0 ha ht (by rw [hi]; exact vp_in_nI hj hn) hdg (fun H locs hP _ hS => kk H locs ls (by rw [hi, nI_clamp (Nat.lt_trans hj hn), hw] at hP; exact hP) hS hl)
theorem ux_alen (C : ux_C p s m args meth c cc nL own Ts ret D cl tys wf A) (q0 t0 : Nat) {a : Nat} {cA : ClassId} {x : vp_A} {ty : FieldType} (ha : (wf σ)[q0]? = some (a, .inl (cA, x))) (ht : tys[t0]? = some (cA, ty)) (hdg : decode cc pc = .ok (.arraylength, 1)) (kk : ux_V p l e R s m args below meth c Q nL D cl wf A cs sl σ (pc + 1) lv (.int (nI x.1) :: st)) : ux_V p l e R s m args below meth c Q nL D cl wf A cs sl σ pc lv (.ref a :: st) :=
  fun H locs ls hP hS hl => va_alen C.1 C.2.1 C.2.2.2.2.2.2.2.1 hP q0 t0 ha ht rfl hdg (kk H locs ls hP hS hl)
theorem ux_callI (C : ux_C p s m args meth c cc nL own Ts ret D cl tys wf A) {y : MethodName} {ws ws' : List Cond} {bytes : ByteArray} {maxL index n : Nat} {ret' : Option FieldType} {rm : Room} {As rest : List Value} {b ci : Nat} {fs : List Value} {Cn : String} {T : u_T} {N : Nat} {post : Int32 → S → Prop} (hG : ux_G Ts own index Cn y ws n) (hM : ux_I l D cl tys wf A y ws rm (.ref b :: As) σ post) (hws : ws = Cond.code y bytes maxL ret' :: ws') (hz : rm.cells = 0 ∧ rm.slots = 0) (hR : rm.frames + 1 ≤ R.frames ∧ 8 + (maxL + 11) + rm.locals ≤ R.locals) (hcs : cs ≤ R.cells ∧ sl ≤ R.slots) (q0 : Nat) (he : (wf σ)[q0]? = some (b, .inr (ci, fs))) (hc : cl[ci]? = some (Cn, T, N)) (hn : As.length = n) (hst : st = As.reverse ++ .ref b :: rest) (hroom : (rest.map fun v => v.category).sum ≤ 8) (hdg : decode cc pc = .ok (.invokevirtual index, 3)) (kk : ∀ r σ', post r σ' → ux_V p l e R s m args below meth c Q nL D cl wf A cs sl σ' (pc + 3) lv (.int r :: rest)) : ux_V p l e R s m args below meth c Q nL D cl wf A cs sl σ pc lv st := by
  intro H locs ls hP hS hl
  subst hst
  refine va_calli (va_runV (As := As) (rest := rest) ⟨C.1, C.2.1, C.2.2.1, C.2.2.2.1, C.2.2.2.2.1⟩ hM (cwV n C.2.2.2.2.1 hG.1 hws hz.1 hz.2 hG.2 hR) ⟨ux_Pre_blind, va_recv C.2.2.2.2.2.2.2.1 hP hc he, fun U hU hW => ⟨rfl, by rw [hU]; exact hP, va_K.moved hW.alike C.2.2.2.2.2.2.2.1, C.2.2.2.2.2.2.2.2⟩⟩ rfl hn hl.1 rfl (lv_room hroom) hdg hcs) hS (fun q _ h => h) (fun q h => h) (fun r u t H1 locs ht hvm hw hB hz1 hk1 hS => ?_)
  exact kk r u hw H1 locs ls (by rw [← ht]; exact hB) hS hl
theorem ux_scallI (C : ux_C p s m args meth c cc nL own Ts ret D cl tys wf A) {y : MethodName} {ws ws' : List Cond} {bytes : ByteArray} {maxL index n : Nat} {ret' : Option FieldType} {rm : Room} {As rest : List Value} {post : Int32 → S → Prop} (hG : ux_GS Ts own index y ws n) (hM : ux_I l D cl tys wf A y ws rm As σ post) (hws : ws = Cond.code y bytes maxL ret' :: ws') (hz : rm.cells = 0 ∧ rm.slots = 0) (hR : rm.frames + 1 ≤ R.frames ∧ 8 + (maxL + 11) + rm.locals ≤ R.locals) (hcs : cs ≤ R.cells ∧ sl ≤ R.slots) (hn : As.length = n) (hst : st = As.reverse ++ rest) (hroom : (rest.map fun v => v.category).sum ≤ 8) (hdg : decode cc pc = .ok (.invokestatic index, 3)) (kk : ∀ r σ', post r σ' → ux_V p l e R s m args below meth c Q nL D cl wf A cs sl σ' (pc + 3) lv (.int r :: rest)) : ux_V p l e R s m args below meth c Q nL D cl wf A cs sl σ pc lv st := by
  intro H locs ls hP hS hl
  subst hst
  refine va_calli (va_runS (As := As) (rest := rest) ⟨C.1, C.2.1, C.2.2.1, C.2.2.2.1, C.2.2.2.2.1⟩ hM ⟨callB_of n C.2.2.2.2.1 (fun w h => hG.1 w (by unfold va_wsS; exact List.mem_append_right _ h)) hws hz.1 hz.2 (C.2.2.2.2.1 _ (hG.1 _ (by simp [va_wsS])).1) (C.2.2.2.2.1 _ (hG.1 _ (by simp [va_wsS])).1) hG.2 hR, C.2.2.2.2.1 _ (hG.1 _ (by simp [va_wsS])).1⟩ ⟨ux_Pre_blind, fun U hU hW => ⟨rfl, by rw [hU]; exact hP, va_K.moved hW.alike C.2.2.2.2.2.2.2.1, C.2.2.2.2.2.2.2.2⟩⟩ rfl hn hl.1 rfl (lv_room hroom) hdg hcs) hS (fun q _ h => h) (fun q h => h) (fun r u t H1 locs ht hvm hw hB hz1 hk1 hS => ?_)
  exact kk r u hw H1 locs ls (by rw [← ht]; exact hB) hS hl
theorem ux_callL (C : ux_C p s m args meth c cc nL own Ts ret D cl tys wf A) {y : MethodName} {ws ws' : List Cond} {bytes : ByteArray} {maxL index n : Nat} {ret' : Option FieldType} {rm : Room} {As rest : List Value} {b ci : Nat} {fs : List Value} {Cn : String} {T : u_T} {N : Nat} {post : Int64 → S → Prop} (hG : ux_G Ts own index Cn y ws n) (hM : ux_L l D cl tys wf A y ws rm (.ref b :: As) σ post) (hws : ws = Cond.code y bytes maxL ret' :: ws') (hz : rm.cells = 0 ∧ rm.slots = 0) (hR : rm.frames + 1 ≤ R.frames ∧ 8 + (maxL + 11) + rm.locals ≤ R.locals) (hcs : cs ≤ R.cells ∧ sl ≤ R.slots) (q0 : Nat) (he : (wf σ)[q0]? = some (b, .inr (ci, fs))) (hc : cl[ci]? = some (Cn, T, N)) (hn : As.length = n) (hst : st = As.reverse ++ .ref b :: rest) (hroom : (rest.map fun v => v.category).sum ≤ 8) (hdg : decode cc pc = .ok (.invokevirtual index, 3)) (kk : ∀ r σ', post r σ' → ux_V p l e R s m args below meth c Q nL D cl wf A cs sl σ' (pc + 3) lv (.long r :: rest)) : ux_V p l e R s m args below meth c Q nL D cl wf A cs sl σ pc lv st := by
  intro H locs ls hP hS hl
  subst hst
  refine va_calll (va_runV (As := As) (rest := rest) ⟨C.1, C.2.1, C.2.2.1, C.2.2.2.1, C.2.2.2.2.1⟩ hM (cwV n C.2.2.2.2.1 hG.1 hws hz.1 hz.2 hG.2 hR) ⟨ux_Pre_blind, va_recv C.2.2.2.2.2.2.2.1 hP hc he, fun U hU hW => ⟨rfl, by rw [hU]; exact hP, va_K.moved hW.alike C.2.2.2.2.2.2.2.1, C.2.2.2.2.2.2.2.2⟩⟩ rfl hn hl.1 rfl (lv_room hroom) hdg hcs) hS (fun q _ h => h) (fun q h => h) (fun r u t H1 locs ht hvm hw hB hz1 hk1 hS => ?_)
  exact kk r u hw H1 locs ls (by rw [← ht]; exact hB) hS hl
theorem ux_scallL (C : ux_C p s m args meth c cc nL own Ts ret D cl tys wf A) {y : MethodName} {ws ws' : List Cond} {bytes : ByteArray} {maxL index n : Nat} {ret' : Option FieldType} {rm : Room} {As rest : List Value} {post : Int64 → S → Prop} (hG : ux_GS Ts own index y ws n) (hM : ux_L l D cl tys wf A y ws rm As σ post) (hws : ws = Cond.code y bytes maxL ret' :: ws') (hz : rm.cells = 0 ∧ rm.slots = 0) (hR : rm.frames + 1 ≤ R.frames ∧ 8 + (maxL + 11) + rm.locals ≤ R.locals) (hcs : cs ≤ R.cells ∧ sl ≤ R.slots) (hn : As.length = n) (hst : st = As.reverse ++ rest) (hroom : (rest.map fun v => v.category).sum ≤ 8) (hdg : decode cc pc = .ok (.invokestatic index, 3)) (kk : ∀ r σ', post r σ' → ux_V p l e R s m args below meth c Q nL D cl wf A cs sl σ' (pc + 3) lv (.long r :: rest)) : ux_V p l e R s m args below meth c Q nL D cl wf A cs sl σ pc lv st := by
  intro H locs ls hP hS hl
  subst hst
  refine va_calll (va_runS (As := As) (rest := rest) ⟨C.1, C.2.1, C.2.2.1, C.2.2.2.1, C.2.2.2.2.1⟩ hM ⟨callB_of n C.2.2.2.2.1 (fun w h => hG.1 w (by unfold va_wsS; exact List.mem_append_right _ h)) hws hz.1 hz.2 (C.2.2.2.2.1 _ (hG.1 _ (by simp [va_wsS])).1) (C.2.2.2.2.1 _ (hG.1 _ (by simp [va_wsS])).1) hG.2 hR, C.2.2.2.2.1 _ (hG.1 _ (by simp [va_wsS])).1⟩ ⟨ux_Pre_blind, fun U hU hW => ⟨rfl, by rw [hU]; exact hP, va_K.moved hW.alike C.2.2.2.2.2.2.2.1, C.2.2.2.2.2.2.2.2⟩⟩ rfl hn hl.1 rfl (lv_room hroom) hdg hcs) hS (fun q _ h => h) (fun q h => h) (fun r u t H1 locs ht hvm hw hB hz1 hk1 hS => ?_)
  exact kk r u hw H1 locs ls (by rw [← ht]; exact hB) hS hl
theorem ux_callN (C : ux_C p s m args meth c cc nL own Ts ret D cl tys wf A) {y : MethodName} {ws ws' : List Cond} {bytes : ByteArray} {maxL index n : Nat} {ret' : Option FieldType} {rm : Room} {As rest : List Value} {b ci : Nat} {fs : List Value} {Cn : String} {T : u_T} {N : Nat} {post : S → Prop} (hG : ux_G Ts own index Cn y ws n) (hM : ux_N l D cl tys wf A y ws rm (.ref b :: As) σ post) (hws : ws = Cond.code y bytes maxL ret' :: ws') (hz : rm.cells = 0 ∧ rm.slots = 0) (hR : rm.frames + 1 ≤ R.frames ∧ 8 + (maxL + 11) + rm.locals ≤ R.locals) (hcs : cs ≤ R.cells ∧ sl ≤ R.slots) (q0 : Nat) (he : (wf σ)[q0]? = some (b, .inr (ci, fs))) (hc : cl[ci]? = some (Cn, T, N)) (hn : As.length = n) (hst : st = As.reverse ++ .ref b :: rest) (hroom : (rest.map fun v => v.category).sum ≤ 8) (hdg : decode cc pc = .ok (.invokevirtual index, 3)) (kk : ∀ σ', post σ' → ux_V p l e R s m args below meth c Q nL D cl wf A cs sl σ' (pc + 3) lv (rest)) : ux_V p l e R s m args below meth c Q nL D cl wf A cs sl σ pc lv st := by
  intro H locs ls hP hS hl
  subst hst
  refine va_callv (va_runV (As := As) (rest := rest) ⟨C.1, C.2.1, C.2.2.1, C.2.2.2.1, C.2.2.2.2.1⟩ hM (cwV n C.2.2.2.2.1 hG.1 hws hz.1 hz.2 hG.2 hR) ⟨ux_Pre_blind, va_recv C.2.2.2.2.2.2.2.1 hP hc he, fun U hU hW => ⟨rfl, by rw [hU]; exact hP, va_K.moved hW.alike C.2.2.2.2.2.2.2.1, C.2.2.2.2.2.2.2.2⟩⟩ rfl hn hl.1 rfl (lv_room hroom) hdg hcs) hS (fun q _ h => h) (fun q h => h) (fun u t H1 locs ht hvm hw hB hz1 hk1 hS => ?_)
  exact kk u hw H1 locs ls (by rw [← ht]; exact hB) hS hl
theorem ux_scallN (C : ux_C p s m args meth c cc nL own Ts ret D cl tys wf A) {y : MethodName} {ws ws' : List Cond} {bytes : ByteArray} {maxL index n : Nat} {ret' : Option FieldType} {rm : Room} {As rest : List Value} {post : S → Prop} (hG : ux_GS Ts own index y ws n) (hM : ux_N l D cl tys wf A y ws rm As σ post) (hws : ws = Cond.code y bytes maxL ret' :: ws') (hz : rm.cells = 0 ∧ rm.slots = 0) (hR : rm.frames + 1 ≤ R.frames ∧ 8 + (maxL + 11) + rm.locals ≤ R.locals) (hcs : cs ≤ R.cells ∧ sl ≤ R.slots) (hn : As.length = n) (hst : st = As.reverse ++ rest) (hroom : (rest.map fun v => v.category).sum ≤ 8) (hdg : decode cc pc = .ok (.invokestatic index, 3)) (kk : ∀ σ', post σ' → ux_V p l e R s m args below meth c Q nL D cl wf A cs sl σ' (pc + 3) lv (rest)) : ux_V p l e R s m args below meth c Q nL D cl wf A cs sl σ pc lv st := by
  intro H locs ls hP hS hl
  subst hst
  refine va_callv (va_runS (As := As) (rest := rest) ⟨C.1, C.2.1, C.2.2.1, C.2.2.2.1, C.2.2.2.2.1⟩ hM ⟨callB_of n C.2.2.2.2.1 (fun w h => hG.1 w (by unfold va_wsS; exact List.mem_append_right _ h)) hws hz.1 hz.2 (C.2.2.2.2.1 _ (hG.1 _ (by simp [va_wsS])).1) (C.2.2.2.2.1 _ (hG.1 _ (by simp [va_wsS])).1) hG.2 hR, C.2.2.2.2.1 _ (hG.1 _ (by simp [va_wsS])).1⟩ ⟨ux_Pre_blind, fun U hU hW => ⟨rfl, by rw [hU]; exact hP, va_K.moved hW.alike C.2.2.2.2.2.2.2.1, C.2.2.2.2.2.2.2.2⟩⟩ rfl hn hl.1 rfl (lv_room hroom) hdg hcs) hS (fun q _ h => h) (fun q h => h) (fun u t H1 locs ht hvm hw hB hz1 hk1 hS => ?_)
  exact kk u hw H1 locs ls (by rw [← ht]; exact hB) hS hl
theorem ux_callR (C : ux_C p s m args meth c cc nL own Ts ret D cl tys wf A) {y : MethodName} {ws ws' : List Cond} {bytes : ByteArray} {maxL index n ra : Nat} {ret' : Option FieldType} {rm : Room} {As rest : List Value} {b ci : Nat} {fs : List Value} {Cn : String} {T : u_T} {N : Nat} {post : S → Prop} (hG : ux_G Ts own index Cn y ws n) (hM : ux_R l D cl tys wf A y ws rm (.ref b :: As) σ ra post) (hws : ws = Cond.code y bytes maxL ret' :: ws') (hz : rm.cells = 0 ∧ rm.slots = 0) (hR : rm.frames + 1 ≤ R.frames ∧ 8 + (maxL + 11) + rm.locals ≤ R.locals) (hcs : cs ≤ R.cells ∧ sl ≤ R.slots) (q0 : Nat) (he : (wf σ)[q0]? = some (b, .inr (ci, fs))) (hc : cl[ci]? = some (Cn, T, N)) (hn : As.length = n) (hst : st = As.reverse ++ .ref b :: rest) (hroom : (rest.map fun v => v.category).sum ≤ 8) (hdg : decode cc pc = .ok (.invokevirtual index, 3)) (kk : ∀ σ', post σ' → ux_V p l e R s m args below meth c Q nL D cl wf A cs sl σ' (pc + 3) lv (.ref ra :: rest)) : ux_V p l e R s m args below meth c Q nL D cl wf A cs sl σ pc lv st := by
  intro H locs ls hP hS hl
  subst hst
  refine va_callr (va_runV (As := As) (rest := rest) ⟨C.1, C.2.1, C.2.2.1, C.2.2.2.1, C.2.2.2.2.1⟩ hM (cwV n C.2.2.2.2.1 hG.1 hws hz.1 hz.2 hG.2 hR) ⟨ux_Pre_blind, va_recv C.2.2.2.2.2.2.2.1 hP hc he, fun U hU hW => ⟨rfl, by rw [hU]; exact hP, va_K.moved hW.alike C.2.2.2.2.2.2.2.1, C.2.2.2.2.2.2.2.2⟩⟩ rfl hn hl.1 rfl (lv_room hroom) hdg hcs) hS (fun q _ h => h) (fun q h => h) (fun u a t H1 locs ht hvm hw hB hz1 hk1 hS => ?_)
  obtain ⟨ha, hB⟩ := hB
  subst ha
  exact kk u hw H1 locs ls (by rw [← ht]; exact hB) hS hl
theorem ux_mmax (C : ux_C p s m args meth c cc nL own Ts ret D cl tys wf A) {index : Nat} {x y : Int32} (hlink : Cond.methodLink own index Lib.Math.max.name ∈ Ts) (hstat : Cond.static Lib.Math.max.name ∈ Ts) (hini : Cond.initialized "java/lang/Math" ∈ Ts) (hcode : Cond.code Lib.Math.max.name Lib.Math.max.code 2 (some .int) ∈ Ts) (hframes : 1 ≤ R.frames) (hlocals : (st.map fun v => v.category).sum + 13 ≤ R.locals) (hcs : cs ≤ R.cells ∧ sl ≤ R.slots) (hdg : decode cc pc = .ok (.invokestatic index, 3)) (kk : ux_V p l e R s m args below meth c Q nL D cl wf A cs sl σ (pc + 3) lv (.int (if x < y then y else x) :: st)) : ux_V p l e R s m args below meth c Q nL D cl wf A cs sl σ pc lv (.int y :: .int x :: st) :=
  fun H locs ls hP hS hl => va_mmax C.1 C.2.1 (by rw [C.2.2.1]; exact hl.1.symm) C.2.2.2.1 (C.2.2.2.2.1 _ hlink) (C.2.2.2.2.1 _ hstat) (C.2.2.2.2.1 _ hini) (C.2.2.2.2.1 _ hcode) hframes hlocals hcs.1 hcs.2 hdg (kk H locs ls hP hS hl)
theorem ux_mminl (C : ux_C p s m args meth c cc nL own Ts ret D cl tys wf A) {index : Nat} {x y : Int64} (hlink : Cond.methodLink own index Lib.MathLoose.min_long.x ∈ Ts) (hstat : Cond.static Lib.MathLoose.min_long.x ∈ Ts) (hini : Cond.initialized "java/lang/Math" ∈ Ts) (hcode : Cond.code Lib.MathLoose.min_long.x Lib.MathLoose.min_long.code 4 (some .long) ∈ Ts) (hframes : 1 ≤ R.frames) (hlocals : (st.map fun v => v.category).sum + 15 ≤ R.locals) (hcs : cs ≤ R.cells ∧ sl ≤ R.slots) (hdg : decode cc pc = .ok (.invokestatic index, 3)) (kk : ux_V p l e R s m args below meth c Q nL D cl wf A cs sl σ (pc + 3) lv (.long (if y < x then y else x) :: st)) : ux_V p l e R s m args below meth c Q nL D cl wf A cs sl σ pc lv (.long y :: .long x :: st) := by
  intro H locs ls hP hS hl
  refine va_mmin_long C.1 C.2.1 (by rw [C.2.2.1]; exact hl.1.symm) C.2.2.2.1 (C.2.2.2.2.1 _ hlink) (C.2.2.2.2.1 _ hstat) (C.2.2.2.2.1 _ hini) (C.2.2.2.2.1 _ hcode) hframes hlocals hcs.1 hcs.2 hdg ?_
  exact kk H locs ls hP hS hl
end UX
section UXR
variable {p : Program} {l : Launch} {e : Env} {R : Room} {s : State} {m : MethodId} {args : Array Value} {below : List Frame} {meth : Method} {c : Code} {cc : ByteArray} {nL : Nat} {own : String} {Ts : List Cond} {ret : Option FieldType} {D : va_G} {cl : List vw_C} {tys : List (ClassId × FieldType)} {S : Type} {wf : S → va_W} {A : Nat → Prop} {σ : S} {pc : Nat} {lv : List (Nat × Value)} {st : List Value}
theorem ux_iret (C : ux_C p s m args meth c cc nL own Ts (some .int) D cl tys wf A) {post : Int32 → S → Prop} {v : Int32} (hdg : decode cc pc = .ok (.ireturn, 1)) (h : post v σ) : ux_V p l e R s m args below meth c (MQ below (va_Qi post (fun σ' t => va_P D cl (wf σ') t.heap) A) args s 0 0 A) nL D cl wf A 0 0 σ pc lv [.int v] :=
  fun H locs ls hP hS hl => W.iret C.1 C.2.1 C.2.2.2.2.2.1 (fun t ht hW => ⟨⟨v, σ, rfl, h, by show va_P D cl (wf σ) t.heap; rw [ht]; exact hP⟩, hS.F ht⟩) hS.2.2 hdg C.2.2.2.2.2.2.1
theorem ux_lret (C : ux_C p s m args meth c cc nL own Ts (some .long) D cl tys wf A) {post : Int64 → S → Prop} {v : Int64} (hdg : decode cc pc = .ok (.lreturn, 1)) (h : post v σ) : ux_V p l e R s m args below meth c (MQ below (va_Ql post (fun σ' t => va_P D cl (wf σ') t.heap) A) args s 0 0 A) nL D cl wf A 0 0 σ pc lv [.long v] :=
  fun H locs ls hP hS hl => W.lret C.1 C.2.1 C.2.2.2.2.2.1 (fun t ht hW => ⟨⟨v, σ, rfl, h, by show va_P D cl (wf σ) t.heap; rw [ht]; exact hP⟩, hS.F ht⟩) hS.2.2 hdg C.2.2.2.2.2.2.1
theorem ux_zret (C : ux_C p s m args meth c cc nL own Ts (some .boolean) D cl tys wf A) {post : Int32 → S → Prop} {v : Int32} (hdg : decode cc pc = .ok (.ireturn, 1)) (hn : narrow .boolean (.int v) = .int v) (h : post v σ) : ux_V p l e R s m args below meth c (MQ below (va_Qi post (fun σ' t => va_P D cl (wf σ') t.heap) A) args s 0 0 A) nL D cl wf A 0 0 σ pc lv [.int v] :=
  fun H locs ls hP hS hl => W.zret C.1 C.2.1 C.2.2.2.2.2.1 hn (fun t ht hW => ⟨⟨v, σ, rfl, h, by show va_P D cl (wf σ) t.heap; rw [ht]; exact hP⟩, hS.F ht⟩) hS.2.2 hdg C.2.2.2.2.2.2.1
theorem ux_vret (C : ux_C p s m args meth c cc nL own Ts none D cl tys wf A) {post : S → Prop} (hdg : decode cc pc = .ok (.return_, 1)) (h : post σ) : ux_V p l e R s m args below meth c (MQ below (va_Qv post (fun σ' t => va_P D cl (wf σ') t.heap) A) args s 0 0 A) nL D cl wf A 0 0 σ pc lv [] :=
  fun H locs ls hP hS hl => W.vret C.1 C.2.1 C.2.2.2.2.2.1 (fun t ht hW => ⟨⟨σ, rfl, h, by show va_P D cl (wf σ) t.heap; rw [ht]; exact hP⟩, hS.F ht⟩) hS.2.2 hdg C.2.2.2.2.2.2.1
theorem ux_aret {ty : FieldType} (C : ux_C p s m args meth c cc nL own Ts (some (.array ty)) D cl tys wf A) {ra : Nat} {post : S → Prop} (hdg : decode cc pc = .ok (.areturn, 1)) (h : post σ) : ux_V p l e R s m args below meth c (MQ below (va_Qr post (fun σ' a t => a = ra ∧ va_P D cl (wf σ') t.heap) A) args s 0 0 A) nL D cl wf A 0 0 σ pc lv [.ref ra] :=
  fun H locs ls hP hS hl => W.aret C.1 C.2.1 C.2.2.2.2.2.1 (Or.inr ⟨_, rfl⟩) (Or.inr ⟨_, rfl⟩) (fun t ht hW => ⟨⟨σ, ra, rfl, h, rfl, by rw [ht]; exact hP⟩, hS.F ht⟩) hS.2.2 hdg C.2.2.2.2.2.2.1
/-- a contract out of the walk of its body -/
theorem ux_ofI {y : MethodName} {ws ws' Ts : List Cond} {rm : Room} {as : List Value} {post : Int32 → S → Prop} {cc : ByteArray} {maxL : Nat} {ret : Option FieldType} {lv : List (Nat × Value)} (hy : plainName y.cls = true) (hw : ws = Cond.code y cc maxL ret :: ws') (hTs : ∀ w ∈ Ts, w ∈ ws) (hlen : (lg_sl as).length ≤ maxL) (hlv : lv_args 0 as = lv)
    (body : ∀ (p : Program) (e : Env) (s : State) (m : MethodId) (below : List Frame) (meth : Method) (c : Code), ux_C p s m as.toArray meth c cc maxL y.cls Ts ret D cl tys wf A → ux_V p l e rm s m as.toArray below meth c (MQ below (va_Qi post (fun σ' t => va_P D cl (wf σ') t.heap) A) as.toArray s 0 0 A) maxL D cl wf A 0 0 σ 0 lv []) : ux_I l D cl tys wf A y ws rm as σ post := by
  refine Met.ofW (cc := cc) (maxL := maxL) (ret := ret) hy hw ?_
  intro p e s m args below meth c s₁ B hml hv
  obtain ⟨rfl, hP, hK, hD⟩ := hv
  have hts := atoms_spec (ws := ws) B.pre
  have hown : s.vm.findClass y.cls = some m.cls := findClass_of_methodNamed B.named
  have hl := lv_entry as (n := maxL) hlen
  rw [lg_entry_eq]
  generalize (lg_sl as ++ List.replicate (maxL - (lg_sl as).length) Slot.unset).toArray = ls at hl ⊢
  rw [hlv] at hl
  exact body p e s m below meth c ⟨B.exec, B.bytes, hml, hown, fun w h => hts w (hTs w h), B.returns, B.notSynchronized, hK, hD⟩ s.heap [] ls hP va_S.rf hl
/-- a contract out of the walk of its body -/
theorem ux_ofL {y : MethodName} {ws ws' Ts : List Cond} {rm : Room} {as : List Value} {post : Int64 → S → Prop} {cc : ByteArray} {maxL : Nat} {ret : Option FieldType} {lv : List (Nat × Value)} (hy : plainName y.cls = true) (hw : ws = Cond.code y cc maxL ret :: ws') (hTs : ∀ w ∈ Ts, w ∈ ws) (hlen : (lg_sl as).length ≤ maxL) (hlv : lv_args 0 as = lv)
    (body : ∀ (p : Program) (e : Env) (s : State) (m : MethodId) (below : List Frame) (meth : Method) (c : Code), ux_C p s m as.toArray meth c cc maxL y.cls Ts ret D cl tys wf A → ux_V p l e rm s m as.toArray below meth c (MQ below (va_Ql post (fun σ' t => va_P D cl (wf σ') t.heap) A) as.toArray s 0 0 A) maxL D cl wf A 0 0 σ 0 lv []) : ux_L l D cl tys wf A y ws rm as σ post := by
  refine Met.ofW (cc := cc) (maxL := maxL) (ret := ret) hy hw ?_
  intro p e s m args below meth c s₁ B hml hv
  obtain ⟨rfl, hP, hK, hD⟩ := hv
  have hts := atoms_spec (ws := ws) B.pre
  have hown : s.vm.findClass y.cls = some m.cls := findClass_of_methodNamed B.named
  have hl := lv_entry as (n := maxL) hlen
  rw [lg_entry_eq]
  generalize (lg_sl as ++ List.replicate (maxL - (lg_sl as).length) Slot.unset).toArray = ls at hl ⊢
  rw [hlv] at hl
  exact body p e s m below meth c ⟨B.exec, B.bytes, hml, hown, fun w h => hts w (hTs w h), B.returns, B.notSynchronized, hK, hD⟩ s.heap [] ls hP va_S.rf hl
/-- a contract out of the walk of its body -/
theorem ux_ofN {y : MethodName} {ws ws' Ts : List Cond} {rm : Room} {as : List Value} {post : S → Prop} {cc : ByteArray} {maxL : Nat} {ret : Option FieldType} {lv : List (Nat × Value)} (hy : plainName y.cls = true) (hw : ws = Cond.code y cc maxL ret :: ws') (hTs : ∀ w ∈ Ts, w ∈ ws) (hlen : (lg_sl as).length ≤ maxL) (hlv : lv_args 0 as = lv)
    (body : ∀ (p : Program) (e : Env) (s : State) (m : MethodId) (below : List Frame) (meth : Method) (c : Code), ux_C p s m as.toArray meth c cc maxL y.cls Ts ret D cl tys wf A → ux_V p l e rm s m as.toArray below meth c (MQ below (va_Qv post (fun σ' t => va_P D cl (wf σ') t.heap) A) as.toArray s 0 0 A) maxL D cl wf A 0 0 σ 0 lv []) : ux_N l D cl tys wf A y ws rm as σ post := by
  refine Met.ofW (cc := cc) (maxL := maxL) (ret := ret) hy hw ?_
  intro p e s m args below meth c s₁ B hml hv
  obtain ⟨rfl, hP, hK, hD⟩ := hv
  have hts := atoms_spec (ws := ws) B.pre
  have hown : s.vm.findClass y.cls = some m.cls := findClass_of_methodNamed B.named
  have hl := lv_entry as (n := maxL) hlen
  rw [lg_entry_eq]
  generalize (lg_sl as ++ List.replicate (maxL - (lg_sl as).length) Slot.unset).toArray = ls at hl ⊢
  rw [hlv] at hl
  exact body p e s m below meth c ⟨B.exec, B.bytes, hml, hown, fun w h => hts w (hTs w h), B.returns, B.notSynchronized, hK, hD⟩ s.heap [] ls hP va_S.rf hl
/-- a contract out of the walk of its body -/
theorem ux_ofR {y : MethodName} {ws ws' Ts : List Cond} {rm : Room} {as : List Value} {ra : Nat} {post : S → Prop} {cc : ByteArray} {maxL : Nat} {ret : Option FieldType} {lv : List (Nat × Value)} (hy : plainName y.cls = true) (hw : ws = Cond.code y cc maxL ret :: ws') (hTs : ∀ w ∈ Ts, w ∈ ws) (hlen : (lg_sl as).length ≤ maxL) (hlv : lv_args 0 as = lv)
    (body : ∀ (p : Program) (e : Env) (s : State) (m : MethodId) (below : List Frame) (meth : Method) (c : Code), ux_C p s m as.toArray meth c cc maxL y.cls Ts ret D cl tys wf A → ux_V p l e rm s m as.toArray below meth c (MQ below (va_Qr post (fun σ' a t => a = ra ∧ va_P D cl (wf σ') t.heap) A) as.toArray s 0 0 A) maxL D cl wf A 0 0 σ 0 lv []) : ux_R l D cl tys wf A y ws rm as σ ra post := by
  refine Met.ofW (cc := cc) (maxL := maxL) (ret := ret) hy hw ?_
  intro p e s m args below meth c s₁ B hml hv
  obtain ⟨rfl, hP, hK, hD⟩ := hv
  have hts := atoms_spec (ws := ws) B.pre
  have hown : s.vm.findClass y.cls = some m.cls := findClass_of_methodNamed B.named
  have hl := lv_entry as (n := maxL) hlen
  rw [lg_entry_eq]
  generalize (lg_sl as ++ List.replicate (maxL - (lg_sl as).length) Slot.unset).toArray = ls at hl ⊢
  rw [hlv] at hl
  exact body p e s m below meth c ⟨B.exec, B.bytes, hml, hown, fun w h => hts w (hTs w h), B.returns, B.notSynchronized, hK, hD⟩ s.heap [] ls hP va_S.rf hl
end UXR
end
section
def pq_b (b : Bool) : Int32 := if b = true then 1 else 0
theorem pq_b_t : pq_b true = 1 := rfl
theorem pq_b_f : pq_b false = 0 := rfl
theorem pq_b0 (b : Bool) : pq_b b = 0 ↔ b = false := by cases b <;> decide
theorem pq_bn0 (b : Bool) : ¬ pq_b b = 0 ↔ b = true := by cases b <;> decide
theorem pq_b1 (b : Bool) : pq_b b = 1 ↔ b = true := by cases b <;> decide
theorem pq_b_nar (b : Bool) : vp_nar .boolean (pq_b b) = pq_b b := by cases b <;> rfl
theorem pq_b_narrow (b : Bool) : narrow .boolean (.int (pq_b b)) = .int (pq_b b) := by cases b <;> rfl
def pq_cnt (p : Nat → Bool) : Nat → Nat
  | 0 => 0
  | n + 1 => pq_cnt p n + (if p n = true then 1 else 0)
def pq_lst (p : Nat → Bool) : Nat → Option Nat
  | 0 => none
  | n + 1 => if p n = true then some n else pq_lst p n
def pq_fst (p : Nat → Bool) : Nat → Option Nat
  | 0 => none
  | n + 1 => match pq_fst p n with
    | some i => some i
    | none => if p n = true then some n else none
def pq_o : Option Nat → Int32
  | none => -1
  | some i => nI i
theorem pq_cnt_le (p : Nat → Bool) (n : Nat) : pq_cnt p n ≤ n := by
  induction n with
  | zero => exact Nat.le_refl _
  | succ n ih => simp only [pq_cnt]; split <;> omega
theorem pq_cnt_congr {p q : Nat → Bool} {n : Nat} (h : ∀ j, j < n → p j = q j) : pq_cnt p n = pq_cnt q n := by
  induction n with
  | zero => rfl
  | succ n ih => simp only [pq_cnt]; rw [ih (fun j hj => h j (by omega)), h n (by omega)]
theorem pq_cnt_zero {p : Nat → Bool} {n : Nat} (h : ∀ j, j < n → p j = false) : pq_cnt p n = 0 := by
  induction n with
  | zero => rfl
  | succ n ih => simp only [pq_cnt]; rw [ih (fun j hj => h j (by omega)), h n (by omega)]; rfl
theorem pq_cnt_tail {p : Nat → Bool} {n k : Nat} (h : ∀ j, n ≤ j → j < n + k → p j = false) : pq_cnt p (n + k) = pq_cnt p n := by
  induction k with
  | zero => rfl
  | succ k ih => show pq_cnt p (n + k + 1) = _; simp only [pq_cnt]; rw [ih (fun j h1 h2 => h j h1 (by omega)), h (n + k) (by omega) (by omega)]; rfl
theorem pq_lst_congr {p q : Nat → Bool} {n : Nat} (h : ∀ j, j < n → p j = q j) : pq_lst p n = pq_lst q n := by
  induction n with
  | zero => rfl
  | succ n ih => simp only [pq_lst]; rw [ih (fun j hj => h j (by omega)), h n (by omega)]
theorem pq_fst_congr {p q : Nat → Bool} {n : Nat} (h : ∀ j, j < n → p j = q j) : pq_fst p n = pq_fst q n := by
  induction n with
  | zero => rfl
  | succ n ih => simp only [pq_fst]; rw [ih (fun j hj => h j (by omega)), h n (by omega)]
theorem pq_lst_none {p : Nat → Bool} {n : Nat} : pq_lst p n = none ↔ ∀ j, j < n → p j = false := by
  induction n with
  | zero => simp [pq_lst]
  | succ n ih =>
    simp only [pq_lst]
    constructor
    · intro h j hj
      split at h
      · cases h
      · rcases Nat.lt_succ_iff_lt_or_eq.mp hj with h1 | h1
        · exact ih.mp h j h1
        · subst h1; simp_all
    · intro h
      rw [if_neg (by rw [h n (by omega)]; decide)]
      exact ih.mpr (fun j hj => h j (by omega))
theorem pq_lst_some {p : Nat → Bool} {n i : Nat} : pq_lst p n = some i ↔ i < n ∧ p i = true ∧ ∀ j, i < j → j < n → p j = false := by
  induction n with
  | zero => simp [pq_lst]
  | succ n ih =>
    simp only [pq_lst]
    by_cases hp : p n = true
    · rw [if_pos hp]
      constructor
      · intro h
        cases h
        exact ⟨by omega, hp, fun j h1 h2 => by omega⟩
      · rintro ⟨h1, h2, h3⟩
        by_cases e : i = n
        · rw [e]
        · have := h3 n (by omega) (by omega)
          rw [hp] at this; cases this
    · rw [if_neg hp, ih]
      constructor
      · rintro ⟨h1, h2, h3⟩
        refine ⟨by omega, h2, fun j h4 h5 => ?_⟩
        by_cases e : j = n
        · rw [e]; simpa using hp
        · exact h3 j h4 (by omega)
      · rintro ⟨h1, h2, h3⟩
        have e : i ≠ n := fun e => hp (e ▸ h2)
        exact ⟨by omega, h2, fun j h4 h5 => h3 j h4 (by omega)⟩
theorem pq_fst_none {p : Nat → Bool} {n : Nat} : pq_fst p n = none ↔ ∀ j, j < n → p j = false := by
  induction n with
  | zero => simp [pq_fst]
  | succ n ih =>
    simp only [pq_fst]
    cases hf : pq_fst p n with
    | some i =>
      constructor
      · intro h; cases h
      · intro h
        have := ih.mpr (fun j hj => h j (by omega))
        rw [hf] at this; cases this
    | none =>
      have h0 := ih.mp hf
      constructor
      · intro h j hj
        by_cases e : j = n
        · subst e
          by_cases hp : p j = true
          · simp [hp] at h
          · simpa using hp
        · exact h0 j (by omega)
      · intro h
        simp [h n (by omega)]
theorem pq_fst_some {p : Nat → Bool} {n i : Nat} : pq_fst p n = some i ↔ i < n ∧ p i = true ∧ ∀ j, j < i → p j = false := by
  induction n with
  | zero => simp [pq_fst]
  | succ n ih =>
    simp only [pq_fst]
    cases hf : pq_fst p n with
    | some k =>
      have hk := hf
      constructor
      · intro h
        cases h
        rw [hf] at ih
        obtain ⟨h1, h2, h3⟩ := ih.mp rfl
        exact ⟨by omega, h2, h3⟩
      · rintro ⟨h1, h2, h3⟩
        by_cases e : i = n
        · have h0 : pq_fst p n = none := pq_fst_none.mpr (fun j hj => h3 j (by omega))
          rw [hk] at h0; cases h0
        · have q := ih.mpr ⟨by omega, h2, h3⟩
          rw [hf] at q; exact q
    | none =>
      have h0 := pq_fst_none.mp hf
      constructor
      · intro h
        by_cases hp : p n = true
        · simp [hp] at h; subst h
          exact ⟨by omega, hp, h0⟩
        · simp [hp] at h
      · rintro ⟨h1, h2, h3⟩
        by_cases e : i = n
        · subst e; simp [h2]
        · have := h0 i (by omega)
          rw [h2] at this; cases this
theorem pq_o_m1 {x : Option Nat} (h : ∀ i, x = some i → i < 2 ^ 31) : pq_o x = -1 ↔ x = none := by
  cases x with
  | none => simp [pq_o]
  | some i =>
    simp only [pq_o]
    constructor
    · intro e
      have h1 := nI_toInt (h i rfl)
      rw [e] at h1
      have : (-1 : Int32).toInt = -1 := by decide
      omega
    · intro e; cases e
theorem pq_nI_m1 {i : Nat} (h : i < 2 ^ 31) : ¬ nI i = -1 := by
  intro e
  have h1 := nI_toInt h
  rw [e] at h1
  have : (-1 : Int32).toInt = -1 := by decide
  omega
/-- who lies on the line of t: itself, its parent, and so on up to the store -/
def pq_lin (q : Nat → Nat) : Nat → Nat → Nat → Bool
  | 0, t, u => decide (u = t)
  | f + 1, t, u => decide (u = t) || (decide (t ≠ 0) && pq_lin q f (q t) u)
def pq_on (q : Nat → Nat) (t u : Nat) : Bool := pq_lin q t t u
/-- a parent's number is smaller -/
def pq_dn (n : Nat) (q : Nat → Nat) : Prop := ∀ t, 0 < t → t ≤ n → q t < t
theorem pq_lin_0 (q : Nat → Nat) (f u : Nat) : pq_lin q f 0 u = decide (u = 0) := by cases f <;> simp [pq_lin]
theorem pq_lin_fuel {n : Nat} {q : Nat → Nat} (hq : pq_dn n q) (u : Nat) : ∀ t f, t ≤ n → t ≤ f → pq_lin q f t u = pq_lin q t t u := by
  intro t
  induction t using Nat.strongRecOn with
  | _ t ih =>
    intro f hn hf
    rcases Nat.eq_zero_or_pos t with h | h
    · subst h; rw [pq_lin_0, pq_lin_0]
    · obtain ⟨t', rfl⟩ : ∃ t', t = t' + 1 := ⟨t - 1, by omega⟩
      obtain ⟨f', rfl⟩ : ∃ f', f = f' + 1 := ⟨f - 1, by omega⟩
      have h1 := hq (t' + 1) h hn
      simp only [pq_lin]
      rw [ih (q (t' + 1)) h1 f' (by omega) (by omega), ih (q (t' + 1)) h1 t' (by omega) (by omega)]
theorem pq_on_0 (q : Nat → Nat) (u : Nat) : pq_on q 0 u = decide (u = 0) := pq_lin_0 q 0 u
theorem pq_on_s {n : Nat} {q : Nat → Nat} (hq : pq_dn n q) {t : Nat} (h : 0 < t) (hn : t ≤ n) (u : Nat) : pq_on q t u = (decide (u = t) || pq_on q (q t) u) := by
  obtain ⟨t', rfl⟩ : ∃ t', t = t' + 1 := ⟨t - 1, by omega⟩
  have h1 := hq (t' + 1) h hn
  unfold pq_on
  rw [← pq_lin_fuel hq u (q (t' + 1)) t' (by omega) (by omega)]
  simp [pq_lin]
theorem pq_on_self {n : Nat} {q : Nat → Nat} (hq : pq_dn n q) {t : Nat} (hn : t ≤ n) : pq_on q t t = true := by
  rcases Nat.eq_zero_or_pos t with h | h
  · subst h; simp [pq_on_0]
  · rw [pq_on_s hq h hn]; simp
theorem pq_on_root {n : Nat} {q : Nat → Nat} (hq : pq_dn n q) : ∀ t, t ≤ n → pq_on q t 0 = true := by
  intro t
  induction t using Nat.strongRecOn with
  | _ t ih =>
    intro hn
    rcases Nat.eq_zero_or_pos t with h | h
    · subst h; simp [pq_on_0]
    · have h1 := hq t h hn
      rw [pq_on_s hq h hn, ih (q t) h1 (by omega)]; simp
theorem pq_on_le {n : Nat} {q : Nat → Nat} (hq : pq_dn n q) : ∀ t u, t ≤ n → pq_on q t u = true → u ≤ t := by
  intro t
  induction t using Nat.strongRecOn with
  | _ t ih =>
    intro u hn hu
    rcases Nat.eq_zero_or_pos t with h | h
    · subst h; rw [pq_on_0] at hu; simpa using hu
    · have h1 := hq t h hn
      rw [pq_on_s hq h hn] at hu
      simp only [Bool.or_eq_true, decide_eq_true_eq] at hu
      rcases hu with hu | hu
      · omega
      · have := ih (q t) h1 u (by omega) hu
        omega
theorem pq_on_trans {n : Nat} {q : Nat → Nat} (hq : pq_dn n q) : ∀ t u v, t ≤ n → pq_on q t u = true → pq_on q u v = true → pq_on q t v = true := by
  intro t
  induction t using Nat.strongRecOn with
  | _ t ih =>
    intro u v hn hu hv
    rcases Nat.eq_zero_or_pos t with h | h
    · subst h; rw [pq_on_0] at hu; have : u = 0 := by simpa using hu
      subst this; exact hv
    · have h1 := hq t h hn
      rw [pq_on_s hq h hn] at hu ⊢
      simp only [Bool.or_eq_true, decide_eq_true_eq] at hu ⊢
      rcases hu with hu | hu
      · subst hu
        rw [pq_on_s hq h hn] at hv
        simpa using hv
      · exact Or.inr (ih (q t) h1 u v (by omega) hu hv)
theorem pq_on_step {n : Nat} {q : Nat → Nat} (hq : pq_dn n q) {t u : Nat} (hn : t ≤ n) (hu : pq_on q t u = true) (h0 : 0 < u) : pq_on q t (q u) = true := by
  have hle := pq_on_le hq t u hn hu
  have h1 := hq u h0 (by omega)
  refine pq_on_trans hq t u (q u) hn hu ?_
  rw [pq_on_s hq h0 (by omega), pq_on_self hq (t := q u) (by omega)]; simp
theorem pq_on_inv {n : Nat} {q : Nat → Nat} (hq : pq_dn n q) : ∀ t w, t ≤ n → pq_on q t w = true → w = t ∨ ∃ v, 0 < v ∧ v ≤ t ∧ pq_on q t v = true ∧ q v = w := by
  intro t
  induction t using Nat.strongRecOn with
  | _ t ih =>
    intro w hn hw
    rcases Nat.eq_zero_or_pos t with h | h
    · subst h; rw [pq_on_0] at hw; left; simpa using hw
    · have h1 := hq t h hn
      have hs := hw
      rw [pq_on_s hq h hn] at hs
      simp only [Bool.or_eq_true, decide_eq_true_eq] at hs
      rcases hs with hs | hs
      · exact Or.inl hs
      · right
        rcases ih (q t) h1 w (by omega) hs with e | ⟨v, v0, v1, v2, v3⟩
        · exact ⟨t, h, Nat.le_refl _, pq_on_self hq hn, e.symm⟩
        · refine ⟨v, v0, by omega, ?_, v3⟩
          rw [pq_on_s hq h hn, v2]; simp
theorem pq_on_total {n : Nat} {q : Nat → Nat} (hq : pq_dn n q) : ∀ t u v, t ≤ n → pq_on q t u = true → pq_on q t v = true → pq_on q u v = true ∨ pq_on q v u = true := by
  intro t
  induction t using Nat.strongRecOn with
  | _ t ih =>
    intro u v hn hu hv
    rcases Nat.eq_zero_or_pos t with h | h
    · subst h
      rw [pq_on_0] at hu hv
      have e1 : u = 0 := by simpa using hu
      have e2 : v = 0 := by simpa using hv
      subst e1; subst e2; left; simp [pq_on_0]
    · have h1 := hq t h hn
      have hu' := hu
      have hv' := hv
      rw [pq_on_s hq h hn] at hu' hv'
      simp only [Bool.or_eq_true, decide_eq_true_eq] at hu' hv'
      rcases hu' with e1 | e1
      · subst e1; exact Or.inl hv
      · rcases hv' with e2 | e2
        · subst e2; exact Or.inr hu
        · exact ih (q t) h1 u v (by omega) e1 e2
theorem pq_on_congr {n : Nat} {q q' : Nat → Nat} (hq : pq_dn n q) (h : ∀ t, 0 < t → t ≤ n → q' t = q t) : ∀ t u, t ≤ n → pq_on q' t u = pq_on q t u := by
  have hq' : pq_dn n q' := fun t h0 hn => by rw [h t h0 hn]; exact hq t h0 hn
  intro t
  induction t using Nat.strongRecOn with
  | _ t ih =>
    intro u hn
    rcases Nat.eq_zero_or_pos t with h0 | h0
    · subst h0; rw [pq_on_0, pq_on_0]
    · have h1 := hq t h0 hn
      rw [pq_on_s hq h0 hn, pq_on_s hq' h0 hn, h t h0 hn, ih (q t) h1 u (by omega)]
def pq_ex (n : Nat) (t : Int32) : Bool := decide (1 ≤ t) && decide (t ≤ nI n)
def pq_act (n : Nat) (st : Nat → Int32) (t : Int32) : Bool := pq_ex n t && decide (st t.toNatClampNeg = 0)
theorem pq_ex_iff {n : Nat} (hn : n < 2 ^ 31) {t : Int32} : pq_ex n t = true ↔ ∃ k, 1 ≤ k ∧ k ≤ n ∧ t = nI k := by
  unfold pq_ex
  rw [Bool.and_eq_true, decide_eq_true_eq, decide_eq_true_eq]
  constructor
  · rintro ⟨h1, h2⟩
    have h0 : ¬ t < 0 := by
      intro h
      have a1 := Int32.le_iff_toInt_le.mp h1
      have a2 := Int32.lt_iff_toInt_lt.mp h
      have e1 : (1 : Int32).toInt = 1 := by decide
      have e0 : (0 : Int32).toInt = 0 := by decide
      omega
    obtain ⟨j, hj, rfl⟩ := nI_of2 (nI_toInt hn) h0 h2
    exact ⟨j, (nI_leI (a := 1) (by omega) (by omega)).mp h1, hj, rfl⟩
  · rintro ⟨k, h1, h2, rfl⟩
    exact ⟨(nI_leI (a := 1) (by omega) (by omega)).mpr h1, (nI_leI (by omega) (by omega)).mpr h2⟩
theorem pq_act_iff {n : Nat} (hn : n < 2 ^ 31) {st : Nat → Int32} {t : Int32} : pq_act n st t = true ↔ ∃ k, 1 ≤ k ∧ k ≤ n ∧ t = nI k ∧ st k = 0 := by
  unfold pq_act
  rw [Bool.and_eq_true, pq_ex_iff hn, decide_eq_true_eq]
  constructor
  · rintro ⟨⟨k, h1, h2, rfl⟩, h3⟩
    rw [nI_clamp (by omega)] at h3
    exact ⟨k, h1, h2, rfl, h3⟩
  · rintro ⟨k, h1, h2, rfl, h3⟩
    refine ⟨⟨k, h1, h2, rfl⟩, ?_⟩
    rw [nI_clamp (by omega)]; exact h3
theorem pq_act_n {n : Nat} (hn : n < 2 ^ 31) {st : Nat → Int32} {k : Nat} (hk : k < 2 ^ 31) : pq_act n st (nI k) = (decide (1 ≤ k) && decide (k ≤ n) && decide (st k = 0)) := by
  rw [Bool.eq_iff_iff, pq_act_iff hn]
  simp only [Bool.and_eq_true, decide_eq_true_eq]
  constructor
  · rintro ⟨j, h1, h2, h3, h4⟩
    have e := (nI_eq hk (by omega)).mp h3
    subst e
    exact ⟨⟨h1, h2⟩, h4⟩
  · rintro ⟨⟨h1, h2⟩, h4⟩
    exact ⟨k, h1, h2, rfl, h4⟩
/-- the places below i of which P says so have v -/
def pq_msk (P : Nat → Bool) (v : Int32) (f : Nat → Int32) (i : Nat) : Nat → Int32 := fun r => if r < i ∧ P r = true then v else f r
theorem pq_msk_at (P : Nat → Bool) (v : Int32) (f : Nat → Int32) (i : Nat) : pq_msk P v f i i = f i := if_neg (fun h => Nat.lt_irrefl _ h.1)
theorem pq_msk_id {P : Nat → Bool} {v : Int32} {f : Nat → Int32} {i : Nat} (h : ∀ j, j < i → P j = false) : pq_msk P v f i = f := by
  funext r
  unfold pq_msk
  rw [if_neg]
  rintro ⟨h1, h2⟩
  rw [h r h1] at h2; cases h2
theorem pq_msk_f {P : Nat → Bool} {v : Int32} {f : Nat → Int32} {i : Nat} (h : P i = false) : pq_msk P v f i = pq_msk P v f (i + 1) := by
  funext r
  unfold pq_msk
  by_cases e : r = i
  · subst e
    rw [if_neg (fun q => Nat.lt_irrefl _ q.1), if_neg (fun q => by rw [h] at q; cases q.2)]
  · have e1 : (r < i ∧ P r = true) ↔ (r < i + 1 ∧ P r = true) := ⟨fun q => ⟨by omega, q.2⟩, fun q => ⟨by omega, q.2⟩⟩
    by_cases q : r < i ∧ P r = true
    · rw [if_pos q, if_pos (e1.mp q)]
    · rw [if_neg q, if_neg (fun z => q (e1.mpr z))]
theorem pq_msk_t {P : Nat → Bool} {v : Int32} {f : Nat → Int32} {i : Nat} (h : P i = true) : upd (pq_msk P v f i) i v = pq_msk P v f (i + 1) := by
  funext r
  unfold pq_msk upd
  by_cases e : r = i
  · subst e
    rw [if_pos rfl, if_pos ⟨by omega, h⟩]
  · rw [if_neg e]
    show (if r < i ∧ P r = true then v else f r) = _
    have e1 : (r < i ∧ P r = true) ↔ (r < i + 1 ∧ P r = true) := ⟨fun q => ⟨by omega, q.2⟩, fun q => ⟨by omega, q.2⟩⟩
    by_cases q : r < i ∧ P r = true
    · rw [if_pos q, if_pos (e1.mp q)]
    · rw [if_neg q, if_neg (fun z => q (e1.mpr z))]
/-- the least of o over the places of which p says so; 0 where there is none -/
def pq_lw (p : Nat → Bool) (o : Nat → Int32) : Nat → Int32
  | 0 => 0
  | n + 1 => if (p n && (decide (pq_lw p o n = 0) || decide (o n < pq_lw p o n))) = true then o n else pq_lw p o n
theorem pq_cnt_f {p : Nat → Bool} {n : Nat} (h : p n = false) : pq_cnt p (n + 1) = pq_cnt p n := by simp only [pq_cnt]; rw [h]; rfl
theorem pq_cnt_t {p : Nat → Bool} {n : Nat} (h : p n = true) : pq_cnt p (n + 1) = pq_cnt p n + 1 := by simp only [pq_cnt]; rw [h]; rfl
end
section
/-- arrays of ints, counters, the one array of longs -/
abbrev ST : Type := (Nat → Nat → Int32) × (Nat → Nat) × (Nat → Int64)
def sa (σ : ST) (k : Nat) (f : Nat → Int32) : ST := (fun j => if j = k then f else σ.1 j, σ.2.1, σ.2.2)
def sf (σ : ST) (k n : Nat) : ST := (σ.1, fun j => if j = k then n else σ.2.1 j, σ.2.2)
def sb (σ : ST) (f : Nat → Int64) : ST := (σ.1, σ.2.1, f)
def wU (ad : Nat → Nat) (cA : Nat → ClassId) (σ : ST) : va_W := [(ad 0, .inr (0, [.ref (ad 8), .ref (ad 9), .ref (ad 10), .int (nI (σ.2.1 0))])), (ad 1, .inr (1, [.ref (ad 19), .ref (ad 20), .ref (ad 21), .int (nI (σ.2.1 3))])), (ad 2, .inr (2, [.ref (ad 11), .int (nI (σ.2.1 1))])), (ad 3, .inr (3, [.ref (ad 22), .int (nI (σ.2.1 4))])), (ad 4, .inr (4, [.ref (ad 25)])), (ad 5, .inr (5, [.ref (ad 23), .ref (ad 24)])), (ad 6, .inr (6, [.ref (ad 12), .ref (ad 13), .ref (ad 14), .ref (ad 15), .ref (ad 16), .int (nI (σ.2.1 2)), .ref (ad 17), .ref (ad 18)])), (ad 7, .inr (7, [.ref (ad 0), .ref (ad 2), .ref (ad 6), .ref (ad 1), .ref (ad 3), .ref (ad 5), .ref (ad 4)])), (ad 8, .inl (cA 0, 151, .inl (σ.1 0))), (ad 9, .inl (cA 1, 151, .inl (σ.1 1))), (ad 10, .inl (cA 2, 151, .inl (σ.1 2))), (ad 11, .inl (cA 3, 512, .inl (σ.1 3))), (ad 12, .inl (cA 4, 512, .inl (σ.1 4))), (ad 13, .inl (cA 5, 512, .inl (σ.1 5))), (ad 14, .inl (cA 6, 512, .inl (σ.1 6))), (ad 15, .inl (cA 7, 512, .inl (σ.1 7))), (ad 16, .inl (cA 8, 512, .inl (σ.1 8))), (ad 17, .inl (cA 9, 512, .inl (σ.1 9))), (ad 18, .inl (cA 10, 512, .inl (σ.1 10))), (ad 19, .inl (cA 11, 512, .inl (σ.1 11))), (ad 20, .inl (cA 12, 512, .inl (σ.1 12))), (ad 21, .inl (cA 13, 512, .inl (σ.1 13))), (ad 22, .inl (cA 14, 512, .inl (σ.1 14))), (ad 23, .inl (cA 15, 151, .inl (σ.1 15))), (ad 24, .inl (cA 16, 151, .inl (σ.1 16))), (ad 25, .inl (cA 17, 453, .inr (.inl σ.2.2)))]
def tyU (cA : Nat → ClassId) : List (ClassId × FieldType) := [(cA 0, .int), (cA 1, .int), (cA 2, .boolean), (cA 3, .int), (cA 4, .int), (cA 5, .int), (cA 6, .int), (cA 7, .boolean), (cA 8, .int), (cA 9, .int), (cA 10, .int), (cA 11, .int), (cA 12, .int), (cA 13, .int), (cA 14, .int), (cA 15, .int), (cA 16, .int), (cA 17, .long)]
theorem awU_0 (ad : Nat → Nat) (cA : Nat → ClassId) (σ : ST) (f : Nat → Int32) : (wU ad cA σ).set 8 (ad 8, .inl (cA 0, 151, .inl f)) = wU ad cA (sa σ 0 f) := rfl
theorem awU_1 (ad : Nat → Nat) (cA : Nat → ClassId) (σ : ST) (f : Nat → Int32) : (wU ad cA σ).set 9 (ad 9, .inl (cA 1, 151, .inl f)) = wU ad cA (sa σ 1 f) := rfl
theorem awU_2 (ad : Nat → Nat) (cA : Nat → ClassId) (σ : ST) (f : Nat → Int32) : (wU ad cA σ).set 10 (ad 10, .inl (cA 2, 151, .inl f)) = wU ad cA (sa σ 2 f) := rfl
theorem awU_3 (ad : Nat → Nat) (cA : Nat → ClassId) (σ : ST) (f : Nat → Int32) : (wU ad cA σ).set 11 (ad 11, .inl (cA 3, 512, .inl f)) = wU ad cA (sa σ 3 f) := rfl
theorem awU_4 (ad : Nat → Nat) (cA : Nat → ClassId) (σ : ST) (f : Nat → Int32) : (wU ad cA σ).set 12 (ad 12, .inl (cA 4, 512, .inl f)) = wU ad cA (sa σ 4 f) := rfl
theorem awU_5 (ad : Nat → Nat) (cA : Nat → ClassId) (σ : ST) (f : Nat → Int32) : (wU ad cA σ).set 13 (ad 13, .inl (cA 5, 512, .inl f)) = wU ad cA (sa σ 5 f) := rfl
theorem awU_6 (ad : Nat → Nat) (cA : Nat → ClassId) (σ : ST) (f : Nat → Int32) : (wU ad cA σ).set 14 (ad 14, .inl (cA 6, 512, .inl f)) = wU ad cA (sa σ 6 f) := rfl
theorem awU_7 (ad : Nat → Nat) (cA : Nat → ClassId) (σ : ST) (f : Nat → Int32) : (wU ad cA σ).set 15 (ad 15, .inl (cA 7, 512, .inl f)) = wU ad cA (sa σ 7 f) := rfl
theorem awU_8 (ad : Nat → Nat) (cA : Nat → ClassId) (σ : ST) (f : Nat → Int32) : (wU ad cA σ).set 16 (ad 16, .inl (cA 8, 512, .inl f)) = wU ad cA (sa σ 8 f) := rfl
theorem awU_9 (ad : Nat → Nat) (cA : Nat → ClassId) (σ : ST) (f : Nat → Int32) : (wU ad cA σ).set 17 (ad 17, .inl (cA 9, 512, .inl f)) = wU ad cA (sa σ 9 f) := rfl
theorem awU_10 (ad : Nat → Nat) (cA : Nat → ClassId) (σ : ST) (f : Nat → Int32) : (wU ad cA σ).set 18 (ad 18, .inl (cA 10, 512, .inl f)) = wU ad cA (sa σ 10 f) := rfl
theorem awU_11 (ad : Nat → Nat) (cA : Nat → ClassId) (σ : ST) (f : Nat → Int32) : (wU ad cA σ).set 19 (ad 19, .inl (cA 11, 512, .inl f)) = wU ad cA (sa σ 11 f) := rfl
theorem awU_12 (ad : Nat → Nat) (cA : Nat → ClassId) (σ : ST) (f : Nat → Int32) : (wU ad cA σ).set 20 (ad 20, .inl (cA 12, 512, .inl f)) = wU ad cA (sa σ 12 f) := rfl
theorem awU_13 (ad : Nat → Nat) (cA : Nat → ClassId) (σ : ST) (f : Nat → Int32) : (wU ad cA σ).set 21 (ad 21, .inl (cA 13, 512, .inl f)) = wU ad cA (sa σ 13 f) := rfl
theorem awU_14 (ad : Nat → Nat) (cA : Nat → ClassId) (σ : ST) (f : Nat → Int32) : (wU ad cA σ).set 22 (ad 22, .inl (cA 14, 512, .inl f)) = wU ad cA (sa σ 14 f) := rfl
theorem awU_15 (ad : Nat → Nat) (cA : Nat → ClassId) (σ : ST) (f : Nat → Int32) : (wU ad cA σ).set 23 (ad 23, .inl (cA 15, 151, .inl f)) = wU ad cA (sa σ 15 f) := rfl
theorem awU_16 (ad : Nat → Nat) (cA : Nat → ClassId) (σ : ST) (f : Nat → Int32) : (wU ad cA σ).set 24 (ad 24, .inl (cA 16, 151, .inl f)) = wU ad cA (sa σ 16 f) := rfl
theorem awU_17 (ad : Nat → Nat) (cA : Nat → ClassId) (σ : ST) (f : Nat → Int64) : (wU ad cA σ).set 25 (ad 25, .inl (cA 17, 453, .inr (.inl f))) = wU ad cA (sb σ f) := rfl
theorem fwU_0 (ad : Nat → Nat) (cA : Nat → ClassId) (σ : ST) (n : Nat) : (wU ad cA σ).set 0 (ad 0, .inr (0, List.set [.ref (ad 8), .ref (ad 9), .ref (ad 10), .int (nI (σ.2.1 0))] 3 (.int (nI n)))) = wU ad cA (sf σ 0 n) := rfl
theorem fiU_0 : ux_FI TX0 4 3 tyX0 := ⟨tyX0_ok, nmX0, rfl, by decide +kernel⟩
theorem fwU_1 (ad : Nat → Nat) (cA : Nat → ClassId) (σ : ST) (n : Nat) : (wU ad cA σ).set 2 (ad 2, .inr (2, List.set [.ref (ad 11), .int (nI (σ.2.1 1))] 1 (.int (nI n)))) = wU ad cA (sf σ 1 n) := rfl
theorem fiU_1 : ux_FI TX2 2 1 tyX2 := ⟨tyX2_ok, nmX2, rfl, by decide +kernel⟩
theorem fwU_2 (ad : Nat → Nat) (cA : Nat → ClassId) (σ : ST) (n : Nat) : (wU ad cA σ).set 6 (ad 6, .inr (6, List.set [.ref (ad 12), .ref (ad 13), .ref (ad 14), .ref (ad 15), .ref (ad 16), .int (nI (σ.2.1 2)), .ref (ad 17), .ref (ad 18)] 5 (.int (nI n)))) = wU ad cA (sf σ 2 n) := rfl
theorem fiU_2 : ux_FI TX6 8 5 tyX6 := ⟨tyX6_ok, nmX6, rfl, by decide +kernel⟩
theorem fwU_3 (ad : Nat → Nat) (cA : Nat → ClassId) (σ : ST) (n : Nat) : (wU ad cA σ).set 1 (ad 1, .inr (1, List.set [.ref (ad 19), .ref (ad 20), .ref (ad 21), .int (nI (σ.2.1 3))] 3 (.int (nI n)))) = wU ad cA (sf σ 3 n) := rfl
theorem fiU_3 : ux_FI TX1 4 3 tyX1 := ⟨tyX1_ok, nmX1, rfl, by decide +kernel⟩
theorem fwU_4 (ad : Nat → Nat) (cA : Nat → ClassId) (σ : ST) (n : Nat) : (wU ad cA σ).set 3 (ad 3, .inr (3, List.set [.ref (ad 22), .int (nI (σ.2.1 4))] 1 (.int (nI n)))) = wU ad cA (sf σ 4 n) := rfl
theorem fiU_4 : ux_FI TX3 2 1 tyX3 := ⟨tyX3_ok, nmX3, rfl, by decide +kernel⟩
def wM (ad : Nat → Nat) (cA : Nat → ClassId) (σ : ST) : va_W := [(ad 0, .inr (8, [.ref (ad 1), .int (nI (σ.2.1 0)), .ref (ad 2), .ref (ad 3), .ref (ad 4), .ref (ad 5), .ref (ad 6), .int (nI (σ.2.1 1)), .ref (ad 7), .ref (ad 8), .ref (ad 9), .ref (ad 10), .ref (ad 11), .ref (ad 12), .int (nI (σ.2.1 2)), .ref (ad 13)])), (ad 1, .inl (cA 0, 520, .inl (σ.1 0))), (ad 2, .inl (cA 1, 78520, .inl (σ.1 1))), (ad 3, .inl (cA 2, 78520, .inl (σ.1 2))), (ad 4, .inl (cA 3, 78520, .inl (σ.1 3))), (ad 5, .inl (cA 4, 151, .inl (σ.1 4))), (ad 6, .inl (cA 5, 151, .inl (σ.1 5))), (ad 7, .inl (cA 6, 151, .inl (σ.1 6))), (ad 8, .inl (cA 7, 151, .inl (σ.1 7))), (ad 9, .inl (cA 8, 520, .inl (σ.1 8))), (ad 10, .inl (cA 9, 520, .inl (σ.1 9))), (ad 11, .inl (cA 10, 270400, .inl (σ.1 10))), (ad 12, .inl (cA 11, 270400, .inl (σ.1 11))), (ad 13, .inl (cA 12, 151, .inl (σ.1 12)))]
def tyM (cA : Nat → ClassId) : List (ClassId × FieldType) := [(cA 0, .int), (cA 1, .byte), (cA 2, .int), (cA 3, .byte), (cA 4, .int), (cA 5, .int), (cA 6, .int), (cA 7, .boolean), (cA 8, .int), (cA 9, .boolean), (cA 10, .byte), (cA 11, .int), (cA 12, .boolean)]
theorem awM_0 (ad : Nat → Nat) (cA : Nat → ClassId) (σ : ST) (f : Nat → Int32) : (wM ad cA σ).set 1 (ad 1, .inl (cA 0, 520, .inl f)) = wM ad cA (sa σ 0 f) := rfl
theorem awM_1 (ad : Nat → Nat) (cA : Nat → ClassId) (σ : ST) (f : Nat → Int32) : (wM ad cA σ).set 2 (ad 2, .inl (cA 1, 78520, .inl f)) = wM ad cA (sa σ 1 f) := rfl
theorem awM_2 (ad : Nat → Nat) (cA : Nat → ClassId) (σ : ST) (f : Nat → Int32) : (wM ad cA σ).set 3 (ad 3, .inl (cA 2, 78520, .inl f)) = wM ad cA (sa σ 2 f) := rfl
theorem awM_3 (ad : Nat → Nat) (cA : Nat → ClassId) (σ : ST) (f : Nat → Int32) : (wM ad cA σ).set 4 (ad 4, .inl (cA 3, 78520, .inl f)) = wM ad cA (sa σ 3 f) := rfl
theorem awM_4 (ad : Nat → Nat) (cA : Nat → ClassId) (σ : ST) (f : Nat → Int32) : (wM ad cA σ).set 5 (ad 5, .inl (cA 4, 151, .inl f)) = wM ad cA (sa σ 4 f) := rfl
theorem awM_5 (ad : Nat → Nat) (cA : Nat → ClassId) (σ : ST) (f : Nat → Int32) : (wM ad cA σ).set 6 (ad 6, .inl (cA 5, 151, .inl f)) = wM ad cA (sa σ 5 f) := rfl
theorem awM_6 (ad : Nat → Nat) (cA : Nat → ClassId) (σ : ST) (f : Nat → Int32) : (wM ad cA σ).set 7 (ad 7, .inl (cA 6, 151, .inl f)) = wM ad cA (sa σ 6 f) := rfl
theorem awM_7 (ad : Nat → Nat) (cA : Nat → ClassId) (σ : ST) (f : Nat → Int32) : (wM ad cA σ).set 8 (ad 8, .inl (cA 7, 151, .inl f)) = wM ad cA (sa σ 7 f) := rfl
theorem awM_8 (ad : Nat → Nat) (cA : Nat → ClassId) (σ : ST) (f : Nat → Int32) : (wM ad cA σ).set 9 (ad 9, .inl (cA 8, 520, .inl f)) = wM ad cA (sa σ 8 f) := rfl
theorem awM_9 (ad : Nat → Nat) (cA : Nat → ClassId) (σ : ST) (f : Nat → Int32) : (wM ad cA σ).set 10 (ad 10, .inl (cA 9, 520, .inl f)) = wM ad cA (sa σ 9 f) := rfl
theorem awM_10 (ad : Nat → Nat) (cA : Nat → ClassId) (σ : ST) (f : Nat → Int32) : (wM ad cA σ).set 11 (ad 11, .inl (cA 10, 270400, .inl f)) = wM ad cA (sa σ 10 f) := rfl
theorem awM_11 (ad : Nat → Nat) (cA : Nat → ClassId) (σ : ST) (f : Nat → Int32) : (wM ad cA σ).set 12 (ad 12, .inl (cA 11, 270400, .inl f)) = wM ad cA (sa σ 11 f) := rfl
theorem awM_12 (ad : Nat → Nat) (cA : Nat → ClassId) (σ : ST) (f : Nat → Int32) : (wM ad cA σ).set 13 (ad 13, .inl (cA 12, 151, .inl f)) = wM ad cA (sa σ 12 f) := rfl
theorem fwM_0 (ad : Nat → Nat) (cA : Nat → ClassId) (σ : ST) (n : Nat) : (wM ad cA σ).set 0 (ad 0, .inr (8, List.set [.ref (ad 1), .int (nI (σ.2.1 0)), .ref (ad 2), .ref (ad 3), .ref (ad 4), .ref (ad 5), .ref (ad 6), .int (nI (σ.2.1 1)), .ref (ad 7), .ref (ad 8), .ref (ad 9), .ref (ad 10), .ref (ad 11), .ref (ad 12), .int (nI (σ.2.1 2)), .ref (ad 13)] 1 (.int (nI n)))) = wM ad cA (sf σ 0 n) := rfl
theorem fiM_0 : ux_FI TX8 16 1 tyX8 := ⟨tyX8_ok, nmX8, rfl, by decide +kernel⟩
theorem fwM_1 (ad : Nat → Nat) (cA : Nat → ClassId) (σ : ST) (n : Nat) : (wM ad cA σ).set 0 (ad 0, .inr (8, List.set [.ref (ad 1), .int (nI (σ.2.1 0)), .ref (ad 2), .ref (ad 3), .ref (ad 4), .ref (ad 5), .ref (ad 6), .int (nI (σ.2.1 1)), .ref (ad 7), .ref (ad 8), .ref (ad 9), .ref (ad 10), .ref (ad 11), .ref (ad 12), .int (nI (σ.2.1 2)), .ref (ad 13)] 7 (.int (nI n)))) = wM ad cA (sf σ 1 n) := rfl
theorem fiM_1 : ux_FI TX8 16 7 tyX8 := ⟨tyX8_ok, nmX8, rfl, by decide +kernel⟩
theorem fwM_2 (ad : Nat → Nat) (cA : Nat → ClassId) (σ : ST) (n : Nat) : (wM ad cA σ).set 0 (ad 0, .inr (8, List.set [.ref (ad 1), .int (nI (σ.2.1 0)), .ref (ad 2), .ref (ad 3), .ref (ad 4), .ref (ad 5), .ref (ad 6), .int (nI (σ.2.1 1)), .ref (ad 7), .ref (ad 8), .ref (ad 9), .ref (ad 10), .ref (ad 11), .ref (ad 12), .int (nI (σ.2.1 2)), .ref (ad 13)] 14 (.int (nI n)))) = wM ad cA (sf σ 2 n) := rfl
theorem fiM_2 : ux_FI TX8 16 14 tyX8 := ⟨tyX8_ok, nmX8, rfl, by decide +kernel⟩
theorem sa_eq (σ : ST) (k : Nat) (f : Nat → Int32) : (sa σ k f).1 k = f := if_pos rfl
theorem sa_ne (σ : ST) {k j : Nat} (f : Nat → Int32) (h : j ≠ k) : (sa σ k f).1 j = σ.1 j := if_neg h
theorem sa_f (σ : ST) (k : Nat) (f : Nat → Int32) : (sa σ k f).2 = σ.2 := rfl
theorem sf_a (σ : ST) (k n : Nat) : (sf σ k n).1 = σ.1 := rfl
theorem sf_eq (σ : ST) (k n : Nat) : (sf σ k n).2.1 k = n := if_pos rfl
theorem sf_ne (σ : ST) {k j : Nat} (n : Nat) (h : j ≠ k) : (sf σ k n).2.1 j = σ.2.1 j := if_neg h
theorem sa_sa (σ : ST) (k : Nat) (f g : Nat → Int32) : sa (sa σ k f) k g = sa σ k g := by
  unfold sa; congr 1; funext j; dsimp only; split <;> rfl
theorem sa_self (σ : ST) (k : Nat) : sa σ k (σ.1 k) = σ := by
  unfold sa; refine Prod.ext ?_ rfl; funext j; dsimp only; split
  · next h => rw [h]
  · rfl
theorem sb_sb (σ : ST) (f g : Nat → Int64) : sb (sb σ f) g = sb σ g := rfl
theorem sb_self (σ : ST) : sb σ σ.2.2 = σ := rfl
theorem upd_eq (f : Nat → Int32) (k : Nat) (x : Int32) : upd f k x k = x := if_pos rfl
theorem upd_ne (f : Nat → Int32) {k j : Nat} (x : Int32) (h : j ≠ k) : upd f k x j = f j := if_neg h
theorem upd_at (f : Nat → Int32) (k j : Nat) (x : Int32) : upd f k x j = if j = k then x else f j := rfl
theorem pq_inc (i : Nat) : nI i + Int32.ofInt 1 = nI (i + 1) := nI_1 i
theorem pq_dec (i : Nat) : nI (i + 1) + Int32.ofInt (-1) = nI i := pk_m1 i
theorem pq_nI0 : (0 : Int32) = nI 0 := rfl
theorem pq_nI1 : (1 : Int32) = nI 1 := rfl
/-- a row of the held keys is in the way of one that wants slot x for y, off the line that is drawn -/
def pq_way (σ : ST) (x y : Int32) (r : Nat) : Bool := decide (σ.1 12 r = x) && !decide (σ.1 11 r = -1) && decide (σ.1 2 (σ.1 11 r).toNatClampNeg = 0) && (decide (y = 2) || decide (σ.1 13 r = 2))
def pq_seen (σ : ST) (s r : Nat) : Bool := !decide (σ.1 4 r = -1) && !decide (σ.1 2 (σ.1 4 r).toNatClampNeg = 0) && decide (σ.1 5 r = nI s)
def pq_own (σ : ST) (t : Int32) (s r : Nat) : Bool := decide (σ.1 4 r = t) && decide (σ.1 5 r = nI s)
def pq_same (σ : ST) : Option Nat → Option Nat → Bool
  | none, none => true
  | some a, some b => decide (σ.1 7 a = σ.1 7 b) && (!decide (σ.1 7 a = 0) || decide (σ.1 6 a = σ.1 6 b))
  | _, _ => false
theorem pq_cmp_pos {x y : Int64} : 0 < lg_cmp x y ↔ y < x := by
  unfold lg_cmp
  split
  · next h => exact ⟨fun _ => h, fun _ => by decide⟩
  · next h =>
    split
    · exact ⟨fun q => absurd q (by decide), fun q => absurd q h⟩
    · exact ⟨fun q => absurd q (by decide), fun q => absurd q h⟩
def u_has (σ : ST) : Option Nat → Bool
  | none => false
  | some r => decide (σ.1 7 r = 0)
def pq_fv (σ : ST) : Option Nat → Int64
  | none => 1099511627776
  | some r => (σ.1 6 r).toInt64
end
section
theorem ts_bit {w : Int64} {s : UInt64} {j : Nat} (hj : j < 64) (hs : s.toNat = j) : ((w.toUInt64 >>> s).toInt64 &&& 1) = 0 ↔ w.toBitVec.getLsbD j = false := by
  have e : (w.toUInt64 >>> s).toInt64.toBitVec = w.toBitVec >>> j := by
    apply BitVec.eq_of_toNat_eq
    show (w.toUInt64 >>> s).toNat = _
    rw [UInt64.toNat_shiftRight, hs, Nat.mod_eq_of_lt hj, BitVec.toNat_ushiftRight]
    rfl
  rw [← Int64.toBitVec_inj, Int64.toBitVec_and, e]
  show w.toBitVec >>> j &&& 1#64 = 0#64 ↔ _
  constructor
  · intro h
    have t := congrArg (fun x => x.getLsbD 0) h
    simpa using t
  · intro h
    apply BitVec.eq_of_getLsbD_eq
    intro i hi
    cases i with
    | zero => simp [h]
    | succ i => simp
theorem wb_cu : ∀ k, k < 64 → ((nI k).toInt64.toUInt64 &&& Int64.toUInt64 63) = UInt64.ofNat k := by decide +kernel
theorem u_tn {n : Nat} (h : n < 2 ^ 64) : (UInt64.ofNat n).toNat = n := Nat.mod_eq_of_lt h
theorem pq_shl1 : ∀ k, k < 64 → ((1 : Int64) <<< ((nI k).toInt64 &&& 63)).toBitVec = BitVec.twoPow 64 k := by decide +kernel
theorem pq_cmp_zero {x y : Int64} : lg_cmp x y = 0 ↔ x = y := by
  unfold lg_cmp
  split
  · next h =>
    constructor
    · intro q; exact absurd q (by decide)
    · intro q; subst q; exact (Int64.lt_irrefl h).elim
  · split
    · next h => exact ⟨fun _ => h, fun _ => rfl⟩
    · next h => exact ⟨fun q => absurd q (by decide), fun q => absurd q h⟩
/-- one bit for each pair -/
def pq_bit (B : Nat → Int64) (a b : Nat) : Bool := (B (a * 3 + b / 64)).toBitVec.getLsbD (b % 64)
theorem pq_bit_leads {B : Nat → Int64} {a b : Nat} : lg_cmp (((B (a * 3 + b / 64)).toUInt64 >>> ((nI (b % 64)).toInt64.toUInt64 &&& Int64.toUInt64 63)).toInt64 &&& 1) 0 = 0 ↔ pq_bit B a b = false := by
  have hk : b % 64 < 64 := Nat.mod_lt _ (by omega)
  rw [pq_cmp_zero, wb_cu _ hk]
  exact ts_bit hk (u_tn (by omega))
theorem pq_bit_leadsN {B : Nat → Int64} {a b : Nat} : ¬ lg_cmp (((B (a * 3 + b / 64)).toUInt64 >>> ((nI (b % 64)).toInt64.toUInt64 &&& Int64.toUInt64 63)).toInt64 &&& 1) 0 = 0 ↔ pq_bit B a b = true := by
  rw [pq_bit_leads]; simp
theorem pq_bit_join {a b c d : Nat} (hd : d ≤ 150) (hb : b ≤ 150) (B : Nat → Int64) : pq_bit (vp_updL B (a * 3 + b / 64) (B (a * 3 + b / 64) ||| ((1 : Int64) <<< ((nI (b % 64)).toInt64 &&& 63)))) c d = (pq_bit B c d || (decide (c = a) && decide (d = b))) := by
  have hk : b % 64 < 64 := Nat.mod_lt _ (by omega)
  unfold pq_bit vp_updL
  by_cases e : c * 3 + d / 64 = a * 3 + b / 64
  · rw [if_pos e, Int64.toBitVec_or, pq_shl1 _ hk, BitVec.getLsbD_or, BitVec.getLsbD_twoPow, e]
    have hc : c = a := by omega
    subst hc
    congr 1
    rw [decide_eq_true hk, decide_eq_true (rfl : c = c), Bool.true_and, Bool.true_and]
    exact decide_eq_decide.mpr ⟨fun q => by omega, fun q => by rw [q]⟩
  · rw [if_neg e]
    have : (decide (c = a) && decide (d = b)) = false := by
      rw [Bool.and_eq_false_iff]
      by_cases e1 : c = a
      · right; exact decide_eq_false (fun e2 => e (by rw [e1, e2]))
      · left; exact decide_eq_false e1
    rw [this, Bool.or_false]
/-- who leads to whom by way of 1 .. k -/
def pq_cl (E : Nat → Nat → Bool) : Nat → Nat → Nat → Bool
  | 0, a, b => E a b
  | k + 1, a, b => pq_cl E k a b || (pq_cl E k a (k + 1) && pq_cl E k (k + 1) b)
theorem pq_cl_row (E : Nat → Nat → Bool) (k b : Nat) : pq_cl E (k + 1) (k + 1) b = pq_cl E k (k + 1) b := by
  simp only [pq_cl]
  cases pq_cl E k (k + 1) b <;> cases pq_cl E k (k + 1) (k + 1) <;> rfl
end
section
/-- the parents as numbers -/
def uQ (σ : ST) : Nat → Nat := fun u => (σ.1 0 u).toNatClampNeg
def uF (σ : ST) : Prop := σ.2.1 0 ≤ 150 ∧ ∀ u, 1 ≤ u → u ≤ σ.2.1 0 → σ.1 0 u = nI (uQ σ u) ∧ uQ σ u < u
def uH (σ : ST) : Prop := σ.2.1 3 ≤ 512 ∧ ∀ r, r < σ.2.1 3 → σ.1 11 r = -1 ∨ ∃ o, o ≤ σ.2.1 0 ∧ σ.1 11 r = nI o
def uW (σ : ST) : Prop := σ.2.1 2 ≤ 512 ∧ ∀ r, r < σ.2.1 2 → (σ.1 4 r = -1 ∨ ∃ o, o ≤ σ.2.1 0 ∧ σ.1 4 r = nI o) ∧ ∃ s, s < 512 ∧ σ.1 5 r = nI s
/-- the same but for what is only a sheet to draw on -/
def uEq (σ σ' : ST) : Prop := σ'.2.1 = σ.2.1 ∧ ∀ j, j ≠ 2 → j ≠ 9 → j ≠ 10 → σ'.1 j = σ.1 j
theorem uEq.refl (σ : ST) : uEq σ σ := ⟨rfl, fun _ _ _ _ => rfl⟩
theorem uEq.trans {a b c : ST} (h1 : uEq a b) (h2 : uEq b c) : uEq a c := ⟨h2.1.trans h1.1, fun j q1 q2 q3 => (h2.2 j q1 q2 q3).trans (h1.2 j q1 q2 q3)⟩
theorem uEq.sa2 {σ τ : ST} (h : uEq σ τ) (f : Nat → Int32) : uEq σ (sa τ 2 f) := ⟨h.1, fun j q1 q2 q3 => (if_neg q1).trans (h.2 j q1 q2 q3)⟩
theorem uEq.sa9 {σ τ : ST} (h : uEq σ τ) (f : Nat → Int32) : uEq σ (sa τ 9 f) := ⟨h.1, fun j q1 q2 q3 => (if_neg q2).trans (h.2 j q1 q2 q3)⟩
theorem uEq.sa10 {σ τ : ST} (h : uEq σ τ) (f : Nat → Int32) : uEq σ (sa τ 10 f) := ⟨h.1, fun j q1 q2 q3 => (if_neg q3).trans (h.2 j q1 q2 q3)⟩
theorem uEq.sb {σ τ : ST} (h : uEq σ τ) (f : Nat → Int64) : uEq σ (sb τ f) := h
theorem uEq.sa {σ τ : ST} (h : uEq σ τ) (k : Nat) (f : Nat → Int32) : uEq (sa σ k f) (sa τ k f) := by
  refine ⟨h.1, fun j q1 q2 q3 => ?_⟩
  show (if j = k then f else τ.1 j) = (if j = k then f else σ.1 j)
  split
  · rfl
  · exact h.2 j q1 q2 q3
theorem uEq.sf {σ τ : ST} (h : uEq σ τ) (k n : Nat) : uEq (sf σ k n) (sf τ k n) := by
  refine ⟨?_, h.2⟩
  funext j
  show (if j = k then n else τ.2.1 j) = (if j = k then n else σ.2.1 j)
  rw [h.1]
theorem uF_dn {σ : ST} (h : uF σ) : pq_dn (σ.2.1 0) (uQ σ) := fun t h0 hn => (h.2 t h0 hn).2
theorem pq_lw_congr {p q : Nat → Bool} {o : Nat → Int32} {n : Nat} (h : ∀ j, j < n → p j = q j) : pq_lw p o n = pq_lw q o n := by
  induction n with
  | zero => rfl
  | succ n ih => simp only [pq_lw]; rw [ih (fun j hj => h j (by omega)), h n (by omega)]
/-- a row of the held keys is in the way of t, that wants slot x for y -/
def u_way (σ : ST) (t : Nat) (x y : Int32) (r : Nat) : Bool := decide (σ.1 12 r = x) && !decide (σ.1 11 r = -1) && !pq_on (uQ σ) t (σ.1 11 r).toNatClampNeg && (decide (y = 2) || decide (σ.1 13 r = 2))
def u_least (σ : ST) (t : Nat) (x y : Int32) : Int32 := pq_lw (u_way σ t x y) (σ.1 11) (σ.2.1 3)
/-- what t sees of slot s: the newest row on its line -/
def u_sees (σ : ST) (t s r : Nat) : Bool := !decide (σ.1 4 r = -1) && pq_on (uQ σ) t (σ.1 4 r).toNatClampNeg && decide (σ.1 5 r = nI s)
def u_row (σ : ST) (t s : Nat) : Option Nat := pq_lst (u_sees σ t s) (σ.2.1 2)
def u_val (σ : ST) : Option Nat → Int64
  | none => 1099511627776
  | some r => if σ.1 7 r = 0 then (σ.1 6 r).toInt64 else 1099511627776
def u_find (σ : ST) (key : Int32) : Option Nat := pq_fst (fun j => decide (σ.1 3 j = key)) (σ.2.1 1)
def u_seen (σ : ST) (t : Nat) (key : Int32) : Int64 := match u_find σ key with
  | none => 1099511627776
  | some s => u_val σ (u_row σ t s)
theorem u_way_eq {σ : ST} {f : Nat → Int32} {t : Nat} (hH : uH σ) (hf : ∀ u, u ≤ σ.2.1 0 → f u = pq_b (pq_on (uQ σ) t u)) (hn : σ.2.1 0 ≤ 150) (x y : Int32) {r : Nat} (hr : r < σ.2.1 3) : pq_way (sa σ 2 f) x y r = u_way σ t x y r := by
  show (decide (σ.1 12 r = x) && !decide (σ.1 11 r = -1) && decide (f (σ.1 11 r).toNatClampNeg = 0) && (decide (y = 2) || decide (σ.1 13 r = 2))) = _
  unfold u_way
  rcases hH.2 r hr with e | ⟨o, o1, o2⟩
  · rw [decide_eq_true e]; simp
  · rw [o2, nI_clamp (by omega), hf o o1]
    congr 2
    cases pq_on (uQ σ) t o <;> rfl
theorem u_sees_eq {σ : ST} {f : Nat → Int32} {t : Nat} (hW : uW σ) (hf : ∀ u, u ≤ σ.2.1 0 → f u = pq_b (pq_on (uQ σ) t u)) (hn : σ.2.1 0 ≤ 150) (s : Nat) {r : Nat} (hr : r < σ.2.1 2) : pq_seen (sa σ 2 f) s r = u_sees σ t s r := by
  show (!decide (σ.1 4 r = -1) && !decide (f (σ.1 4 r).toNatClampNeg = 0) && decide (σ.1 5 r = nI s)) = _
  unfold u_sees
  rcases (hW.2 r hr).1 with e | ⟨o, o1, o2⟩
  · rw [decide_eq_true e]; simp
  · rw [o2, nI_clamp (by omega), hf o o1]
    congr 2
    cases pq_on (uQ σ) t o <;> rfl
theorem u_row_lt {σ : ST} {t s r : Nat} (h : u_row σ t s = some r) : r < σ.2.1 2 := (pq_lst_some.mp h).1
theorem u_find_lt {σ : ST} {key : Int32} {s : Nat} (h : u_find σ key = some s) : s < σ.2.1 1 := (pq_fst_some.mp h).1
end
section
def u_reg (σ : ST) (key : Int32) : ST × Nat := match u_find σ key with
  | some i => (σ, i)
  | none => (sf (sa σ 3 (upd (σ.1 3) (σ.2.1 1) key)) 1 (σ.2.1 1 + 1), σ.2.1 1)
def u_hrow (σ : ST) (t x : Int32) : Option Nat := pq_fst (fun r => decide (σ.1 11 r = t) && decide (σ.1 12 r = x)) (σ.2.1 3)
def u_hold (σ : ST) (t x y : Int32) : ST := match u_hrow σ t x with
  | some q => sa σ 13 (upd (σ.1 13) q (if σ.1 13 q < y then y else σ.1 13 q))
  | none => sf (sa (sa (sa σ 11 (upd (σ.1 11) (σ.2.1 3) t)) 12 (upd (σ.1 12) (σ.2.1 3) x)) 13 (upd (σ.1 13) (σ.2.1 3) y)) 3 (σ.2.1 3 + 1)
def u_kind (σ : ST) (t x : Int32) : Int32 := match u_hrow σ t x with
  | none => 0
  | some q => σ.1 13 q
def u_wish (σ : ST) (k : Nat) (x y : Int32) : ST := sa (sa σ 15 (upd (σ.1 15) k x)) 16 (upd (σ.1 16) k y)
def u_calm (σ : ST) (k : Nat) : ST := sa σ 16 (upd (σ.1 16) k 0)
def u_write (σ : ST) (t x v : Int32) (b : Bool) (z : Int32) : ST := sf (sa (sa (sa (sa (sa σ 4 (upd (σ.1 4) (σ.2.1 2) t)) 5 (upd (σ.1 5) (σ.2.1 2) x)) 6 (upd (σ.1 6) (σ.2.1 2) v)) 7 (upd (σ.1 7) (σ.2.1 2) (pq_b b))) 8 (upd (σ.1 8) (σ.2.1 2) z)) 2 (σ.2.1 2 + 1)
def u_act (σ : ST) (t : Int32) : Bool := pq_act (σ.2.1 0) (σ.1 1) t
def u_open (σ : ST) (t : Int32) : Int32 × ST := if ((decide (t = 0) || u_act σ t) && !decide (σ.2.1 0 = 150)) = true then (nI (σ.2.1 0 + 1), sa (sa (sf σ 0 (σ.2.1 0 + 1)) 0 (upd (σ.1 0) (σ.2.1 0 + 1) t)) 1 (upd (σ.1 1) (σ.2.1 0 + 1) 0)) else (-1, σ)
def u_get (σ : ST) (t key : Int32) : Int64 × ST :=
  if t = 0 then (u_seen σ 0 key, σ) else if u_act σ t = true then
    (if u_least (u_reg σ key).1 t.toNatClampNeg (nI (u_reg σ key).2) 1 = 0 then
      (u_seen (u_hold (u_calm (u_reg σ key).1 t.toNatClampNeg) t (nI (u_reg σ key).2) 1) t.toNatClampNeg key, u_hold (u_calm (u_reg σ key).1 t.toNatClampNeg) t (nI (u_reg σ key).2) 1)
    else (2199023255552, u_wish (u_reg σ key).1 t.toNatClampNeg (nI (u_reg σ key).2) 1))
  else (4398046511104, σ)
def u_change (σ : ST) (t key v : Int32) (b : Bool) : Int32 × ST :=
  if u_act σ t = true then
    (if u_least (u_reg σ key).1 t.toNatClampNeg (nI (u_reg σ key).2) 2 = 0 then
      (if (!decide (u_seen (u_calm (u_reg σ key).1 t.toNatClampNeg) t.toNatClampNeg key = 1099511627776)) = b then 1 else 0, u_write (u_hold (u_calm (u_reg σ key).1 t.toNatClampNeg) t (nI (u_reg σ key).2) 2) t (nI (u_reg σ key).2) v b (nI (σ.2.1 4)))
    else (-2, u_wish (u_reg σ key).1 t.toNatClampNeg (nI (u_reg σ key).2) 2))
  else (-1, σ)
def u_marks (σ : ST) (t : Int32) : Nat := pq_cnt (fun r => decide (σ.1 14 r = t)) (σ.2.1 4)
def u_mark (σ : ST) (t : Int32) : Int32 × ST := if u_act σ t = true then (nI (u_marks σ t), sf (sa σ 14 (upd (σ.1 14) (σ.2.1 4) t)) 4 (σ.2.1 4 + 1)) else (-1, σ)
def u_kids (σ : ST) (k : Nat) : Nat := pq_cnt (fun u => decide (k < u) && decide (σ.1 0 u = nI k) && decide (σ.1 1 u = 0)) (σ.2.1 0 + 1)
def u_can (σ : ST) (t : Int32) : Bool := u_act σ t && decide (u_kids σ t.toNatClampNeg = 0)
def u_keys (σ : ST) (t : Int32) : Nat := pq_cnt (fun s => (pq_lst (pq_own σ t s) (σ.2.1 2)).isSome) 512
def u_holds (σ : ST) (t x : Int32) : Nat := pq_cnt (fun r => decide (σ.1 11 r = t) && decide (σ.1 13 r = x)) (σ.2.1 3)
def u_state (σ : ST) (t : Int32) : Int32 := if pq_ex (σ.2.1 0) t = true then σ.1 1 t.toNatClampNeg else -1
def u_told (σ : ST) (t w : Int32) : Int32 := if pq_ex (σ.2.1 0) t = true then
  (if w = 0 then σ.1 0 t.toNatClampNeg else if w = 1 then nI (u_kids σ t.toNatClampNeg) else if w = 2 then nI (u_marks σ t) else if w = 3 then nI (u_keys σ t) else if w = 4 then nI (u_holds σ t 1) else if w = 5 then nI (u_holds σ t 2) else -1) else -1
def u_held (σ : ST) (t key : Int32) : Int32 := if u_act σ t = true then u_kind σ t (pq_o (u_find σ key)) else -1
def u_blocker (σ : ST) (t key : Int32) (b : Bool) : Int32 := if u_act σ t = true then u_least σ t.toNatClampNeg (pq_o (u_find σ key)) (if b = true then 2 else 1) else -1
def u_waits (σ : ST) (t : Int32) : Int32 := if u_act σ t = true then (if σ.1 16 t.toNatClampNeg = 0 then 0 else u_least σ t.toNatClampNeg (σ.1 15 t.toNatClampNeg) (σ.1 16 t.toNatClampNeg)) else -1
def u_end (σ : ST) (k : Nat) (x : Int32) : ST := sa (sa (sa (sa (sa σ 1 (upd (σ.1 1) k x)) 4 (pq_msk (fun r => decide (σ.1 4 r = nI k) && !decide (σ.1 8 r < 0)) (-1) (σ.1 4) (σ.2.1 2))) 11 (pq_msk (fun r => decide (σ.1 11 r = nI k)) (-1) (σ.1 11) (σ.2.1 3))) 14 (pq_msk (fun r => decide (σ.1 14 r = nI k)) (-1) (σ.1 14) (σ.2.1 4))) 16 (upd (σ.1 16) k 0)
def u_size (σ : ST) (t : Int32) : Int32 := if (decide (t = 0) || u_act σ t) = true then nI (pq_cnt (fun s => u_has σ (u_row σ t.toNatClampNeg s)) (σ.2.1 1)) else -1
def u_nx (σ : ST) (t : Nat) (key : Int32) : Nat → Int64
  | 0 => 1099511627776
  | s + 1 => if (decide (key < σ.1 3 s) && u_has σ (u_row σ t s)) = true then (if (σ.1 3 s).toInt64 < u_nx σ t key s then (σ.1 3 s).toInt64 else u_nx σ t key s) else u_nx σ t key s
def u_next (σ : ST) (t key : Int32) : Int64 := if (decide (t = 0) || u_act σ t) = true then u_nx σ t.toNatClampNeg key (σ.2.1 1) else 4398046511104
def u_sm (σ : ST) (t : Nat) (lo hi : Int32) : Nat → Int64
  | 0 => 0
  | s + 1 => if (!decide (σ.1 3 s < lo) && !decide (hi < σ.1 3 s) && u_has σ (u_row σ t s)) = true then u_sm σ t lo hi s + u_val σ (u_row σ t s) else u_sm σ t lo hi s
def u_sum (σ : ST) (t lo hi : Int32) : Int64 := if (decide (t = 0) || u_act σ t) = true then u_sm σ t.toNatClampNeg lo hi (σ.2.1 1) else 4398046511104
theorem u_act_iff {σ : ST} (hF : uF σ) {t : Int32} : u_act σ t = true ↔ ∃ k, 1 ≤ k ∧ k ≤ σ.2.1 0 ∧ t = nI k ∧ σ.1 1 k = 0 := pq_act_iff (Nat.lt_of_le_of_lt hF.1 (by decide))
theorem u_asked_iff {σ : ST} (hF : uF σ) {t : Int32} : (decide (t = 0) || u_act σ t) = true ↔ ∃ k, k ≤ σ.2.1 0 ∧ t = nI k ∧ (k = 0 ∨ σ.1 1 k = 0) := by
  rw [Bool.or_eq_true, decide_eq_true_eq, u_act_iff hF]
  constructor
  · rintro (h | ⟨k, h1, h2, h3, h4⟩)
    · exact ⟨0, by omega, h, Or.inl rfl⟩
    · exact ⟨k, h2, h3, Or.inr h4⟩
  · rintro ⟨k, h2, h3, h4⟩
    by_cases e : k = 0
    · subst e; exact Or.inl h3
    · exact Or.inr ⟨k, by omega, h2, h3, h4.resolve_left e⟩
section UCONG
variable {σ σ' : ST}
theorem uEq.a (h : uEq σ σ') (j : Nat) (hj : decide (j ≠ 2 ∧ j ≠ 9 ∧ j ≠ 10) = true) : σ'.1 j = σ.1 j := h.2 j (of_decide_eq_true hj).1 (of_decide_eq_true hj).2.1 (of_decide_eq_true hj).2.2
theorem uEq.Q (h : uEq σ σ') : uQ σ' = uQ σ := by unfold uQ; rw [h.a 0 rfl]
theorem uEq.F (h : uEq σ σ') (hF : uF σ) : uF σ' := by unfold uF; rw [h.Q, h.a 0 rfl, h.1]; exact hF
theorem uEq.H (h : uEq σ σ') (hF : uH σ) : uH σ' := by unfold uH; rw [h.a 11 rfl, h.1]; exact hF
theorem uEq.W (h : uEq σ σ') (hF : uW σ) : uW σ' := by unfold uW; rw [h.a 4 rfl, h.a 5 rfl, h.1]; exact hF
theorem uEq.least (h : uEq σ σ') : u_least σ' = u_least σ := by
  funext t x y
  unfold u_least
  rw [h.a 11 rfl, h.1, show u_way σ' t x y = u_way σ t x y by funext r; unfold u_way; rw [h.Q, h.a 11 rfl, h.a 12 rfl, h.a 13 rfl]]
theorem uEq.row (h : uEq σ σ') : u_row σ' = u_row σ := by
  funext t s
  unfold u_row
  rw [h.1, show u_sees σ' t s = u_sees σ t s by funext r; unfold u_sees; rw [h.Q, h.a 4 rfl, h.a 5 rfl]]
theorem uEq.find (h : uEq σ σ') : u_find σ' = u_find σ := by funext key; unfold u_find; rw [h.a 3 rfl, h.1]
theorem uEq.val (h : uEq σ σ') : u_val σ' = u_val σ := by funext x; cases x <;> simp only [u_val]; rw [h.a 7 rfl, h.a 6 rfl]
theorem uEq.seen (h : uEq σ σ') : u_seen σ' = u_seen σ := by funext t key; unfold u_seen; rw [h.find, h.val, h.row]
theorem uEq.act (h : uEq σ σ') : u_act σ' = u_act σ := by funext t; unfold u_act; rw [h.a 1 rfl, h.1]
theorem uEq.hrow (h : uEq σ σ') : u_hrow σ' = u_hrow σ := by funext t x; unfold u_hrow; rw [h.a 11 rfl, h.a 12 rfl, h.1]
theorem uEq.hold (h : uEq σ σ') (t x y : Int32) : uEq (u_hold σ t x y) (u_hold σ' t x y) := by
  unfold u_hold
  rw [h.hrow, h.a 11 rfl, h.a 12 rfl, h.a 13 rfl, h.1]
  split
  · exact h.sa 13 _
  · exact (((h.sa 11 _).sa 12 _).sa 13 _).sf 3 _
theorem uEq.calm (h : uEq σ σ') (k : Nat) : uEq (u_calm σ k) (u_calm σ' k) := by unfold u_calm; rw [h.a 16 rfl]; exact h.sa 16 _
theorem uEq.wish (h : uEq σ σ') (k : Nat) (x y : Int32) : uEq (u_wish σ k x y) (u_wish σ' k x y) := by unfold u_wish; rw [h.a 15 rfl, h.a 16 rfl]; exact (h.sa 15 _).sa 16 _
theorem uEq.write (h : uEq σ σ') (t x v : Int32) (b : Bool) (z : Int32) : uEq (u_write σ t x v b z) (u_write σ' t x v b z) := by
  unfold u_write
  rw [h.a 4 rfl, h.a 5 rfl, h.a 6 rfl, h.a 7 rfl, h.a 8 rfl, h.1]
  exact (((((h.sa 4 _).sa 5 _).sa 6 _).sa 7 _).sa 8 _).sf 2 _
end UCONG
end
section
/-- one row for each holder and key -/
def uU (σ : ST) : Prop := ∀ r q, r < σ.2.1 3 → q < σ.2.1 3 → σ.1 11 r = σ.1 11 q → ¬ σ.1 11 r = -1 → σ.1 12 r = σ.1 12 q → r = q
def u_hm (σ : ST) (a b : Int32) : Nat → Bool := fun r => decide (σ.1 11 r = a) && (u_hrow σ b (σ.1 12 r)).isNone
def u_kd (σ : ST) (a b : Int32) (i : Nat) : Nat → Int32 := fun r => if r < σ.2.1 3 ∧ σ.1 11 r = b then (match pq_fst (fun q => decide (σ.1 11 q = a) && decide (σ.1 12 q = σ.1 12 r)) i with
  | none => σ.1 13 r
  | some q => if σ.1 13 r < σ.1 13 q then σ.1 13 q else σ.1 13 r) else σ.1 13 r
def u_hand (σ : ST) (a b : Int32) : ST := sa (sa σ 11 (pq_msk (u_hm σ a b) b (σ.1 11) (σ.2.1 3))) 13 (u_kd σ a b (σ.2.1 3))
theorem u_kd_0 (σ : ST) (a b : Int32) : u_kd σ a b 0 = σ.1 13 := by
  funext r
  unfold u_kd
  split <;> rfl
theorem pq_fst_f {p : Nat → Bool} {n : Nat} (h : p n = false) : pq_fst p (n + 1) = pq_fst p n := by
  simp only [pq_fst]
  cases pq_fst p n with
  | some i => rfl
  | none => simp [h]
theorem u_kd_f {σ : ST} {a b : Int32} {i : Nat} (h : ∀ r, r < σ.2.1 3 → σ.1 11 r = b → ¬ (σ.1 11 i = a ∧ σ.1 12 i = σ.1 12 r)) : u_kd σ a b i = u_kd σ a b (i + 1) := by
  funext r
  unfold u_kd
  by_cases c : r < σ.2.1 3 ∧ σ.1 11 r = b
  · rw [if_pos c, if_pos c, pq_fst_f (n := i)]
    have h1 := h r c.1 c.2
    by_cases e : σ.1 11 i = a
    · rw [decide_eq_false (fun e2 => h1 ⟨e, e2⟩)]; simp
    · rw [decide_eq_false e]; rfl
  · rw [if_neg c, if_neg c]
theorem u_kd_at {σ : ST} {a b : Int32} (hU : uU σ) (ha : ¬ a = -1) {i r : Nat} (hi : i < σ.2.1 3) (hia : σ.1 11 i = a) (hs : σ.1 12 r = σ.1 12 i) : u_kd σ a b i r = σ.1 13 r := by
  unfold u_kd
  by_cases c : r < σ.2.1 3 ∧ σ.1 11 r = b
  · rw [if_pos c]
    have : pq_fst (fun q => decide (σ.1 11 q = a) && decide (σ.1 12 q = σ.1 12 r)) i = none := by
      rw [pq_fst_none]
      intro j hj
      by_cases e : σ.1 11 j = a
      · by_cases e2 : σ.1 12 j = σ.1 12 r
        · have := hU j i (by omega) hi (e.trans hia.symm) (by rw [e]; exact ha) (e2.trans hs)
          omega
        · rw [decide_eq_false e2]; simp
      · rw [decide_eq_false e]; rfl
    rw [this]
  · rw [if_neg c]
theorem u_kd_t {σ : ST} {a b : Int32} (hU : uU σ) (ha : ¬ a = -1) (hb : ¬ b = -1) {i o : Nat} (hi : i < σ.2.1 3) (hia : σ.1 11 i = a) (ho : o < σ.2.1 3) (hob : σ.1 11 o = b) (hs : σ.1 12 o = σ.1 12 i) : upd (u_kd σ a b i) o (if σ.1 13 o < σ.1 13 i then σ.1 13 i else σ.1 13 o) = u_kd σ a b (i + 1) := by
  funext r
  rw [upd_at]
  by_cases e : r = o
  · rw [if_pos e, e]
    unfold u_kd
    rw [if_pos (show o < σ.2.1 3 ∧ σ.1 11 o = b from ⟨ho, hob⟩)]
    have hn : pq_fst (fun q => decide (σ.1 11 q = a) && decide (σ.1 12 q = σ.1 12 o)) (i + 1) = some i := by
      rw [pq_fst_some]
      refine ⟨by omega, by rw [decide_eq_true hia, decide_eq_true hs.symm]; rfl, fun j hj => ?_⟩
      by_cases e1 : σ.1 11 j = a
      · by_cases e2 : σ.1 12 j = σ.1 12 o
        · have := hU j i (by omega) hi (e1.trans hia.symm) (by rw [e1]; exact ha) (e2.trans hs)
          omega
        · rw [decide_eq_false e2]; simp
      · rw [decide_eq_false e1]; rfl
    rw [hn]
  · rw [if_neg e]
    unfold u_kd
    by_cases c : r < σ.2.1 3 ∧ σ.1 11 r = b
    · rw [if_pos c, if_pos c, pq_fst_f (n := i)]
      by_cases e2 : σ.1 12 i = σ.1 12 r
      · exact absurd (hU r o c.1 ho (c.2.trans hob.symm) (by rw [c.2]; exact hb) (e2.symm.trans hs.symm)) e
      · rw [decide_eq_false e2]; simp
    · rw [if_neg c, if_neg c]
theorem u_hand_find {σ : ST} {a b : Int32} (hU : uU σ) (ha : ¬ a = -1) {i : Nat} (hi : i < σ.2.1 3) (hia : σ.1 11 i = a) : pq_fst (fun r => decide (pq_msk (u_hm σ a b) b (σ.1 11) i r = b) && decide (σ.1 12 r = σ.1 12 i)) (σ.2.1 3) = u_hrow σ b (σ.1 12 i) := by
  unfold u_hrow
  refine pq_fst_congr (fun r hr => ?_)
  by_cases e : σ.1 12 r = σ.1 12 i
  · congr 1
    have : pq_msk (u_hm σ a b) b (σ.1 11) i r = σ.1 11 r := by
      unfold pq_msk
      rw [if_neg]
      rintro ⟨h1, h2⟩
      unfold u_hm at h2
      rw [Bool.and_eq_true, decide_eq_true_eq] at h2
      have := hU r i hr hi (h2.1.trans hia.symm) (by rw [h2.1]; exact ha) e
      omega
    rw [this]
  · rw [decide_eq_false e]; simp
theorem u_reg_F {σ : ST} {key : Int32} (h : uF σ) : uF (u_reg σ key).1 := by unfold u_reg; split <;> exact h
theorem u_reg_H {σ : ST} {key : Int32} (h : uH σ) : uH (u_reg σ key).1 := by unfold u_reg; split <;> exact h
theorem u_reg_W {σ : ST} {key : Int32} (h : uW σ) : uW (u_reg σ key).1 := by unfold u_reg; split <;> exact h
theorem u_reg_c (σ : ST) (key : Int32) (j : Nat) (hj : j ≠ 1) : (u_reg σ key).1.2.1 j = σ.2.1 j := by
  unfold u_reg; split
  · rfl
  · exact if_neg hj
theorem u_reg_k (σ : ST) (key : Int32) : (u_reg σ key).1.2.1 1 ≤ σ.2.1 1 + 1 ∧ (u_reg σ key).2 < (u_reg σ key).1.2.1 1 := by
  unfold u_reg; split
  · next i hi => exact ⟨Nat.le_succ _, u_find_lt hi⟩
  · exact ⟨Nat.le_refl _, Nat.lt_succ_self _⟩
theorem u_reg_of {σ σ' : ST} {key r : Int32} (h : (∃ i, pq_fst (fun j => decide (σ.1 3 j = key)) (σ.2.1 1) = some i ∧ r = nI i ∧ σ = σ') ∨ (pq_fst (fun j => decide (σ.1 3 j = key)) (σ.2.1 1) = none ∧ r = nI (σ.2.1 1) ∧ σ' = sf (sa σ 3 (upd (σ.1 3) (σ.2.1 1) key)) 1 (σ.2.1 1 + 1))) : r = nI (u_reg σ key).2 ∧ σ' = (u_reg σ key).1 := by
  unfold u_reg u_find
  rcases h with ⟨i, h1, h2, h3⟩ | ⟨h1, h2, h3⟩
  · rw [h1]; exact ⟨h2, h3.symm⟩
  · rw [h1]; exact ⟨h2, h3⟩
theorem u_hold_of {σ σ' : ST} {t x y : Int32} (h : (∃ q, pq_fst (fun r => decide (σ.1 11 r = t) && decide (σ.1 12 r = x)) (σ.2.1 3) = some q ∧ σ' = sa σ 13 (upd (σ.1 13) q (if σ.1 13 q < y then y else σ.1 13 q))) ∨ (pq_fst (fun r => decide (σ.1 11 r = t) && decide (σ.1 12 r = x)) (σ.2.1 3) = none ∧ σ' = sf (sa (sa (sa σ 11 (upd (σ.1 11) (σ.2.1 3) t)) 12 (upd (σ.1 12) (σ.2.1 3) x)) 13 (upd (σ.1 13) (σ.2.1 3) y)) 3 (σ.2.1 3 + 1))) : σ' = u_hold σ t x y := by
  unfold u_hold u_hrow
  rcases h with ⟨q, h1, h2⟩ | ⟨h1, h2⟩
  · rw [h1]; exact h2
  · rw [h1]; exact h2
theorem u_hold_F {σ : ST} {t x y : Int32} (h : uF σ) : uF (u_hold σ t x y) := by unfold u_hold; split <;> exact h
theorem u_hold_W {σ : ST} {t x y : Int32} (h : uW σ) : uW (u_hold σ t x y) := by unfold u_hold; split <;> exact h
theorem u_hold_c (σ : ST) (t x y : Int32) (j : Nat) (hj : j ≠ 3) : (u_hold σ t x y).2.1 j = σ.2.1 j := by
  unfold u_hold; split
  · rfl
  · exact if_neg hj
theorem ux_swap (σ : ST) (f g h : Nat → Int32) : sa (sa (sa σ 11 f) 13 g) 11 h = sa (sa σ 11 h) 13 g := by
  unfold sa
  refine Prod.ext ?_ rfl
  funext j
  dsimp only
  by_cases e1 : j = 11
  · subst e1; rfl
  · rw [if_neg e1, if_neg e1, if_neg e1]
end
section
def u_left (σ : ST) (u : Nat) : Bool := u_act σ (nI u) && !(decide (σ.1 0 u = 0) || u_act σ (σ.1 0 u))
def u_ab (σ : ST) (k : Nat) : Nat → Nat × ST
  | 0 => (1, u_end σ k 2)
  | j + 1 => if u_left (u_ab σ k j).2 (k + 1 + j) = true then ((u_ab σ k j).1 + 1, u_end (u_ab σ k j).2 (k + 1 + j) 2) else u_ab σ k j
def u_abort (σ : ST) (t : Int32) : Int32 × ST := if u_act σ t = true then (nI (u_ab σ t.toNatClampNeg (σ.2.1 0 - t.toNatClampNeg)).1, (u_ab σ t.toNatClampNeg (σ.2.1 0 - t.toNatClampNeg)).2) else (-1, σ)
def u_hw (σ : ST) (t p : Int32) : ST := sa (sa σ 4 (pq_msk (fun r => decide (σ.1 4 r = t)) p (σ.1 4) (σ.2.1 2))) 8 (pq_msk (fun r => decide (σ.1 4 r = t)) (nI (σ.2.1 4)) (σ.1 8) (σ.2.1 2))
def u_hh (σ : ST) (t p : Int32) : ST := if p = 0 then σ else u_hand σ t p
def u_commit (σ : ST) (t : Int32) : Int32 × ST := if u_can σ t = true then (nI (u_keys σ t), u_end (u_hh (u_hw σ t (σ.1 0 t.toNatClampNeg)) t (σ.1 0 t.toNatClampNeg)) t.toNatClampNeg 1) else (-1, σ)
def u_mrow (σ : ST) (t x : Int32) : Option Nat := pq_fst (fun r => decide (σ.1 14 r = t) && decide (nI (pq_cnt (fun r => decide (σ.1 14 r = t)) r) = x)) (σ.2.1 4)
def u_undo (σ : ST) (t : Int32) (z : Int32) : ST := sa σ 4 (pq_msk (fun r => decide (σ.1 4 r = t) && !decide (σ.1 8 r < z)) (-1) (σ.1 4) (σ.2.1 2))
def u_mdrop (σ : ST) (t : Int32) (a : Nat) : ST := sa σ 14 (pq_msk (fun r => decide (a ≤ r) && decide (σ.1 14 r = t)) (-1) (σ.1 14) (σ.2.1 4))
def u_diff (σ : ST) (t z : Int32) : Nat := pq_cnt (fun s => !pq_same σ (pq_lst (pq_own σ t s) (σ.2.1 2)) (pq_lst (pq_own (u_undo σ t z) t s) (σ.2.1 2))) 512
def u_back (σ : ST) (t x : Int32) : Int32 × ST := if u_can σ t = true then (match u_mrow σ t x with
  | none => (-1, σ)
  | some r => (nI (u_diff σ t (nI (r + 1))), u_undo (u_mdrop σ t (r + 1)) t (nI (r + 1)))) else (-1, σ)
def u_edge (σ : ST) (a b : Nat) : Bool := !decide (σ.1 16 a = 0) && (pq_fst (fun r => u_way σ a (σ.1 15 a) (σ.1 16 a) r && decide (σ.1 11 r = nI b)) (σ.2.1 3)).isSome
def u_ring (σ : ST) : Int32 := match pq_fst (fun j => pq_cl (u_edge σ) (σ.2.1 0) (j + 1) (j + 1)) (σ.2.1 0) with
  | none => 0
  | some j => nI (j + 1)
theorem pq_b_inj (a b : Bool) : pq_b a = pq_b b ↔ a = b := by cases a <;> cases b <;> decide
theorem u_end_c (σ : ST) (k : Nat) (x : Int32) : (u_end σ k x).2.1 = σ.2.1 := rfl
theorem u_ab_c (σ : ST) (k j : Nat) : (u_ab σ k j).2.2.1 = σ.2.1 := by
  induction j with
  | zero => rfl
  | succ j ih =>
    simp only [u_ab]
    split
    · exact ih
    · exact ih
section UCONG
variable {σ σ' : ST}
theorem uEq.end (h : uEq σ σ') (k : Nat) (x : Int32) : uEq (u_end σ k x) (u_end σ' k x) := by
  unfold u_end
  rw [h.a 1 rfl, h.a 4 rfl, h.a 8 rfl, h.a 11 rfl, h.a 14 rfl, h.a 16 rfl, h.1]
  exact ((((h.sa 1 _).sa 4 _).sa 11 _).sa 14 _).sa 16 _
theorem uEq.hand (h : uEq σ σ') (a b : Int32) : uEq (u_hand σ a b) (u_hand σ' a b) := by
  unfold u_hand u_kd u_hm
  rw [h.hrow, h.a 11 rfl, h.a 12 rfl, h.a 13 rfl, h.1]
  exact (h.sa 11 _).sa 13 _
theorem uEq.U (h : uEq σ σ') (hU : uU σ) : uU σ' := by unfold uU; rw [h.a 11 rfl, h.a 12 rfl, h.1]; exact hU
theorem uEq.hw (h : uEq σ σ') (t p : Int32) : uEq (u_hw σ t p) (u_hw σ' t p) := by
  unfold u_hw
  rw [h.a 4 rfl, h.a 8 rfl, h.1]
  exact (h.sa 4 _).sa 8 _
end UCONG
end
section
theorem hiX2_count_2 : ∀ w ∈ wsX20, w ∈ wsX2_count := by decide +kernel
theorem flX2_count_15 : ux_F wsX2_count RX2 15 RX2 TX2 2 1 := ⟨hiX2_count_2, by decide, by decide +kernel⟩
theorem hiX2_at_2 : ∀ w ∈ wsX20, w ∈ wsX2_at := by decide +kernel
theorem flX2_at_9 : ux_F wsX2_at RX2 9 RX2 TX2 2 0 := ⟨hiX2_at_2, by decide, by decide +kernel⟩
theorem hiX2_find_2 : ∀ w ∈ wsX20, w ∈ wsX2_find := by decide +kernel
theorem flX2_find_15 : ux_F wsX2_find RX2 15 RX2 TX2 2 1 := ⟨hiX2_find_2, by decide, by decide +kernel⟩
theorem flX2_find_9 : ux_F wsX2_find RX2 9 RX2 TX2 2 0 := ⟨hiX2_find_2, by decide, by decide +kernel⟩
theorem hiX2_findOrAdd_2 : ∀ w ∈ wsX20, w ∈ wsX2_findOrAdd := by decide +kernel
theorem flX2_findOrAdd_15 : ux_F wsX2_findOrAdd RX2 15 RX2 TX2 2 1 := ⟨hiX2_findOrAdd_2, by decide, by decide +kernel⟩
theorem flX2_findOrAdd_9 : ux_F wsX2_findOrAdd RX2 9 RX2 TX2 2 0 := ⟨hiX2_findOrAdd_2, by decide, by decide +kernel⟩
theorem gkX2_findOrAdd_19 : ux_G wsX2_findOrAdd RX2 19 RX2 yX2_find wsX2_find 1 := ⟨gX2_findOrAdd_X2_find, by decide +kernel⟩
set_option maxHeartbeats 4000000 in
set_option maxRecDepth 100000 in
theorem c_X2_count (l : Launch) (D : va_G) (ad : Nat → Nat) (cA : Nat → ClassId) (A : Nat → Prop) (σ : ST) : ux_I l D vwCl (tyU cA) (wU ad cA) A yX2_count wsX2_count (ux_rm 0) [.ref (ad 2)] σ (fun r σ' => r = nI (σ.2.1 1) ∧ σ = σ') := by
  refine ux_ofI (cc := cX2_count) (maxL := 1) (ret := (some .int)) (Ts := wsX2_count) (lv := [(0, .ref (ad 2))]) (by decide) rfl (fun _ h => h) (Nat.le_of_ble_eq_true rfl) rfl ?_
  intro p e s m below meth c C
  refine ux_aload_n C dX2_count_0 0 rfl ?_
  refine ux_get C flX2_count_15 2 rfl rfl rfl dX2_count_1 ?_
  exact ux_iret C dX2_count_4 (⟨rfl, rfl⟩)
set_option maxHeartbeats 4000000 in
set_option maxRecDepth 100000 in
theorem c_X2_at (l : Launch) (D : va_G) (ad : Nat → Nat) (cA : Nat → ClassId) (A : Nat → Prop) (σ : ST) (k : Nat) (hk : k < 512) : ux_I l D vwCl (tyU cA) (wU ad cA) A yX2_at wsX2_at (ux_rm 0) [.ref (ad 2), .int (nI k)] σ (fun r σ' => r = σ.1 3 k ∧ σ = σ') := by
  refine ux_ofI (cc := cX2_at) (maxL := 2) (ret := (some .int)) (Ts := wsX2_at) (lv := [(0, .ref (ad 2)), (1, .int (nI k))]) (by decide) rfl (fun _ h => h) (Nat.le_of_ble_eq_true rfl) rfl ?_
  intro p e s m below meth c C
  refine ux_aload_n C dX2_at_0 0 rfl ?_
  refine ux_get C flX2_at_9 2 rfl rfl rfl dX2_at_1 ?_
  refine ux_iload_n C dX2_at_4 1 rfl ?_
  refine ux_iald C 11 3 (_) rfl rfl (rfl) (by omega) (by decide) dX2_at_5 ?_
  exact ux_iret C dX2_at_6 (⟨rfl, rfl⟩)
set_option maxHeartbeats 4000000 in
set_option maxRecDepth 100000 in
theorem c_X2_find (l : Launch) (D : va_G) (ad : Nat → Nat) (cA : Nat → ClassId) (A : Nat → Prop) (σ : ST) (key : Int32) (hk : σ.2.1 1 ≤ 512) : ux_I l D vwCl (tyU cA) (wU ad cA) A yX2_find wsX2_find (ux_rm 0) [.ref (ad 2), .int key] σ (fun r σ' => r = pq_o (pq_fst (fun j => decide (σ.1 3 j = key)) (σ.2.1 1)) ∧ σ = σ') := by
  refine ux_ofI (cc := cX2_find) (maxL := 3) (ret := (some .int)) (Ts := wsX2_find) (lv := [(0, .ref (ad 2)), (1, .int key)]) (by decide) rfl (fun _ h => h) (Nat.le_of_ble_eq_true rfl) rfl ?_
  intro p e s m below meth c C
  have loop : ∀ (k i : Nat), σ.2.1 1 + 1 ≤ i + k → i ≤ σ.2.1 1 → (∀ j, j < i → decide (σ.1 3 j = key) = false) → ux_V p l e (ux_rm 0) s m ([.ref (ad 2), .int key] : List Value).toArray below meth c (MQ below (va_Qi (fun r σ' => r = pq_o (pq_fst (fun j => decide (σ.1 3 j = key)) (σ.2.1 1)) ∧ σ = σ') (fun σ' t => va_P D vwCl (wU ad cA σ') t.heap) A) ([.ref (ad 2), .int key] : List Value).toArray s 0 0 A) 3 D vwCl (wU ad cA) A 0 0 σ 2 [(2, .int (nI i)), (0, .ref (ad 2)), (1, .int key)] [] := by
    intro k
    induction k with
    | zero => intro i h1 h2; omega
    | succ k ih =>
      intro i h1 h2 h3
      refine ux_iload_n C dX2_find_2 0 rfl ?_
      refine ux_aload_n C dX2_find_3 1 rfl ?_
      refine ux_get C flX2_find_15 2 rfl rfl rfl dX2_find_4 ?_
      refine ux_icmp_ge C 28 dX2_find_7 (by decide) (fun hc => ?_) (fun hc => ?_)
      · have hc := (nI_leI (by omega) (by omega)).mp hc
        have e : i = σ.2.1 1 := by omega
        subst e
        refine ux_iconst C ((-1 : Int32)) dX2_find_28 (by decide) ?_
        exact ux_iret C dX2_find_29 (⟨by rw [pq_fst_none.mpr h3]; rfl, rfl⟩)
      · have hc := mt (nI_leI (by omega) (by omega)).mpr hc
        refine ux_aload_n C dX2_find_10 1 rfl ?_
        refine ux_get C flX2_find_9 2 rfl rfl rfl dX2_find_11 ?_
        refine ux_iload_n C dX2_find_14 0 rfl ?_
        refine ux_iald C 11 3 (i) rfl rfl (rfl) (by omega) (by decide) dX2_find_15 ?_
        refine ux_iload_n C dX2_find_16 2 rfl ?_
        refine ux_icmp_ne C 22 dX2_find_17 (by decide) (fun he => ?_) (fun he => ?_)
        · refine ux_iinc C (nI (i + 1)) [(2, _), (0, _), (1, _)] dX2_find_22 0 rfl (pq_inc i) (by decide) rfl ?_
          refine ux_goto C 2 dX2_find_25 (by decide) ?_
          exact ih (i + 1) (by omega) (by omega) (fun j hj => by rcases Nat.lt_succ_iff_lt_or_eq.mp hj with h | h; exact h3 j h; subst h; exact decide_eq_false he)
        · refine ux_iload_n C dX2_find_20 0 rfl ?_
          exact ux_iret C dX2_find_21 (⟨by rw [pq_fst_some.mpr ⟨by omega, decide_eq_true he, h3⟩]; rfl, rfl⟩)
  refine ux_iconst C (nI 0) dX2_find_0 (by decide) ?_
  refine ux_istore_n C [(2, _), (0, _), (1, _)] dX2_find_1 rfl (by decide) rfl ?_
  exact loop (σ.2.1 1 + 1) 0 (by omega) (by omega) (fun j hj => by omega)
set_option maxHeartbeats 4000000 in
set_option maxRecDepth 100000 in
theorem c_X2_findOrAdd (l : Launch) (D : va_G) (ad : Nat → Nat) (cA : Nat → ClassId) (A : Nat → Prop) (σ : ST) (key : Int32) (hk : σ.2.1 1 < 512) : ux_I l D vwCl (tyU cA) (wU ad cA) A yX2_findOrAdd wsX2_findOrAdd (ux_rm 1) [.ref (ad 2), .int key] σ (fun r σ' => (∃ i, pq_fst (fun j => decide (σ.1 3 j = key)) (σ.2.1 1) = some i ∧ r = nI i ∧ σ = σ') ∨ (pq_fst (fun j => decide (σ.1 3 j = key)) (σ.2.1 1) = none ∧ r = nI (σ.2.1 1) ∧ σ' = sf (sa σ 3 (upd (σ.1 3) (σ.2.1 1) key)) 1 (σ.2.1 1 + 1))) := by
  refine ux_ofI (cc := cX2_findOrAdd) (maxL := 3) (ret := (some .int)) (Ts := wsX2_findOrAdd) (lv := [(0, .ref (ad 2)), (1, .int key)]) (by decide) rfl (fun _ h => h) (Nat.le_of_ble_eq_true rfl) rfl ?_
  intro p e s m below meth c C
  refine ux_aload_n C dX2_findOrAdd_0 0 rfl ?_
  refine ux_iload_n C dX2_findOrAdd_1 1 rfl ?_
  refine ux_callI C gkX2_findOrAdd_19 (c_X2_find l D ad cA A σ key (by omega)) rfl ⟨rfl, rfl⟩ ⟨(Nat.le_of_ble_eq_true rfl), (Nat.le_of_ble_eq_true rfl)⟩ ⟨Nat.le_refl _, Nat.le_refl _⟩ 2 rfl rfl rfl rfl (Nat.le_of_ble_eq_true rfl) dX2_findOrAdd_2 (fun r σ1 hr => ?_)
  refine ux_istore_n C [(2, _), (0, _), (1, _)] dX2_findOrAdd_5 rfl (by decide) rfl ?_
  obtain ⟨hr, rfl⟩ := hr
  refine ux_iload_n C dX2_findOrAdd_6 0 rfl ?_
  refine ux_iconst C ((-1 : Int32)) dX2_findOrAdd_7 (by decide) ?_
  refine ux_icmp_ne C 21 dX2_findOrAdd_8 (by decide) (fun hc => ?_) (fun hc => ?_)
  · refine ux_iload_n C dX2_findOrAdd_21 0 rfl ?_
    refine ux_iret C dX2_findOrAdd_22 ?_
    cases hf : pq_fst (fun j => decide (σ.1 3 j = key)) (σ.2.1 1) with
    | none => rw [hf] at hr; exact absurd hr hc
    | some i => rw [hf] at hr; exact Or.inl ⟨i, rfl, hr, rfl⟩
  · have hf : pq_fst (fun j => decide (σ.1 3 j = key)) (σ.2.1 1) = none := (pq_o_m1 (fun i hi => by have := (pq_fst_some.mp hi).1; omega)).mp (hr.symm.trans hc)
    refine ux_aload_n C dX2_findOrAdd_11 1 rfl ?_
    refine ux_get C flX2_findOrAdd_15 2 rfl rfl rfl dX2_findOrAdd_12 ?_
    refine ux_sipush C (nI 512) dX2_findOrAdd_15 (by decide) ?_
    refine ux_icmp_ne C 23 dX2_findOrAdd_18 (by decide) (fun hd => ?_) (fun hd => ?_)
    · refine ux_aload_n C dX2_findOrAdd_23 1 rfl ?_
      refine ux_get C flX2_findOrAdd_9 2 rfl rfl rfl dX2_findOrAdd_24 ?_
      refine ux_aload_n C dX2_findOrAdd_27 1 rfl ?_
      refine ux_get C flX2_findOrAdd_15 2 rfl rfl rfl dX2_findOrAdd_28 ?_
      refine ux_iload_n C dX2_findOrAdd_31 2 rfl ?_
      refine ux_iast C 11 3 (σ.2.1 1) rfl rfl (rfl) (by omega) (by decide) dX2_findOrAdd_32 _ (awU_3 _ _ _ _) ?_
      refine ux_aload_n C dX2_findOrAdd_33 1 rfl ?_
      refine ux_dup C dX2_findOrAdd_34 rfl ?_
      refine ux_get C flX2_findOrAdd_15 2 rfl rfl rfl dX2_findOrAdd_35 ?_
      refine ux_iconst C ((1 : Int32)) dX2_findOrAdd_38 (by decide) ?_
      refine ux_iadd C dX2_findOrAdd_39 ?_
      refine ux_top (nI (σ.2.1 1 + 1)) (nI_1 _) ?_
      refine ux_putI C flX2_findOrAdd_15 fiU_1 2 rfl rfl (Nat.le_of_ble_eq_true rfl) dX2_findOrAdd_40 _ (fwU_1 _ _ _ _) ?_
      refine ux_aload_n C dX2_findOrAdd_43 1 rfl ?_
      refine ux_get C flX2_findOrAdd_15 2 rfl rfl rfl dX2_findOrAdd_44 ?_
      refine ux_iconst C ((1 : Int32)) dX2_findOrAdd_47 (by decide) ?_
      refine ux_isub C dX2_findOrAdd_48 ?_
      refine ux_top (nI (σ.2.1 1)) (nI_pred _) ?_
      exact ux_iret C dX2_findOrAdd_49 (Or.inr ⟨hf, rfl, rfl⟩)
    · exact absurd ((nI_eq (by omega) (by omega)).mp hd) (by omega)
end
section
theorem hiX0_opened_0 : ∀ w ∈ wsX00, w ∈ wsX0_opened := by decide +kernel
theorem flX0_opened_22 : ux_F wsX0_opened RX0 22 RX0 TX0 4 3 := ⟨hiX0_opened_0, by decide, by decide +kernel⟩
theorem hiX0_isFull_0 : ∀ w ∈ wsX00, w ∈ wsX0_isFull := by decide +kernel
theorem flX0_isFull_22 : ux_F wsX0_isFull RX0 22 RX0 TX0 4 3 := ⟨hiX0_isFull_0, by decide, by decide +kernel⟩
theorem hiX0_exists_0 : ∀ w ∈ wsX00, w ∈ wsX0_exists := by decide +kernel
theorem flX0_exists_22 : ux_F wsX0_exists RX0 22 RX0 TX0 4 3 := ⟨hiX0_exists_0, by decide, by decide +kernel⟩
theorem hiX0_isActive_0 : ∀ w ∈ wsX00, w ∈ wsX0_isActive := by decide +kernel
theorem flX0_isActive_15 : ux_F wsX0_isActive RX0 15 RX0 TX0 4 1 := ⟨hiX0_isActive_0, by decide, by decide +kernel⟩
theorem hiX0_parentOf_0 : ∀ w ∈ wsX00, w ∈ wsX0_parentOf := by decide +kernel
theorem flX0_parentOf_9 : ux_F wsX0_parentOf RX0 9 RX0 TX0 4 0 := ⟨hiX0_parentOf_0, by decide, by decide +kernel⟩
theorem hiX0_stateOf_0 : ∀ w ∈ wsX00, w ∈ wsX0_stateOf := by decide +kernel
theorem flX0_stateOf_15 : ux_F wsX0_stateOf RX0 15 RX0 TX0 4 1 := ⟨hiX0_stateOf_0, by decide, by decide +kernel⟩
theorem hiX0_add_0 : ∀ w ∈ wsX00, w ∈ wsX0_add := by decide +kernel
theorem flX0_add_22 : ux_F wsX0_add RX0 22 RX0 TX0 4 3 := ⟨hiX0_add_0, by decide, by decide +kernel⟩
theorem flX0_add_9 : ux_F wsX0_add RX0 9 RX0 TX0 4 0 := ⟨hiX0_add_0, by decide, by decide +kernel⟩
theorem flX0_add_15 : ux_F wsX0_add RX0 15 RX0 TX0 4 1 := ⟨hiX0_add_0, by decide, by decide +kernel⟩
theorem hiX0_end_0 : ∀ w ∈ wsX00, w ∈ wsX0_end := by decide +kernel
theorem flX0_end_15 : ux_F wsX0_end RX0 15 RX0 TX0 4 1 := ⟨hiX0_end_0, by decide, by decide +kernel⟩
theorem hiX0_isLeftBehind_0 : ∀ w ∈ wsX00, w ∈ wsX0_isLeftBehind := by decide +kernel
theorem flX0_isLeftBehind_9 : ux_F wsX0_isLeftBehind RX0 9 RX0 TX0 4 0 := ⟨hiX0_isLeftBehind_0, by decide, by decide +kernel⟩
theorem hiX0_activeChildrenOf_0 : ∀ w ∈ wsX00, w ∈ wsX0_activeChildrenOf := by decide +kernel
theorem flX0_activeChildrenOf_22 : ux_F wsX0_activeChildrenOf RX0 22 RX0 TX0 4 3 := ⟨hiX0_activeChildrenOf_0, by decide, by decide +kernel⟩
theorem flX0_activeChildrenOf_9 : ux_F wsX0_activeChildrenOf RX0 9 RX0 TX0 4 0 := ⟨hiX0_activeChildrenOf_0, by decide, by decide +kernel⟩
theorem flX0_activeChildrenOf_15 : ux_F wsX0_activeChildrenOf RX0 15 RX0 TX0 4 1 := ⟨hiX0_activeChildrenOf_0, by decide, by decide +kernel⟩
theorem hiX0_trace_0 : ∀ w ∈ wsX00, w ∈ wsX0_trace := by decide +kernel
theorem flX0_trace_18 : ux_F wsX0_trace RX0 18 RX0 TX0 4 2 := ⟨hiX0_trace_0, by decide, by decide +kernel⟩
theorem flX0_trace_9 : ux_F wsX0_trace RX0 9 RX0 TX0 4 0 := ⟨hiX0_trace_0, by decide, by decide +kernel⟩
theorem flX0_trace_22 : ux_F wsX0_trace RX0 22 RX0 TX0 4 3 := ⟨hiX0_trace_0, by decide, by decide +kernel⟩
theorem hiX0_line_0 : ∀ w ∈ wsX00, w ∈ wsX0_line := by decide +kernel
theorem flX0_line_18 : ux_F wsX0_line RX0 18 RX0 TX0 4 2 := ⟨hiX0_line_0, by decide, by decide +kernel⟩
theorem gkX0_isActive_26 : ux_G wsX0_isActive RX0 26 RX0 yX0_exists wsX0_exists 1 := ⟨gX0_isActive_X0_exists, by decide +kernel⟩
theorem gkX0_canBeAsked_30 : ux_G wsX0_canBeAsked RX0 30 RX0 yX0_isActive wsX0_isActive 1 := ⟨gX0_canBeAsked_X0_isActive, by decide +kernel⟩
theorem gkX0_isLeftBehind_30 : ux_G wsX0_isLeftBehind RX0 30 RX0 yX0_isActive wsX0_isActive 1 := ⟨gX0_isLeftBehind_X0_isActive, by decide +kernel⟩
theorem gkX0_isLeftBehind_33 : ux_G wsX0_isLeftBehind RX0 33 RX0 yX0_canBeAsked wsX0_canBeAsked 1 := ⟨gX0_isLeftBehind_X0_canBeAsked, by decide +kernel⟩
set_option maxHeartbeats 4000000 in
set_option maxRecDepth 100000 in
theorem c_X0_opened (l : Launch) (D : va_G) (ad : Nat → Nat) (cA : Nat → ClassId) (A : Nat → Prop) (σ : ST) : ux_I l D vwCl (tyU cA) (wU ad cA) A yX0_opened wsX0_opened (ux_rm 0) [.ref (ad 0)] σ (fun r σ' => r = nI (σ.2.1 0) ∧ σ = σ') := by
  refine ux_ofI (cc := cX0_opened) (maxL := 1) (ret := (some .int)) (Ts := wsX0_opened) (lv := [(0, .ref (ad 0))]) (by decide) rfl (fun _ h => h) (Nat.le_of_ble_eq_true rfl) rfl ?_
  intro p e s m below meth c C
  refine ux_aload_n C dX0_opened_0 0 rfl ?_
  refine ux_get C flX0_opened_22 0 rfl rfl rfl dX0_opened_1 ?_
  exact ux_iret C dX0_opened_4 (⟨rfl, rfl⟩)
set_option maxHeartbeats 4000000 in
set_option maxRecDepth 100000 in
theorem c_X0_isFull (l : Launch) (D : va_G) (ad : Nat → Nat) (cA : Nat → ClassId) (A : Nat → Prop) (σ : ST) (hn : σ.2.1 0 ≤ 150) : ux_I l D vwCl (tyU cA) (wU ad cA) A yX0_isFull wsX0_isFull (ux_rm 0) [.ref (ad 0)] σ (fun r σ' => r = pq_b (decide (σ.2.1 0 = 150)) ∧ σ = σ') := by
  refine ux_ofI (cc := cX0_isFull) (maxL := 1) (ret := (some .boolean)) (Ts := wsX0_isFull) (lv := [(0, .ref (ad 0))]) (by decide) rfl (fun _ h => h) (Nat.le_of_ble_eq_true rfl) rfl ?_
  intro p e s m below meth c C
  refine ux_aload_n C dX0_isFull_0 0 rfl ?_
  refine ux_get C flX0_isFull_22 0 rfl rfl rfl dX0_isFull_1 ?_
  refine ux_sipush C (nI 150) dX0_isFull_4 (by decide) ?_
  refine ux_icmp_ne C 14 dX0_isFull_7 (by decide) (fun h => ?_) (fun h => ?_)
  · refine ux_iconst C ((0 : Int32)) dX0_isFull_14 (by decide) ?_
    exact ux_zret C dX0_isFull_15 rfl (⟨by rw [decide_eq_false (fun e => h (by rw [e]))]; rfl, rfl⟩)
  · refine ux_iconst C ((1 : Int32)) dX0_isFull_10 (by decide) ?_
    refine ux_goto C 15 dX0_isFull_11 (by decide) ?_
    exact ux_zret C dX0_isFull_15 rfl (⟨by rw [decide_eq_true ((nI_eq (by omega) (by omega)).mp h)]; rfl, rfl⟩)
set_option maxHeartbeats 4000000 in
set_option maxRecDepth 100000 in
theorem c_X0_exists (l : Launch) (D : va_G) (ad : Nat → Nat) (cA : Nat → ClassId) (A : Nat → Prop) (σ : ST) (t : Int32) : ux_I l D vwCl (tyU cA) (wU ad cA) A yX0_exists wsX0_exists (ux_rm 0) [.ref (ad 0), .int t] σ (fun r σ' => r = pq_b (pq_ex (σ.2.1 0) t) ∧ σ = σ') := by
  refine ux_ofI (cc := cX0_exists) (maxL := 2) (ret := (some .boolean)) (Ts := wsX0_exists) (lv := [(0, .ref (ad 0)), (1, .int t)]) (by decide) rfl (fun _ h => h) (Nat.le_of_ble_eq_true rfl) rfl ?_
  intro p e s m below meth c C
  refine ux_iload_n C dX0_exists_0 1 rfl ?_
  refine ux_iconst C ((1 : Int32)) dX0_exists_1 (by decide) ?_
  refine ux_icmp_lt C 17 dX0_exists_2 (by decide) (fun h => ?_) (fun h => ?_)
  · refine ux_iconst C ((0 : Int32)) dX0_exists_17 (by decide) ?_
    exact ux_zret C dX0_exists_18 rfl (⟨by simp [pq_ex, pq_b, Int32.not_le.mpr h], rfl⟩)
  · refine ux_iload_n C dX0_exists_5 1 rfl ?_
    refine ux_aload_n C dX0_exists_6 0 rfl ?_
    refine ux_get C flX0_exists_22 0 rfl rfl rfl dX0_exists_7 ?_
    refine ux_icmp_gt C 17 dX0_exists_10 (by decide) (fun h2 => ?_) (fun h2 => ?_)
    · refine ux_iconst C ((0 : Int32)) dX0_exists_17 (by decide) ?_
      exact ux_zret C dX0_exists_18 rfl (⟨by simp [pq_ex, pq_b, Int32.not_le.mpr h2], rfl⟩)
    · refine ux_iconst C ((1 : Int32)) dX0_exists_13 (by decide) ?_
      refine ux_goto C 18 dX0_exists_14 (by decide) ?_
      exact ux_zret C dX0_exists_18 rfl (⟨by simp [pq_ex, pq_b, Int32.not_lt.mp h, Int32.not_lt.mp h2], rfl⟩)
set_option maxHeartbeats 4000000 in
set_option maxRecDepth 100000 in
theorem c_X0_isActive (l : Launch) (D : va_G) (ad : Nat → Nat) (cA : Nat → ClassId) (A : Nat → Prop) (σ : ST) (t : Int32) (hn : σ.2.1 0 ≤ 150) : ux_I l D vwCl (tyU cA) (wU ad cA) A yX0_isActive wsX0_isActive (ux_rm 1) [.ref (ad 0), .int t] σ (fun r σ' => r = pq_b (pq_act (σ.2.1 0) (σ.1 1) t) ∧ σ = σ') := by
  refine ux_ofI (cc := cX0_isActive) (maxL := 2) (ret := (some .boolean)) (Ts := wsX0_isActive) (lv := [(0, .ref (ad 0)), (1, .int t)]) (by decide) rfl (fun _ h => h) (Nat.le_of_ble_eq_true rfl) rfl ?_
  intro p e s m below meth c C
  refine ux_aload_n C dX0_isActive_0 0 rfl ?_
  refine ux_iload_n C dX0_isActive_1 1 rfl ?_
  refine ux_callI C gkX0_isActive_26 (c_X0_exists l D ad cA A σ t) rfl ⟨rfl, rfl⟩ ⟨(Nat.le_of_ble_eq_true rfl), (Nat.le_of_ble_eq_true rfl)⟩ ⟨Nat.le_refl _, Nat.le_refl _⟩ 0 rfl rfl rfl rfl (Nat.le_of_ble_eq_true rfl) dX0_isActive_2 (fun r σ1 hr => ?_)
  obtain ⟨rfl, rfl⟩ := hr
  refine ux_if_eq C 21 dX0_isActive_5 (by decide) (fun h => ?_) (fun h => ?_)
  · refine ux_iconst C ((0 : Int32)) dX0_isActive_21 (by decide) ?_
    exact ux_zret C dX0_isActive_22 rfl (⟨by rw [pq_act, (pq_b0 _).mp h]; rfl, rfl⟩)
  · have h := (pq_bn0 _).mp h
    obtain ⟨k, k1, k2, rfl⟩ := (pq_ex_iff (by omega)).mp h
    refine ux_aload_n C dX0_isActive_8 0 rfl ?_
    refine ux_get C flX0_isActive_15 0 rfl rfl rfl dX0_isActive_9 ?_
    refine ux_iload_n C dX0_isActive_12 1 rfl ?_
    refine ux_iald C 9 1 (_) rfl rfl (rfl) (by omega) (by decide) dX0_isActive_13 ?_
    refine ux_if_ne C 21 dX0_isActive_14 (by decide) (fun h2 => ?_) (fun h2 => ?_)
    · refine ux_iconst C ((0 : Int32)) dX0_isActive_21 (by decide) ?_
      exact ux_zret C dX0_isActive_22 rfl (⟨by rw [pq_act, h, nI_clamp (by omega), decide_eq_false h2]; rfl, rfl⟩)
    · refine ux_iconst C ((1 : Int32)) dX0_isActive_17 (by decide) ?_
      refine ux_goto C 22 dX0_isActive_18 (by decide) ?_
      exact ux_zret C dX0_isActive_22 rfl (⟨by rw [pq_act, h, nI_clamp (by omega), decide_eq_true h2]; rfl, rfl⟩)
set_option maxHeartbeats 4000000 in
set_option maxRecDepth 100000 in
theorem c_X0_canBeAsked (l : Launch) (D : va_G) (ad : Nat → Nat) (cA : Nat → ClassId) (A : Nat → Prop) (σ : ST) (t : Int32) (hn : σ.2.1 0 ≤ 150) : ux_I l D vwCl (tyU cA) (wU ad cA) A yX0_canBeAsked wsX0_canBeAsked (ux_rm 2) [.ref (ad 0), .int t] σ (fun r σ' => r = pq_b (decide (t = 0) || pq_act (σ.2.1 0) (σ.1 1) t) ∧ σ = σ') := by
  refine ux_ofI (cc := cX0_canBeAsked) (maxL := 2) (ret := (some .boolean)) (Ts := wsX0_canBeAsked) (lv := [(0, .ref (ad 0)), (1, .int t)]) (by decide) rfl (fun _ h => h) (Nat.le_of_ble_eq_true rfl) rfl ?_
  intro p e s m below meth c C
  refine ux_iload_n C dX0_canBeAsked_0 1 rfl ?_
  refine ux_if_eq C 12 dX0_canBeAsked_1 (by decide) (fun h => ?_) (fun h => ?_)
  · refine ux_iconst C ((1 : Int32)) dX0_canBeAsked_12 (by decide) ?_
    refine ux_goto C 17 dX0_canBeAsked_13 (by decide) ?_
    exact ux_zret C dX0_canBeAsked_17 rfl (⟨by rw [decide_eq_true h]; rfl, rfl⟩)
  · refine ux_aload_n C dX0_canBeAsked_4 0 rfl ?_
    refine ux_iload_n C dX0_canBeAsked_5 1 rfl ?_
    refine ux_callI C gkX0_canBeAsked_30 (c_X0_isActive l D ad cA A σ t hn) rfl ⟨rfl, rfl⟩ ⟨(Nat.le_of_ble_eq_true rfl), (Nat.le_of_ble_eq_true rfl)⟩ ⟨Nat.le_refl _, Nat.le_refl _⟩ 0 rfl rfl rfl rfl (Nat.le_of_ble_eq_true rfl) dX0_canBeAsked_6 (fun r σ1 hr => ?_)
    obtain ⟨rfl, rfl⟩ := hr
    refine ux_if_eq C 16 dX0_canBeAsked_9 (by decide) (fun h2 => ?_) (fun h2 => ?_)
    · refine ux_iconst C ((0 : Int32)) dX0_canBeAsked_16 (by decide) ?_
      exact ux_zret C dX0_canBeAsked_17 rfl (⟨by rw [decide_eq_false h, (pq_b0 _).mp h2]; rfl, rfl⟩)
    · refine ux_iconst C ((1 : Int32)) dX0_canBeAsked_12 (by decide) ?_
      refine ux_goto C 17 dX0_canBeAsked_13 (by decide) ?_
      exact ux_zret C dX0_canBeAsked_17 rfl (⟨by rw [decide_eq_false h, (pq_bn0 _).mp h2]; rfl, rfl⟩)
set_option maxHeartbeats 4000000 in
set_option maxRecDepth 100000 in
theorem c_X0_parentOf (l : Launch) (D : va_G) (ad : Nat → Nat) (cA : Nat → ClassId) (A : Nat → Prop) (σ : ST) (k : Nat) (hk : k ≤ 150) : ux_I l D vwCl (tyU cA) (wU ad cA) A yX0_parentOf wsX0_parentOf (ux_rm 0) [.ref (ad 0), .int (nI k)] σ (fun r σ' => r = σ.1 0 k ∧ σ = σ') := by
  refine ux_ofI (cc := cX0_parentOf) (maxL := 2) (ret := (some .int)) (Ts := wsX0_parentOf) (lv := [(0, .ref (ad 0)), (1, .int (nI k))]) (by decide) rfl (fun _ h => h) (Nat.le_of_ble_eq_true rfl) rfl ?_
  intro p e s m below meth c C
  refine ux_aload_n C dX0_parentOf_0 0 rfl ?_
  refine ux_get C flX0_parentOf_9 0 rfl rfl rfl dX0_parentOf_1 ?_
  refine ux_iload_n C dX0_parentOf_4 1 rfl ?_
  refine ux_iald C 8 0 (_) rfl rfl (rfl) (by omega) (by decide) dX0_parentOf_5 ?_
  exact ux_iret C dX0_parentOf_6 (⟨rfl, rfl⟩)
set_option maxHeartbeats 4000000 in
set_option maxRecDepth 100000 in
theorem c_X0_stateOf (l : Launch) (D : va_G) (ad : Nat → Nat) (cA : Nat → ClassId) (A : Nat → Prop) (σ : ST) (k : Nat) (hk : k ≤ 150) : ux_I l D vwCl (tyU cA) (wU ad cA) A yX0_stateOf wsX0_stateOf (ux_rm 0) [.ref (ad 0), .int (nI k)] σ (fun r σ' => r = σ.1 1 k ∧ σ = σ') := by
  refine ux_ofI (cc := cX0_stateOf) (maxL := 2) (ret := (some .int)) (Ts := wsX0_stateOf) (lv := [(0, .ref (ad 0)), (1, .int (nI k))]) (by decide) rfl (fun _ h => h) (Nat.le_of_ble_eq_true rfl) rfl ?_
  intro p e s m below meth c C
  refine ux_aload_n C dX0_stateOf_0 0 rfl ?_
  refine ux_get C flX0_stateOf_15 0 rfl rfl rfl dX0_stateOf_1 ?_
  refine ux_iload_n C dX0_stateOf_4 1 rfl ?_
  refine ux_iald C 9 1 (_) rfl rfl (rfl) (by omega) (by decide) dX0_stateOf_5 ?_
  exact ux_iret C dX0_stateOf_6 (⟨rfl, rfl⟩)
set_option maxHeartbeats 4000000 in
set_option maxRecDepth 100000 in
theorem c_X0_add (l : Launch) (D : va_G) (ad : Nat → Nat) (cA : Nat → ClassId) (A : Nat → Prop) (σ : ST) (t : Int32) (hn : σ.2.1 0 < 150) : ux_I l D vwCl (tyU cA) (wU ad cA) A yX0_add wsX0_add (ux_rm 0) [.ref (ad 0), .int t] σ (fun r σ' => r = nI (σ.2.1 0 + 1) ∧ σ' = sa (sa (sf σ 0 (σ.2.1 0 + 1)) 0 (upd (σ.1 0) (σ.2.1 0 + 1) t)) 1 (upd (σ.1 1) (σ.2.1 0 + 1) 0)) := by
  refine ux_ofI (cc := cX0_add) (maxL := 2) (ret := (some .int)) (Ts := wsX0_add) (lv := [(0, .ref (ad 0)), (1, .int t)]) (by decide) rfl (fun _ h => h) (Nat.le_of_ble_eq_true rfl) rfl ?_
  intro p e s m below meth c C
  refine ux_aload_n C dX0_add_0 0 rfl ?_
  refine ux_dup C dX0_add_1 rfl ?_
  refine ux_get C flX0_add_22 0 rfl rfl rfl dX0_add_2 ?_
  refine ux_iconst C ((1 : Int32)) dX0_add_5 (by decide) ?_
  refine ux_iadd C dX0_add_6 ?_
  refine ux_top (nI (σ.2.1 0 + 1)) (nI_1 _) ?_
  refine ux_putI C flX0_add_22 fiU_0 0 rfl rfl (Nat.le_of_ble_eq_true rfl) dX0_add_7 _ (fwU_0 _ _ _ _) ?_
  refine ux_aload_n C dX0_add_10 0 rfl ?_
  refine ux_get C flX0_add_9 0 rfl rfl rfl dX0_add_11 ?_
  refine ux_aload_n C dX0_add_14 0 rfl ?_
  refine ux_get C flX0_add_22 0 rfl rfl rfl dX0_add_15 ?_
  refine ux_iload_n C dX0_add_18 1 rfl ?_
  refine ux_iast C 8 0 (σ.2.1 0 + 1) rfl rfl (rfl) (by omega) (by decide) dX0_add_19 _ (awU_0 _ _ _ _) ?_
  refine ux_aload_n C dX0_add_20 0 rfl ?_
  refine ux_get C flX0_add_15 0 rfl rfl rfl dX0_add_21 ?_
  refine ux_aload_n C dX0_add_24 0 rfl ?_
  refine ux_get C flX0_add_22 0 rfl rfl rfl dX0_add_25 ?_
  refine ux_iconst C ((0 : Int32)) dX0_add_28 (by decide) ?_
  refine ux_iast C 9 1 (σ.2.1 0 + 1) rfl rfl (rfl) (by omega) (by decide) dX0_add_29 _ (awU_1 _ _ _ _) ?_
  refine ux_aload_n C dX0_add_30 0 rfl ?_
  refine ux_get C flX0_add_22 0 rfl rfl rfl dX0_add_31 ?_
  exact ux_iret C dX0_add_34 (⟨rfl, rfl⟩)
set_option maxHeartbeats 4000000 in
set_option maxRecDepth 100000 in
theorem c_X0_end (l : Launch) (D : va_G) (ad : Nat → Nat) (cA : Nat → ClassId) (A : Nat → Prop) (σ : ST) (k : Nat) (x : Int32) (hk : k ≤ 150) : ux_N l D vwCl (tyU cA) (wU ad cA) A yX0_end wsX0_end (ux_rm 0) [.ref (ad 0), .int (nI k), .int x] σ (fun σ' => σ' = sa σ 1 (upd (σ.1 1) k x)) := by
  refine ux_ofN (cc := cX0_end) (maxL := 3) (ret := none) (Ts := wsX0_end) (lv := [(0, .ref (ad 0)), (1, .int (nI k)), (2, .int x)]) (by decide) rfl (fun _ h => h) (Nat.le_of_ble_eq_true rfl) rfl ?_
  intro p e s m below meth c C
  refine ux_aload_n C dX0_end_0 0 rfl ?_
  refine ux_get C flX0_end_15 0 rfl rfl rfl dX0_end_1 ?_
  refine ux_iload_n C dX0_end_4 1 rfl ?_
  refine ux_iload_n C dX0_end_5 2 rfl ?_
  refine ux_iast C 9 1 (_) rfl rfl (rfl) (by omega) (by decide) dX0_end_6 _ (awU_1 _ _ _ _) ?_
  exact ux_vret C dX0_end_7 (rfl)
set_option maxHeartbeats 4000000 in
set_option maxRecDepth 100000 in
theorem c_X0_isLeftBehind (l : Launch) (D : va_G) (ad : Nat → Nat) (cA : Nat → ClassId) (A : Nat → Prop) (σ : ST) (k : Nat) (hk : k ≤ 150) (hn : σ.2.1 0 ≤ 150) : ux_I l D vwCl (tyU cA) (wU ad cA) A yX0_isLeftBehind wsX0_isLeftBehind (ux_rm 3) [.ref (ad 0), .int (nI k)] σ (fun r σ' => r = pq_b (pq_act (σ.2.1 0) (σ.1 1) (nI k) && !(decide (σ.1 0 k = 0) || pq_act (σ.2.1 0) (σ.1 1) (σ.1 0 k))) ∧ σ = σ') := by
  refine ux_ofI (cc := cX0_isLeftBehind) (maxL := 2) (ret := (some .boolean)) (Ts := wsX0_isLeftBehind) (lv := [(0, .ref (ad 0)), (1, .int (nI k))]) (by decide) rfl (fun _ h => h) (Nat.le_of_ble_eq_true rfl) rfl ?_
  intro p e s m below meth c C
  refine ux_aload_n C dX0_isLeftBehind_0 0 rfl ?_
  refine ux_iload_n C dX0_isLeftBehind_1 1 rfl ?_
  refine ux_callI C gkX0_isLeftBehind_30 (c_X0_isActive l D ad cA A σ (nI k) hn) rfl ⟨rfl, rfl⟩ ⟨(Nat.le_of_ble_eq_true rfl), (Nat.le_of_ble_eq_true rfl)⟩ ⟨Nat.le_refl _, Nat.le_refl _⟩ 0 rfl rfl rfl rfl (Nat.le_of_ble_eq_true rfl) dX0_isLeftBehind_2 (fun r σ1 hr => ?_)
  obtain ⟨rfl, rfl⟩ := hr
  refine ux_if_eq C 25 dX0_isLeftBehind_5 (by decide) (fun h => ?_) (fun h => ?_)
  · refine ux_iconst C ((0 : Int32)) dX0_isLeftBehind_25 (by decide) ?_
    exact ux_zret C dX0_isLeftBehind_26 rfl (⟨by rw [(pq_b0 _).mp h]; rfl, rfl⟩)
  · refine ux_aload_n C dX0_isLeftBehind_8 0 rfl ?_
    refine ux_aload_n C dX0_isLeftBehind_9 0 rfl ?_
    refine ux_get C flX0_isLeftBehind_9 0 rfl rfl rfl dX0_isLeftBehind_10 ?_
    refine ux_iload_n C dX0_isLeftBehind_13 1 rfl ?_
    refine ux_iald C 8 0 (k) rfl rfl (rfl) (by omega) (by decide) dX0_isLeftBehind_14 ?_
    refine ux_callI C gkX0_isLeftBehind_33 (c_X0_canBeAsked l D ad cA A σ (σ.1 0 k) hn) rfl ⟨rfl, rfl⟩ ⟨(Nat.le_of_ble_eq_true rfl), (Nat.le_of_ble_eq_true rfl)⟩ ⟨Nat.le_refl _, Nat.le_refl _⟩ 0 rfl rfl rfl rfl (Nat.le_of_ble_eq_true rfl) dX0_isLeftBehind_15 (fun r σ1 hr => ?_)
    obtain ⟨rfl, rfl⟩ := hr
    refine ux_if_ne C 25 dX0_isLeftBehind_18 (by decide) (fun h2 => ?_) (fun h2 => ?_)
    · refine ux_iconst C ((0 : Int32)) dX0_isLeftBehind_25 (by decide) ?_
      exact ux_zret C dX0_isLeftBehind_26 rfl (⟨by rw [(pq_bn0 _).mp h, (pq_bn0 _).mp h2]; rfl, rfl⟩)
    · refine ux_iconst C ((1 : Int32)) dX0_isLeftBehind_21 (by decide) ?_
      refine ux_goto C 26 dX0_isLeftBehind_22 (by decide) ?_
      exact ux_zret C dX0_isLeftBehind_26 rfl (⟨by rw [(pq_bn0 _).mp h, (pq_b0 _).mp h2]; rfl, rfl⟩)
set_option maxHeartbeats 4000000 in
set_option maxRecDepth 100000 in
theorem c_X0_activeChildrenOf (l : Launch) (D : va_G) (ad : Nat → Nat) (cA : Nat → ClassId) (A : Nat → Prop) (σ : ST) (t : Nat) (ht : t ≤ σ.2.1 0) (hn : σ.2.1 0 ≤ 150) : ux_I l D vwCl (tyU cA) (wU ad cA) A yX0_activeChildrenOf wsX0_activeChildrenOf (ux_rm 0) [.ref (ad 0), .int (nI t)] σ (fun r σ' => r = nI (pq_cnt (fun u => decide (t < u) && decide (σ.1 0 u = nI t) && decide (σ.1 1 u = 0)) (σ.2.1 0 + 1)) ∧ σ = σ') := by
  refine ux_ofI (cc := cX0_activeChildrenOf) (maxL := 4) (ret := (some .int)) (Ts := wsX0_activeChildrenOf) (lv := [(0, .ref (ad 0)), (1, .int (nI t))]) (by decide) rfl (fun _ h => h) (Nat.le_of_ble_eq_true rfl) rfl ?_
  intro p e s m below meth c C
  have loop : ∀ (k i : Nat), σ.2.1 0 + 2 ≤ i + k → t < i → i ≤ σ.2.1 0 + 1 → ux_V p l e (ux_rm 0) s m ([.ref (ad 0), .int (nI t)] : List Value).toArray below meth c (MQ below (va_Qi (fun r σ' => r = nI (pq_cnt (fun u => decide (t < u) && decide (σ.1 0 u = nI t) && decide (σ.1 1 u = 0)) (σ.2.1 0 + 1)) ∧ σ = σ') (fun σ' t => va_P D vwCl (wU ad cA σ') t.heap) A) ([.ref (ad 0), .int (nI t)] : List Value).toArray s 0 0 A) 4 D vwCl (wU ad cA) A 0 0 σ 6 [(3, .int (nI i)), (2, .int (nI (pq_cnt (fun u => decide (t < u) && decide (σ.1 0 u = nI t) && decide (σ.1 1 u = 0)) i))), (0, .ref (ad 0)), (1, .int (nI t))] [] := by
    intro k
    induction k with
    | zero => intro i h1 h2 h3; omega
    | succ k ih =>
      intro i h1 h2 h3
      refine ux_iload_n C dX0_activeChildrenOf_6 0 rfl ?_
      refine ux_aload_n C dX0_activeChildrenOf_7 2 rfl ?_
      refine ux_get C flX0_activeChildrenOf_22 0 rfl rfl rfl dX0_activeChildrenOf_8 ?_
      refine ux_icmp_gt C 42 dX0_activeChildrenOf_11 (by decide) (fun hc => ?_) (fun hc => ?_)
      · have hc := (nI_ltI (by omega) (by omega)).mp hc
        have e : i = σ.2.1 0 + 1 := by omega
        subst e
        refine ux_iload_n C dX0_activeChildrenOf_42 1 rfl ?_
        exact ux_iret C dX0_activeChildrenOf_43 (⟨rfl, rfl⟩)
      · have hc := mt (nI_ltI (by omega) (by omega)).mpr hc
        have hih := ih (i + 1) (by omega) (by omega) (by omega)
        refine ux_aload_n C dX0_activeChildrenOf_14 2 rfl ?_
        refine ux_get C flX0_activeChildrenOf_9 0 rfl rfl rfl dX0_activeChildrenOf_15 ?_
        refine ux_iload_n C dX0_activeChildrenOf_18 0 rfl ?_
        refine ux_iald C 8 0 (i) rfl rfl (rfl) (by omega) (by decide) dX0_activeChildrenOf_19 ?_
        refine ux_iload_n C dX0_activeChildrenOf_20 3 rfl ?_
        refine ux_icmp_ne C 36 dX0_activeChildrenOf_21 (by decide) (fun h4 => ?_) (fun h4 => ?_)
        · rw [pq_cnt_f (n := i) (by simp [h4])] at hih
          refine ux_iinc C (nI (i + 1)) [(3, _), (2, _), (0, _), (1, _)] dX0_activeChildrenOf_36 0 rfl (pq_inc i) (by decide) rfl ?_
          refine ux_goto C 6 dX0_activeChildrenOf_39 (by decide) ?_
          exact hih
        · refine ux_aload_n C dX0_activeChildrenOf_24 2 rfl ?_
          refine ux_get C flX0_activeChildrenOf_15 0 rfl rfl rfl dX0_activeChildrenOf_25 ?_
          refine ux_iload_n C dX0_activeChildrenOf_28 0 rfl ?_
          refine ux_iald C 9 1 (i) rfl rfl (rfl) (by omega) (by decide) dX0_activeChildrenOf_29 ?_
          refine ux_if_ne C 36 dX0_activeChildrenOf_30 (by decide) (fun h5 => ?_) (fun h5 => ?_)
          · rw [pq_cnt_f (n := i) (by simp [h5])] at hih
            refine ux_iinc C (nI (i + 1)) [(3, _), (2, _), (0, _), (1, _)] dX0_activeChildrenOf_36 0 rfl (pq_inc i) (by decide) rfl ?_
            refine ux_goto C 6 dX0_activeChildrenOf_39 (by decide) ?_
            exact hih
          · rw [pq_cnt_t (n := i) (by simp [h4, h5, h2])] at hih
            refine ux_iinc C (nI (_ + 1)) [(2, _), (3, _), (0, _), (1, _)] dX0_activeChildrenOf_33 1 rfl (pq_inc _) (by decide) rfl ?_
            refine ux_iinc C (nI (i + 1)) [(3, _), (2, _), (0, _), (1, _)] dX0_activeChildrenOf_36 1 rfl (pq_inc i) (by decide) rfl ?_
            refine ux_goto C 6 dX0_activeChildrenOf_39 (by decide) ?_
            exact hih
  refine ux_iconst C (nI 0) dX0_activeChildrenOf_0 (by decide) ?_
  refine ux_istore_n C [(2, _), (0, _), (1, _)] dX0_activeChildrenOf_1 rfl (by decide) rfl ?_
  refine ux_iload_n C dX0_activeChildrenOf_2 2 rfl ?_
  refine ux_iconst C (nI 1) dX0_activeChildrenOf_3 (by decide) ?_
  refine ux_iadd C dX0_activeChildrenOf_4 ?_
  refine ux_top (nI (t + 1)) (nI_add _ _) ?_
  refine ux_istore_n C [(3, _), (2, _), (0, _), (1, _)] dX0_activeChildrenOf_5 rfl (by decide) rfl ?_
  have hl := loop (σ.2.1 0 + 2) (t + 1) (by omega) (by omega) (by omega)
  rw [pq_cnt_zero (n := t + 1) (fun j hj => by simp [show ¬ t < j by omega])] at hl
  exact hl
set_option maxHeartbeats 4000000 in
set_option maxRecDepth 100000 in
theorem c_X0_trace (l : Launch) (D : va_G) (ad : Nat → Nat) (cA : Nat → ClassId) (A : Nat → Prop) (σ : ST) (Q : Nat → Nat) (t : Nat) (ht : t ≤ σ.2.1 0) (hn : σ.2.1 0 ≤ 150) (hq : pq_dn (σ.2.1 0) Q) (hp : ∀ u, 1 ≤ u → u ≤ σ.2.1 0 → σ.1 0 u = nI (Q u)) : ux_N l D vwCl (tyU cA) (wU ad cA) A yX0_trace wsX0_trace (ux_rm 0) [.ref (ad 0), .int (nI t)] σ (fun σ' => ∃ f, σ' = sa σ 2 f ∧ ∀ u, u ≤ σ.2.1 0 → f u = pq_b (pq_on Q t u)) := by
  refine ux_ofN (cc := cX0_trace) (maxL := 3) (ret := none) (Ts := wsX0_trace) (lv := [(0, .ref (ad 0)), (1, .int (nI t))]) (by decide) rfl (fun _ h => h) (Nat.le_of_ble_eq_true rfl) rfl ?_
  intro p e s m below meth c C
  have loop2 : ∀ (u : Nat) (f : Nat → Int32), u ≤ t → (∀ w, w ≤ σ.2.1 0 → f w = 1 ∨ f w = 0) → (∀ w, w ≤ σ.2.1 0 → (f w = 1 ↔ (w = t ∨ ∃ v, u < v ∧ v ≤ t ∧ pq_on Q t v = true ∧ Q v = w))) → ux_V p l e (ux_rm 0) s m ([.ref (ad 0), .int (nI t)] : List Value).toArray below meth c (MQ below (va_Qv (fun σ' => ∃ f, σ' = sa σ 2 f ∧ ∀ u, u ≤ σ.2.1 0 → f u = pq_b (pq_on Q t u)) (fun σ' t => va_P D vwCl (wU ad cA σ') t.heap) A) ([.ref (ad 0), .int (nI t)] : List Value).toArray s 0 0 A) 3 D vwCl (wU ad cA) A 0 0 (sa σ 2 f) 34 [(2, .int (nI u)), (0, .ref (ad 0)), (1, .int (nI t))] [] := by
    intro u
    induction u with
    | zero =>
      intro f h1 h2 h3
      refine ux_iload_n C dX0_trace_34 0 rfl ?_
      refine ux_if_le C 65 dX0_trace_35 (by decide) (fun hc => ?_) (fun hc => ?_)
      · refine ux_vret C dX0_trace_65 ?_
        refine ⟨f, rfl, fun w hw => ?_⟩
        have h4 := h3 w hw
        by_cases ho : pq_on Q t w = true
        · rw [ho, pq_b_t]
          refine h4.mpr ?_
          rcases pq_on_inv hq t w ht ho with e | ⟨v, v0, v1, v2, v3⟩
          · exact Or.inl e
          · exact Or.inr ⟨v, v0, v1, v2, v3⟩
        · have hof : pq_on Q t w = false := by simpa using ho
          rw [hof, pq_b_f]
          rcases h2 w hw with e | e
          · exfalso
            rcases h4.mp e with e2 | ⟨v, v0, v1, v2, v3⟩
            · subst e2; exact ho (pq_on_self hq ht)
            · exact ho (v3 ▸ pq_on_step hq ht v2 v0)
          · exact e
      · exact absurd (show nI 0 ≤ 0 by decide) hc
    | succ u ih =>
      intro f h1 h2 h3
      refine ux_iload_n C dX0_trace_34 0 rfl ?_
      refine ux_if_le C 65 dX0_trace_35 (by decide) (fun hc => ?_) (fun hc => ?_)
      · exact absurd hc (nI_nle (by omega) (by omega))
      · have hu : f (u + 1) = 1 ↔ pq_on Q t (u + 1) = true := by
          rw [h3 (u + 1) (by omega)]
          constructor
          · rintro (e | ⟨v, v0, v1, v2, v3⟩)
            · rw [e]; exact pq_on_self hq ht
            · exact v3 ▸ pq_on_step hq ht v2 (by omega)
          · intro ho
            rcases pq_on_inv hq t (u + 1) ht ho with e | ⟨v, v0, v1, v2, v3⟩
            · exact Or.inl e
            · have := hq v v0 (by omega)
              exact Or.inr ⟨v, by omega, v1, v2, v3⟩
        have hqu := hq (u + 1) (by omega) (by omega)
        refine ux_aload_n C dX0_trace_38 1 rfl ?_
        refine ux_get C flX0_trace_18 0 rfl rfl rfl dX0_trace_39 ?_
        refine ux_iload_n C dX0_trace_42 0 rfl ?_
        refine ux_zald C 10 2 (u + 1) rfl rfl (rfl) (by omega) (by decide) dX0_trace_43 ?_
        refine ux_if_eq C 59 dX0_trace_44 (by decide) (fun h0 => ?_) (fun h0 => ?_)
        · have h0 : f (u + 1) = 0 := h0
          have hno : ¬ pq_on Q t (u + 1) = true := fun ho => by
            rw [hu.mpr ho] at h0
            exact absurd h0 (by decide)
          refine ux_iinc C (nI u) [(2, _), (0, _), (1, _)] dX0_trace_59 0 rfl (pq_dec u) (by decide) rfl ?_
          refine ux_goto C 34 dX0_trace_62 (by decide) ?_
          refine ih f (by omega) h2 (fun w hw => ?_)
          rw [h3 w hw]
          constructor
          · rintro (e | ⟨v, v0, v1, v2, v3⟩)
            · exact Or.inl e
            · exact Or.inr ⟨v, by omega, v1, v2, v3⟩
          · rintro (e | ⟨v, v0, v1, v2, v3⟩)
            · exact Or.inl e
            · by_cases e : v = u + 1
              · subst e; exact absurd v2 hno
              · exact Or.inr ⟨v, by omega, v1, v2, v3⟩
        · have h0 : ¬ f (u + 1) = 0 := h0
          have hyes : pq_on Q t (u + 1) = true := hu.mp (by rcases h2 (u + 1) (by omega) with e | e; exact e; exact absurd e h0)
          refine ux_aload_n C dX0_trace_47 1 rfl ?_
          refine ux_get C flX0_trace_18 0 rfl rfl rfl dX0_trace_48 ?_
          refine ux_aload_n C dX0_trace_51 1 rfl ?_
          refine ux_get C flX0_trace_9 0 rfl rfl rfl dX0_trace_52 ?_
          refine ux_iload_n C dX0_trace_55 0 rfl ?_
          refine ux_iald C 8 0 (u + 1) rfl rfl (rfl) (by omega) (by decide) dX0_trace_56 ?_
          refine ux_iconst C ((1 : Int32)) dX0_trace_57 (by decide) ?_
          refine ux_zast C 10 2 (Q (u + 1)) rfl rfl (hp (u + 1) (by omega) (by omega)) (by omega) (by decide) (rfl) dX0_trace_58 _ (awU_2 _ _ _ _) ?_
          refine ux_iinc C (nI u) [(2, _), (0, _), (1, _)] dX0_trace_59 0 rfl (pq_dec u) (by decide) rfl ?_
          refine ux_goto C 34 dX0_trace_62 (by decide) ?_
          refine ux_at (sa_sa _ _ _ _) ?_
          refine ih (upd f (Q (u + 1)) 1) (by omega) (fun w hw => ?_) (fun w hw => ?_)
          · rw [upd_at]; split
            · exact Or.inl rfl
            · exact h2 w hw
          · rw [upd_at]
            by_cases e : w = Q (u + 1)
            · rw [if_pos e]
              exact ⟨fun _ => Or.inr ⟨u + 1, by omega, by omega, hyes, e.symm⟩, fun _ => rfl⟩
            · rw [if_neg e, h3 w hw]
              constructor
              · rintro (e | ⟨v, v0, v1, v2, v3⟩)
                · exact Or.inl e
                · exact Or.inr ⟨v, by omega, v1, v2, v3⟩
              · rintro (e2 | ⟨v, v0, v1, v2, v3⟩)
                · exact Or.inl e2
                · by_cases e2 : v = u + 1
                  · subst e2; exact absurd v3.symm e
                  · exact Or.inr ⟨v, by omega, v1, v2, v3⟩
  have loop1 : ∀ (k i : Nat) (f : Nat → Int32), σ.2.1 0 + 2 ≤ i + k → i ≤ σ.2.1 0 + 1 → (∀ w, w < i → f w = pq_b (decide (w = t))) → ux_V p l e (ux_rm 0) s m ([.ref (ad 0), .int (nI t)] : List Value).toArray below meth c (MQ below (va_Qv (fun σ' => ∃ f, σ' = sa σ 2 f ∧ ∀ u, u ≤ σ.2.1 0 → f u = pq_b (pq_on Q t u)) (fun σ' t => va_P D vwCl (wU ad cA σ') t.heap) A) ([.ref (ad 0), .int (nI t)] : List Value).toArray s 0 0 A) 3 D vwCl (wU ad cA) A 0 0 (sa σ 2 f) 2 [(2, .int (nI i)), (0, .ref (ad 0)), (1, .int (nI t))] [] := by
    intro k
    induction k with
    | zero => intro i f h1 h2; omega
    | succ k ih =>
      intro i f h1 h2 h3
      refine ux_iload_n C dX0_trace_2 0 rfl ?_
      refine ux_aload_n C dX0_trace_3 1 rfl ?_
      refine ux_get C flX0_trace_22 0 rfl rfl rfl dX0_trace_4 ?_
      refine ux_icmp_gt C 32 dX0_trace_7 (by decide) (fun hc => ?_) (fun hc => ?_)
      · have hc : nI (σ.2.1 0) < nI i := hc
        have hc := (nI_ltI (by omega) (by omega)).mp hc
        refine ux_iload_n C dX0_trace_32 2 rfl ?_
        refine ux_istore_n C [(2, _), (0, _), (1, _)] dX0_trace_33 rfl (by decide) rfl ?_
        refine loop2 t f (Nat.le_refl _) (fun w hw => ?_) (fun w hw => ?_)
        · rw [h3 w (by omega)]
          cases decide (w = t)
          · exact Or.inr rfl
          · exact Or.inl rfl
        · rw [h3 w (by omega), pq_b1, decide_eq_true_eq]
          constructor
          · exact Or.inl
          · rintro (e | ⟨v, v0, v1, v2, v3⟩)
            · exact e
            · omega
      · have hc : ¬ nI (σ.2.1 0) < nI i := hc
        have hc := mt (nI_ltI (by omega) (by omega)).mpr hc
        refine ux_aload_n C dX0_trace_10 1 rfl ?_
        refine ux_get C flX0_trace_18 0 rfl rfl rfl dX0_trace_11 ?_
        refine ux_iload_n C dX0_trace_14 0 rfl ?_
        refine ux_iload_n C dX0_trace_15 0 rfl ?_
        refine ux_iload_n C dX0_trace_16 2 rfl ?_
        refine ux_icmp_ne C 24 dX0_trace_17 (by decide) (fun he => ?_) (fun he => ?_)
        · refine ux_iconst C ((0 : Int32)) dX0_trace_24 (by decide) ?_
          refine ux_zast C 10 2 (i) rfl rfl (rfl) (by omega) (by decide) (rfl) dX0_trace_25 _ (awU_2 _ _ _ _) ?_
          refine ux_iinc C (nI (i + 1)) [(2, _), (0, _), (1, _)] dX0_trace_26 0 rfl (pq_inc i) (by decide) rfl ?_
          refine ux_goto C 2 dX0_trace_29 (by decide) ?_
          refine ux_at (sa_sa _ _ _ _) ?_
          refine ih (i + 1) (upd f i 0) (by omega) (by omega) (fun w hw => ?_)
          rw [upd_at]; split
          · next e => subst e; rw [decide_eq_false (fun e => he (by rw [e]))]; rfl
          · exact h3 w (by omega)
        · refine ux_iconst C ((1 : Int32)) dX0_trace_20 (by decide) ?_
          refine ux_goto C 25 dX0_trace_21 (by decide) ?_
          refine ux_zast C 10 2 (i) rfl rfl (rfl) (by omega) (by decide) (rfl) dX0_trace_25 _ (awU_2 _ _ _ _) ?_
          refine ux_iinc C (nI (i + 1)) [(2, _), (0, _), (1, _)] dX0_trace_26 0 rfl (pq_inc i) (by decide) rfl ?_
          refine ux_goto C 2 dX0_trace_29 (by decide) ?_
          refine ux_at (sa_sa _ _ _ _) ?_
          refine ih (i + 1) (upd f i 1) (by omega) (by omega) (fun w hw => ?_)
          rw [upd_at]; split
          · next e => subst e; rw [decide_eq_true ((nI_eq (by omega) (by omega)).mp he)]; rfl
          · exact h3 w (by omega)
  refine ux_iconst C (nI 0) dX0_trace_0 (by decide) ?_
  refine ux_istore_n C [(2, _), (0, _), (1, _)] dX0_trace_1 rfl (by decide) rfl ?_
  refine ux_at (sa_self σ 2).symm ?_
  exact loop1 (σ.2.1 0 + 2) 0 (σ.1 2) (by omega) (by omega) (fun w hw => by omega)
set_option maxHeartbeats 4000000 in
set_option maxRecDepth 100000 in
theorem c_X0_line (l : Launch) (D : va_G) (ad : Nat → Nat) (cA : Nat → ClassId) (A : Nat → Prop) (σ : ST) : ux_R l D vwCl (tyU cA) (wU ad cA) A yX0_line wsX0_line (ux_rm 0) [.ref (ad 0)] σ (ad 10) (fun σ' => σ = σ') := by
  refine ux_ofR (cc := cX0_line) (maxL := 1) (ret := (some (.array .boolean))) (Ts := wsX0_line) (lv := [(0, .ref (ad 0))]) (by decide) rfl (fun _ h => h) (Nat.le_of_ble_eq_true rfl) rfl ?_
  intro p e s m below meth c C
  refine ux_aload_n C dX0_line_0 0 rfl ?_
  refine ux_get C flX0_line_18 0 rfl rfl rfl dX0_line_1 ?_
  exact ux_aret C dX0_line_4 (rfl)
end
section
theorem hiX3_isFull_3 : ∀ w ∈ wsX30, w ∈ wsX3_isFull := by decide +kernel
theorem flX3_isFull_15 : ux_F wsX3_isFull RX3 15 RX3 TX3 2 1 := ⟨hiX3_isFull_3, by decide, by decide +kernel⟩
theorem hiX3_now_3 : ∀ w ∈ wsX30, w ∈ wsX3_now := by decide +kernel
theorem flX3_now_15 : ux_F wsX3_now RX3 15 RX3 TX3 2 1 := ⟨hiX3_now_3, by decide, by decide +kernel⟩
theorem hiX3_countOf_3 : ∀ w ∈ wsX30, w ∈ wsX3_countOf := by decide +kernel
theorem flX3_countOf_15 : ux_F wsX3_countOf RX3 15 RX3 TX3 2 1 := ⟨hiX3_countOf_3, by decide, by decide +kernel⟩
theorem flX3_countOf_9 : ux_F wsX3_countOf RX3 9 RX3 TX3 2 0 := ⟨hiX3_countOf_3, by decide, by decide +kernel⟩
theorem hiX3_find_3 : ∀ w ∈ wsX30, w ∈ wsX3_find := by decide +kernel
theorem flX3_find_15 : ux_F wsX3_find RX3 15 RX3 TX3 2 1 := ⟨hiX3_find_3, by decide, by decide +kernel⟩
theorem flX3_find_9 : ux_F wsX3_find RX3 9 RX3 TX3 2 0 := ⟨hiX3_find_3, by decide, by decide +kernel⟩
theorem hiX3_add_3 : ∀ w ∈ wsX30, w ∈ wsX3_add := by decide +kernel
theorem flX3_add_9 : ux_F wsX3_add RX3 9 RX3 TX3 2 0 := ⟨hiX3_add_3, by decide, by decide +kernel⟩
theorem flX3_add_15 : ux_F wsX3_add RX3 15 RX3 TX3 2 1 := ⟨hiX3_add_3, by decide, by decide +kernel⟩
theorem hiX3_dropAfter_3 : ∀ w ∈ wsX30, w ∈ wsX3_dropAfter := by decide +kernel
theorem flX3_dropAfter_15 : ux_F wsX3_dropAfter RX3 15 RX3 TX3 2 1 := ⟨hiX3_dropAfter_3, by decide, by decide +kernel⟩
theorem flX3_dropAfter_9 : ux_F wsX3_dropAfter RX3 9 RX3 TX3 2 0 := ⟨hiX3_dropAfter_3, by decide, by decide +kernel⟩
theorem hiX5_has_5 : ∀ w ∈ wsX50, w ∈ wsX5_has := by decide +kernel
theorem flX5_has_15 : ux_F wsX5_has RX5 15 RX5 TX5 2 1 := ⟨hiX5_has_5, by decide, by decide +kernel⟩
theorem hiX5_slotOf_5 : ∀ w ∈ wsX50, w ∈ wsX5_slotOf := by decide +kernel
theorem flX5_slotOf_9 : ux_F wsX5_slotOf RX5 9 RX5 TX5 2 0 := ⟨hiX5_slotOf_5, by decide, by decide +kernel⟩
theorem hiX5_kindOf_5 : ∀ w ∈ wsX50, w ∈ wsX5_kindOf := by decide +kernel
theorem flX5_kindOf_15 : ux_F wsX5_kindOf RX5 15 RX5 TX5 2 1 := ⟨hiX5_kindOf_5, by decide, by decide +kernel⟩
theorem hiX5_set_5 : ∀ w ∈ wsX50, w ∈ wsX5_set := by decide +kernel
theorem flX5_set_9 : ux_F wsX5_set RX5 9 RX5 TX5 2 0 := ⟨hiX5_set_5, by decide, by decide +kernel⟩
theorem flX5_set_15 : ux_F wsX5_set RX5 15 RX5 TX5 2 1 := ⟨hiX5_set_5, by decide, by decide +kernel⟩
theorem hiX5_clear_5 : ∀ w ∈ wsX50, w ∈ wsX5_clear := by decide +kernel
theorem flX5_clear_15 : ux_F wsX5_clear RX5 15 RX5 TX5 2 1 := ⟨hiX5_clear_5, by decide, by decide +kernel⟩
theorem gkX3_add_19 : ux_G wsX3_add RX3 19 RX3 yX3_countOf wsX3_countOf 1 := ⟨gX3_add_X3_countOf, by decide +kernel⟩
theorem gkX3_drop_23 : ux_G wsX3_drop RX3 23 RX3 yX3_dropAfter wsX3_dropAfter 2 := ⟨gX3_drop_X3_dropAfter, by decide +kernel⟩
set_option maxHeartbeats 4000000 in
set_option maxRecDepth 100000 in
theorem c_X3_isFull (l : Launch) (D : va_G) (ad : Nat → Nat) (cA : Nat → ClassId) (A : Nat → Prop) (σ : ST) (hm : σ.2.1 4 ≤ 512) : ux_I l D vwCl (tyU cA) (wU ad cA) A yX3_isFull wsX3_isFull (ux_rm 0) [.ref (ad 3)] σ (fun r σ' => r = pq_b (decide (σ.2.1 4 = 512)) ∧ σ = σ') := by
  refine ux_ofI (cc := cX3_isFull) (maxL := 1) (ret := (some .boolean)) (Ts := wsX3_isFull) (lv := [(0, .ref (ad 3))]) (by decide) rfl (fun _ h => h) (Nat.le_of_ble_eq_true rfl) rfl ?_
  intro p e s m below meth c C
  refine ux_aload_n C dX3_isFull_0 0 rfl ?_
  refine ux_get C flX3_isFull_15 3 rfl rfl rfl dX3_isFull_1 ?_
  refine ux_sipush C (nI 512) dX3_isFull_4 (by decide) ?_
  refine ux_icmp_ne C 14 dX3_isFull_7 (by decide) (fun h => ?_) (fun h => ?_)
  · refine ux_iconst C ((0 : Int32)) dX3_isFull_14 (by decide) ?_
    exact ux_zret C dX3_isFull_15 rfl (⟨by rw [decide_eq_false (fun e => h (by rw [e]))]; rfl, rfl⟩)
  · refine ux_iconst C ((1 : Int32)) dX3_isFull_10 (by decide) ?_
    refine ux_goto C 15 dX3_isFull_11 (by decide) ?_
    exact ux_zret C dX3_isFull_15 rfl (⟨by rw [decide_eq_true ((nI_eq (by omega) (by omega)).mp h)]; rfl, rfl⟩)
set_option maxHeartbeats 4000000 in
set_option maxRecDepth 100000 in
theorem c_X3_now (l : Launch) (D : va_G) (ad : Nat → Nat) (cA : Nat → ClassId) (A : Nat → Prop) (σ : ST) : ux_I l D vwCl (tyU cA) (wU ad cA) A yX3_now wsX3_now (ux_rm 0) [.ref (ad 3)] σ (fun r σ' => r = nI (σ.2.1 4) ∧ σ = σ') := by
  refine ux_ofI (cc := cX3_now) (maxL := 1) (ret := (some .int)) (Ts := wsX3_now) (lv := [(0, .ref (ad 3))]) (by decide) rfl (fun _ h => h) (Nat.le_of_ble_eq_true rfl) rfl ?_
  intro p e s m below meth c C
  refine ux_aload_n C dX3_now_0 0 rfl ?_
  refine ux_get C flX3_now_15 3 rfl rfl rfl dX3_now_1 ?_
  exact ux_iret C dX3_now_4 (⟨rfl, rfl⟩)
set_option maxHeartbeats 4000000 in
set_option maxRecDepth 100000 in
theorem c_X3_timeOf (l : Launch) (D : va_G) (ad : Nat → Nat) (cA : Nat → ClassId) (A : Nat → Prop) (σ : ST) (k : Nat) : ux_I l D vwCl (tyU cA) (wU ad cA) A yX3_timeOf wsX3_timeOf (ux_rm 0) [.ref (ad 3), .int (nI k)] σ (fun r σ' => r = nI (k + 1) ∧ σ = σ') := by
  refine ux_ofI (cc := cX3_timeOf) (maxL := 2) (ret := (some .int)) (Ts := wsX3_timeOf) (lv := [(0, .ref (ad 3)), (1, .int (nI k))]) (by decide) rfl (fun _ h => h) (Nat.le_of_ble_eq_true rfl) rfl ?_
  intro p e s m below meth c C
  refine ux_iload_n C dX3_timeOf_0 1 rfl ?_
  refine ux_iconst C ((1 : Int32)) dX3_timeOf_1 (by decide) ?_
  refine ux_iadd C dX3_timeOf_2 ?_
  exact ux_iret C dX3_timeOf_3 (⟨nI_1 _, rfl⟩)
set_option maxHeartbeats 4000000 in
set_option maxRecDepth 100000 in
theorem c_X3_countOf (l : Launch) (D : va_G) (ad : Nat → Nat) (cA : Nat → ClassId) (A : Nat → Prop) (σ : ST) (t : Int32) (hm : σ.2.1 4 ≤ 512) : ux_I l D vwCl (tyU cA) (wU ad cA) A yX3_countOf wsX3_countOf (ux_rm 0) [.ref (ad 3), .int t] σ (fun r σ' => r = nI (pq_cnt (fun r => decide (σ.1 14 r = t)) (σ.2.1 4)) ∧ σ = σ') := by
  refine ux_ofI (cc := cX3_countOf) (maxL := 4) (ret := (some .int)) (Ts := wsX3_countOf) (lv := [(0, .ref (ad 3)), (1, .int t)]) (by decide) rfl (fun _ h => h) (Nat.le_of_ble_eq_true rfl) rfl ?_
  intro p e s m below meth c C
  have loop : ∀ (k i : Nat), σ.2.1 4 + 1 ≤ i + k → i ≤ σ.2.1 4 → ux_V p l e (ux_rm 0) s m ([.ref (ad 3), .int t] : List Value).toArray below meth c (MQ below (va_Qi (fun r σ' => r = nI (pq_cnt (fun r => decide (σ.1 14 r = t)) (σ.2.1 4)) ∧ σ = σ') (fun σ' t => va_P D vwCl (wU ad cA σ') t.heap) A) ([.ref (ad 3), .int t] : List Value).toArray s 0 0 A) 4 D vwCl (wU ad cA) A 0 0 σ 4 [(3, .int (nI i)), (2, .int (nI (pq_cnt (fun r => decide (σ.1 14 r = t)) i))), (0, .ref (ad 3)), (1, .int t)] [] := by
    intro k
    induction k with
    | zero => intro i h1 h2; omega
    | succ k ih =>
      intro i h1 h2
      refine ux_iload_n C dX3_countOf_4 0 rfl ?_
      refine ux_aload_n C dX3_countOf_5 2 rfl ?_
      refine ux_get C flX3_countOf_15 3 rfl rfl rfl dX3_countOf_6 ?_
      refine ux_icmp_ge C 31 dX3_countOf_9 (by decide) (fun hc => ?_) (fun hc => ?_)
      · have hc := (nI_leI (by omega) (by omega)).mp hc
        have e : i = σ.2.1 4 := by omega
        subst e
        refine ux_iload_n C dX3_countOf_31 1 rfl ?_
        exact ux_iret C dX3_countOf_32 (⟨rfl, rfl⟩)
      · have hc := mt (nI_leI (by omega) (by omega)).mpr hc
        have hih := ih (i + 1) (by omega) (by omega)
        simp only [pq_cnt] at hih
        refine ux_aload_n C dX3_countOf_12 2 rfl ?_
        refine ux_get C flX3_countOf_9 3 rfl rfl rfl dX3_countOf_13 ?_
        refine ux_iload_n C dX3_countOf_16 0 rfl ?_
        refine ux_iald C 22 14 (i) rfl rfl (rfl) (by omega) (by decide) dX3_countOf_17 ?_
        refine ux_iload_n C dX3_countOf_18 3 rfl ?_
        refine ux_icmp_ne C 25 dX3_countOf_19 (by decide) (fun h4 => ?_) (fun h4 => ?_)
        · rw [if_neg (by simp [h4])] at hih
          refine ux_iinc C (nI (i + 1)) [(3, _), (2, _), (0, _), (1, _)] dX3_countOf_25 0 rfl (pq_inc i) (by decide) rfl ?_
          refine ux_goto C 4 dX3_countOf_28 (by decide) ?_
          exact hih
        · rw [if_pos (by simp [h4])] at hih
          refine ux_iinc C (nI (_ + 1)) [(2, _), (3, _), (0, _), (1, _)] dX3_countOf_22 1 rfl (pq_inc _) (by decide) rfl ?_
          refine ux_iinc C (nI (i + 1)) [(3, _), (2, _), (0, _), (1, _)] dX3_countOf_25 1 rfl (pq_inc i) (by decide) rfl ?_
          refine ux_goto C 4 dX3_countOf_28 (by decide) ?_
          exact hih
  refine ux_iconst C (nI 0) dX3_countOf_0 (by decide) ?_
  refine ux_istore_n C [(2, _), (0, _), (1, _)] dX3_countOf_1 rfl (by decide) rfl ?_
  refine ux_iconst C (nI 0) dX3_countOf_2 (by decide) ?_
  refine ux_istore_n C [(3, _), (2, _), (0, _), (1, _)] dX3_countOf_3 rfl (by decide) rfl ?_
  exact loop (σ.2.1 4 + 1) 0 (by omega) (by omega)
set_option maxHeartbeats 4000000 in
set_option maxRecDepth 100000 in
theorem c_X3_find (l : Launch) (D : va_G) (ad : Nat → Nat) (cA : Nat → ClassId) (A : Nat → Prop) (σ : ST) (t x : Int32) (hm : σ.2.1 4 ≤ 512) : ux_I l D vwCl (tyU cA) (wU ad cA) A yX3_find wsX3_find (ux_rm 0) [.ref (ad 3), .int t, .int x] σ (fun r σ' => r = pq_o (pq_fst (fun r => decide (σ.1 14 r = t) && decide (nI (pq_cnt (fun r => decide (σ.1 14 r = t)) r) = x)) (σ.2.1 4)) ∧ σ = σ') := by
  refine ux_ofI (cc := cX3_find) (maxL := 5) (ret := (some .int)) (Ts := wsX3_find) (lv := [(0, .ref (ad 3)), (1, .int t), (2, .int x)]) (by decide) rfl (fun _ h => h) (Nat.le_of_ble_eq_true rfl) rfl ?_
  intro p e s m below meth c C
  have loop : ∀ (k i : Nat), σ.2.1 4 + 1 ≤ i + k → i ≤ σ.2.1 4 → (∀ j, j < i → (decide (σ.1 14 j = t) && decide (nI (pq_cnt (fun r => decide (σ.1 14 r = t)) j) = x)) = false) → ux_V p l e (ux_rm 0) s m ([.ref (ad 3), .int t, .int x] : List Value).toArray below meth c (MQ below (va_Qi (fun r σ' => r = pq_o (pq_fst (fun r => decide (σ.1 14 r = t) && decide (nI (pq_cnt (fun r => decide (σ.1 14 r = t)) r) = x)) (σ.2.1 4)) ∧ σ = σ') (fun σ' t => va_P D vwCl (wU ad cA σ') t.heap) A) ([.ref (ad 3), .int t, .int x] : List Value).toArray s 0 0 A) 5 D vwCl (wU ad cA) A 0 0 σ 5 [(4, .int (nI i)), (3, .int (nI (pq_cnt (fun r => decide (σ.1 14 r = t)) i))), (0, .ref (ad 3)), (1, .int t), (2, .int x)] [] := by
    intro k
    induction k with
    | zero => intro i h1 h2; omega
    | succ k ih =>
      intro i h1 h2 h3
      refine ux_iload C dX3_find_5 0 rfl ?_
      refine ux_aload_n C dX3_find_7 2 rfl ?_
      refine ux_get C flX3_find_15 3 rfl rfl rfl dX3_find_8 ?_
      refine ux_icmp_ge C 42 dX3_find_11 (by decide) (fun hc => ?_) (fun hc => ?_)
      · have hc := (nI_leI (by omega) (by omega)).mp hc
        have e : i = σ.2.1 4 := by omega
        subst e
        refine ux_iconst C ((-1 : Int32)) dX3_find_42 (by decide) ?_
        exact ux_iret C dX3_find_43 (⟨by rw [pq_fst_none.mpr h3]; rfl, rfl⟩)
      · have hc := mt (nI_leI (by omega) (by omega)).mpr hc
        have hih := fun (hz : (decide (σ.1 14 i = t) && decide (nI (pq_cnt (fun r => decide (σ.1 14 r = t)) i) = x)) = false) => ih (i + 1) (by omega) (by omega) (fun j hj => (Nat.lt_succ_iff_lt_or_eq.mp hj).elim (h3 j) (fun e => by rw [e]; exact hz))
        simp only [pq_cnt] at hih
        refine ux_aload_n C dX3_find_14 2 rfl ?_
        refine ux_get C flX3_find_9 3 rfl rfl rfl dX3_find_15 ?_
        refine ux_iload C dX3_find_18 0 rfl ?_
        refine ux_iald C 22 14 (i) rfl rfl (rfl) (by omega) (by decide) dX3_find_20 ?_
        refine ux_iload_n C dX3_find_21 3 rfl ?_
        refine ux_icmp_ne C 36 dX3_find_22 (by decide) (fun h4 => ?_) (fun h4 => ?_)
        · rw [if_neg (by simp [h4])] at hih
          refine ux_iinc C (nI (i + 1)) [(4, _), (3, _), (0, _), (1, _), (2, _)] dX3_find_36 0 rfl (pq_inc i) (by decide) rfl ?_
          refine ux_goto C 5 dX3_find_39 (by decide) ?_
          exact hih (by simp [h4])
        · rw [if_pos (by simp [h4])] at hih
          refine ux_iload_n C dX3_find_25 1 rfl ?_
          refine ux_iload_n C dX3_find_26 4 rfl ?_
          refine ux_icmp_ne C 33 dX3_find_27 (by decide) (fun h5 => ?_) (fun h5 => ?_)
          · refine ux_iinc C (nI (_ + 1)) [(3, _), (4, _), (0, _), (1, _), (2, _)] dX3_find_33 1 rfl (pq_inc _) (by decide) rfl ?_
            refine ux_iinc C (nI (i + 1)) [(4, _), (3, _), (0, _), (1, _), (2, _)] dX3_find_36 1 rfl (pq_inc i) (by decide) rfl ?_
            refine ux_goto C 5 dX3_find_39 (by decide) ?_
            exact hih (by simp [h5])
          · refine ux_iload C dX3_find_30 0 rfl ?_
            exact ux_iret C dX3_find_32 (⟨by rw [pq_fst_some.mpr ⟨by omega, by simp [h4, h5], h3⟩]; rfl, rfl⟩)
  refine ux_iconst C (nI 0) dX3_find_0 (by decide) ?_
  refine ux_istore_n C [(3, _), (0, _), (1, _), (2, _)] dX3_find_1 rfl (by decide) rfl ?_
  refine ux_iconst C (nI 0) dX3_find_2 (by decide) ?_
  refine ux_istore C [(4, _), (3, _), (0, _), (1, _), (2, _)] dX3_find_3 (by decide) rfl ?_
  exact loop (σ.2.1 4 + 1) 0 (by omega) (by omega) (fun j hj => by omega)
set_option maxHeartbeats 4000000 in
set_option maxRecDepth 100000 in
theorem c_X3_add (l : Launch) (D : va_G) (ad : Nat → Nat) (cA : Nat → ClassId) (A : Nat → Prop) (σ : ST) (t : Int32) (hm : σ.2.1 4 < 512) : ux_I l D vwCl (tyU cA) (wU ad cA) A yX3_add wsX3_add (ux_rm 1) [.ref (ad 3), .int t] σ (fun r σ' => r = nI (pq_cnt (fun r => decide (σ.1 14 r = t)) (σ.2.1 4)) ∧ σ' = sf (sa σ 14 (upd (σ.1 14) (σ.2.1 4) t)) 4 (σ.2.1 4 + 1)) := by
  refine ux_ofI (cc := cX3_add) (maxL := 3) (ret := (some .int)) (Ts := wsX3_add) (lv := [(0, .ref (ad 3)), (1, .int t)]) (by decide) rfl (fun _ h => h) (Nat.le_of_ble_eq_true rfl) rfl ?_
  intro p e s m below meth c C
  refine ux_aload_n C dX3_add_0 0 rfl ?_
  refine ux_iload_n C dX3_add_1 1 rfl ?_
  refine ux_callI C gkX3_add_19 (c_X3_countOf l D ad cA A σ t (by omega)) rfl ⟨rfl, rfl⟩ ⟨(Nat.le_of_ble_eq_true rfl), (Nat.le_of_ble_eq_true rfl)⟩ ⟨Nat.le_refl _, Nat.le_refl _⟩ 3 rfl rfl rfl rfl (Nat.le_of_ble_eq_true rfl) dX3_add_2 (fun r σ1 hr => ?_)
  obtain ⟨rfl, rfl⟩ := hr
  refine ux_istore_n C [(2, _), (0, _), (1, _)] dX3_add_5 rfl (by decide) rfl ?_
  refine ux_aload_n C dX3_add_6 1 rfl ?_
  refine ux_get C flX3_add_9 3 rfl rfl rfl dX3_add_7 ?_
  refine ux_aload_n C dX3_add_10 1 rfl ?_
  refine ux_get C flX3_add_15 3 rfl rfl rfl dX3_add_11 ?_
  refine ux_iload_n C dX3_add_14 2 rfl ?_
  refine ux_iast C 22 14 (σ.2.1 4) rfl rfl (rfl) (by omega) (by decide) dX3_add_15 _ (awU_14 _ _ _ _) ?_
  refine ux_aload_n C dX3_add_16 1 rfl ?_
  refine ux_dup C dX3_add_17 rfl ?_
  refine ux_get C flX3_add_15 3 rfl rfl rfl dX3_add_18 ?_
  refine ux_iconst C ((1 : Int32)) dX3_add_21 (by decide) ?_
  refine ux_iadd C dX3_add_22 ?_
  refine ux_top (nI (σ.2.1 4 + 1)) (nI_1 _) ?_
  refine ux_putI C flX3_add_15 fiU_4 3 rfl rfl (Nat.le_of_ble_eq_true rfl) dX3_add_23 _ (fwU_4 _ _ _ _) ?_
  refine ux_iload_n C dX3_add_26 0 rfl ?_
  exact ux_iret C dX3_add_27 (⟨rfl, rfl⟩)
set_option maxHeartbeats 4000000 in
set_option maxRecDepth 100000 in
theorem c_X3_dropAfter (l : Launch) (D : va_G) (ad : Nat → Nat) (cA : Nat → ClassId) (A : Nat → Prop) (σ : ST) (t x : Int32) (a : Nat) (hx : x + 1 = nI a) (ha : a ≤ σ.2.1 4) (hm : σ.2.1 4 ≤ 512) : ux_N l D vwCl (tyU cA) (wU ad cA) A yX3_dropAfter wsX3_dropAfter (ux_rm 0) [.ref (ad 3), .int t, .int x] σ (fun σ' => σ' = sa σ 14 (pq_msk (fun r => decide (a ≤ r) && decide (σ.1 14 r = t)) (-1) (σ.1 14) (σ.2.1 4))) := by
  refine ux_ofN (cc := cX3_dropAfter) (maxL := 4) (ret := none) (Ts := wsX3_dropAfter) (lv := [(0, .ref (ad 3)), (1, .int t), (2, .int x)]) (by decide) rfl (fun _ h => h) (Nat.le_of_ble_eq_true rfl) rfl ?_
  intro p e s m below meth c C
  have loop : ∀ (k i : Nat), σ.2.1 4 + 1 ≤ i + k → a ≤ i → i ≤ σ.2.1 4 → ux_V p l e (ux_rm 0) s m ([.ref (ad 3), .int t, .int x] : List Value).toArray below meth c (MQ below (va_Qv (fun σ' => σ' = sa σ 14 (pq_msk (fun r => decide (a ≤ r) && decide (σ.1 14 r = t)) (-1) (σ.1 14) (σ.2.1 4))) (fun σ' t => va_P D vwCl (wU ad cA σ') t.heap) A) ([.ref (ad 3), .int t, .int x] : List Value).toArray s 0 0 A) 4 D vwCl (wU ad cA) A 0 0 (sa σ 14 (pq_msk (fun r => decide (a ≤ r) && decide (σ.1 14 r = t)) (-1) (σ.1 14) i)) 4 [(3, .int (nI i)), (0, .ref (ad 3)), (1, .int t), (2, .int x)] [] := by
    intro k
    induction k with
    | zero => intro i h1 h2 h3; omega
    | succ k ih =>
      intro i h1 h2 h3
      refine ux_iload_n C dX3_dropAfter_4 0 rfl ?_
      refine ux_aload_n C dX3_dropAfter_5 1 rfl ?_
      refine ux_get C flX3_dropAfter_15 3 rfl rfl rfl dX3_dropAfter_6 ?_
      refine ux_icmp_ge C 35 dX3_dropAfter_9 (by decide) (fun hc => ?_) (fun hc => ?_)
      · have hc : nI (σ.2.1 4) ≤ nI i := hc
        have hc := (nI_leI (by omega) (by omega)).mp hc
        have e : i = σ.2.1 4 := by omega
        subst e
        exact ux_vret C dX3_dropAfter_35 (rfl)
      · have hc : ¬ nI (σ.2.1 4) ≤ nI i := hc
        have hc := mt (nI_leI (by omega) (by omega)).mpr hc
        have hih := ih (i + 1) (by omega) (by omega) (by omega)
        refine ux_aload_n C dX3_dropAfter_12 1 rfl ?_
        refine ux_get C flX3_dropAfter_9 3 rfl rfl rfl dX3_dropAfter_13 ?_
        refine ux_iload_n C dX3_dropAfter_16 0 rfl ?_
        refine ux_iald C 22 14 (i) rfl rfl (rfl) (by omega) (by decide) dX3_dropAfter_17 ?_
        refine ux_top _ (congrFun (sa_eq _ _ _) _) ?_
        refine ux_top _ (pq_msk_at _ _ _ _) ?_
        refine ux_iload_n C dX3_dropAfter_18 2 rfl ?_
        refine ux_icmp_ne C 29 dX3_dropAfter_19 (by decide) (fun h4 => ?_) (fun h4 => ?_)
        · rw [← pq_msk_f (by simp [h4])] at hih
          refine ux_iinc C (nI (i + 1)) [(3, _), (0, _), (1, _), (2, _)] dX3_dropAfter_29 0 rfl (pq_inc i) (by decide) rfl ?_
          refine ux_goto C 4 dX3_dropAfter_32 (by decide) ?_
          exact hih
        · rw [← pq_msk_t (by simp [h4, h2])] at hih
          refine ux_aload_n C dX3_dropAfter_22 1 rfl ?_
          refine ux_get C flX3_dropAfter_9 3 rfl rfl rfl dX3_dropAfter_23 ?_
          refine ux_iload_n C dX3_dropAfter_26 0 rfl ?_
          refine ux_iconst C ((-1 : Int32)) dX3_dropAfter_27 (by decide) ?_
          refine ux_iast C 22 14 (i) rfl rfl (rfl) (by omega) (by decide) dX3_dropAfter_28 _ (awU_14 _ _ _ _) ?_
          refine ux_iinc C (nI (i + 1)) [(3, _), (0, _), (1, _), (2, _)] dX3_dropAfter_29 0 rfl (pq_inc i) (by decide) rfl ?_
          refine ux_goto C 4 dX3_dropAfter_32 (by decide) ?_
          refine ux_at (sa_sa _ _ _ _) ?_
          exact hih
  refine ux_iload_n C dX3_dropAfter_0 2 rfl ?_
  refine ux_iconst C ((1 : Int32)) dX3_dropAfter_1 (by decide) ?_
  refine ux_iadd C dX3_dropAfter_2 ?_
  refine ux_top (nI a) hx ?_
  refine ux_istore_n C [(3, _), (0, _), (1, _), (2, _)] dX3_dropAfter_3 rfl (by decide) rfl ?_
  refine ux_at (sa_self σ 14).symm ?_
  have hl := loop (σ.2.1 4 + 1) a (by omega) (by omega) ha
  rw [pq_msk_id (i := a) (fun j hj => by simp [show ¬ a ≤ j by omega])] at hl
  exact hl
set_option maxHeartbeats 4000000 in
set_option maxRecDepth 100000 in
theorem c_X3_drop (l : Launch) (D : va_G) (ad : Nat → Nat) (cA : Nat → ClassId) (A : Nat → Prop) (σ : ST) (t : Int32) (hm : σ.2.1 4 ≤ 512) : ux_N l D vwCl (tyU cA) (wU ad cA) A yX3_drop wsX3_drop (ux_rm 1) [.ref (ad 3), .int t] σ (fun σ' => σ' = sa σ 14 (pq_msk (fun r => decide (σ.1 14 r = t)) (-1) (σ.1 14) (σ.2.1 4))) := by
  refine ux_ofN (cc := cX3_drop) (maxL := 2) (ret := none) (Ts := wsX3_drop) (lv := [(0, .ref (ad 3)), (1, .int t)]) (by decide) rfl (fun _ h => h) (Nat.le_of_ble_eq_true rfl) rfl ?_
  intro p e s m below meth c C
  refine ux_aload_n C dX3_drop_0 0 rfl ?_
  refine ux_iload_n C dX3_drop_1 1 rfl ?_
  refine ux_iconst C ((-1 : Int32)) dX3_drop_2 (by decide) ?_
  refine ux_callN C gkX3_drop_23 (c_X3_dropAfter l D ad cA A σ t (-1) 0 (by decide) (by omega) hm) rfl ⟨rfl, rfl⟩ ⟨(Nat.le_of_ble_eq_true rfl), (Nat.le_of_ble_eq_true rfl)⟩ ⟨Nat.le_refl _, Nat.le_refl _⟩ 3 rfl rfl rfl rfl (Nat.le_of_ble_eq_true rfl) dX3_drop_3 (fun σ1 hr => ?_)
  exact ux_vret C dX3_drop_6 (hr.trans (by simp))
set_option maxHeartbeats 4000000 in
set_option maxRecDepth 100000 in
theorem c_X5_has (l : Launch) (D : va_G) (ad : Nat → Nat) (cA : Nat → ClassId) (A : Nat → Prop) (σ : ST) (k : Nat) (hk : k ≤ 150) : ux_I l D vwCl (tyU cA) (wU ad cA) A yX5_has wsX5_has (ux_rm 0) [.ref (ad 5), .int (nI k)] σ (fun r σ' => r = pq_b (!decide (σ.1 16 k = 0)) ∧ σ = σ') := by
  refine ux_ofI (cc := cX5_has) (maxL := 2) (ret := (some .boolean)) (Ts := wsX5_has) (lv := [(0, .ref (ad 5)), (1, .int (nI k))]) (by decide) rfl (fun _ h => h) (Nat.le_of_ble_eq_true rfl) rfl ?_
  intro p e s m below meth c C
  refine ux_aload_n C dX5_has_0 0 rfl ?_
  refine ux_get C flX5_has_15 5 rfl rfl rfl dX5_has_1 ?_
  refine ux_iload_n C dX5_has_4 1 rfl ?_
  refine ux_iald C 24 16 (_) rfl rfl (rfl) (by omega) (by decide) dX5_has_5 ?_
  refine ux_if_eq C 13 dX5_has_6 (by decide) (fun h => ?_) (fun h => ?_)
  · refine ux_iconst C ((0 : Int32)) dX5_has_13 (by decide) ?_
    exact ux_zret C dX5_has_14 rfl (⟨by rw [decide_eq_true h]; rfl, rfl⟩)
  · refine ux_iconst C ((1 : Int32)) dX5_has_9 (by decide) ?_
    refine ux_goto C 14 dX5_has_10 (by decide) ?_
    exact ux_zret C dX5_has_14 rfl (⟨by rw [decide_eq_false h]; rfl, rfl⟩)
set_option maxHeartbeats 4000000 in
set_option maxRecDepth 100000 in
theorem c_X5_slotOf (l : Launch) (D : va_G) (ad : Nat → Nat) (cA : Nat → ClassId) (A : Nat → Prop) (σ : ST) (k : Nat) (hk : k ≤ 150) : ux_I l D vwCl (tyU cA) (wU ad cA) A yX5_slotOf wsX5_slotOf (ux_rm 0) [.ref (ad 5), .int (nI k)] σ (fun r σ' => r = σ.1 15 k ∧ σ = σ') := by
  refine ux_ofI (cc := cX5_slotOf) (maxL := 2) (ret := (some .int)) (Ts := wsX5_slotOf) (lv := [(0, .ref (ad 5)), (1, .int (nI k))]) (by decide) rfl (fun _ h => h) (Nat.le_of_ble_eq_true rfl) rfl ?_
  intro p e s m below meth c C
  refine ux_aload_n C dX5_slotOf_0 0 rfl ?_
  refine ux_get C flX5_slotOf_9 5 rfl rfl rfl dX5_slotOf_1 ?_
  refine ux_iload_n C dX5_slotOf_4 1 rfl ?_
  refine ux_iald C 23 15 (_) rfl rfl (rfl) (by omega) (by decide) dX5_slotOf_5 ?_
  exact ux_iret C dX5_slotOf_6 (⟨rfl, rfl⟩)
set_option maxHeartbeats 4000000 in
set_option maxRecDepth 100000 in
theorem c_X5_kindOf (l : Launch) (D : va_G) (ad : Nat → Nat) (cA : Nat → ClassId) (A : Nat → Prop) (σ : ST) (k : Nat) (hk : k ≤ 150) : ux_I l D vwCl (tyU cA) (wU ad cA) A yX5_kindOf wsX5_kindOf (ux_rm 0) [.ref (ad 5), .int (nI k)] σ (fun r σ' => r = σ.1 16 k ∧ σ = σ') := by
  refine ux_ofI (cc := cX5_kindOf) (maxL := 2) (ret := (some .int)) (Ts := wsX5_kindOf) (lv := [(0, .ref (ad 5)), (1, .int (nI k))]) (by decide) rfl (fun _ h => h) (Nat.le_of_ble_eq_true rfl) rfl ?_
  intro p e s m below meth c C
  refine ux_aload_n C dX5_kindOf_0 0 rfl ?_
  refine ux_get C flX5_kindOf_15 5 rfl rfl rfl dX5_kindOf_1 ?_
  refine ux_iload_n C dX5_kindOf_4 1 rfl ?_
  refine ux_iald C 24 16 (_) rfl rfl (rfl) (by omega) (by decide) dX5_kindOf_5 ?_
  exact ux_iret C dX5_kindOf_6 (⟨rfl, rfl⟩)
set_option maxHeartbeats 4000000 in
set_option maxRecDepth 100000 in
theorem c_X5_set (l : Launch) (D : va_G) (ad : Nat → Nat) (cA : Nat → ClassId) (A : Nat → Prop) (σ : ST) (k : Nat) (x y : Int32) (hk : k ≤ 150) : ux_N l D vwCl (tyU cA) (wU ad cA) A yX5_set wsX5_set (ux_rm 0) [.ref (ad 5), .int (nI k), .int x, .int y] σ (fun σ' => σ' = sa (sa σ 15 (upd (σ.1 15) k x)) 16 (upd (σ.1 16) k y)) := by
  refine ux_ofN (cc := cX5_set) (maxL := 4) (ret := none) (Ts := wsX5_set) (lv := [(0, .ref (ad 5)), (1, .int (nI k)), (2, .int x), (3, .int y)]) (by decide) rfl (fun _ h => h) (Nat.le_of_ble_eq_true rfl) rfl ?_
  intro p e s m below meth c C
  refine ux_aload_n C dX5_set_0 0 rfl ?_
  refine ux_get C flX5_set_9 5 rfl rfl rfl dX5_set_1 ?_
  refine ux_iload_n C dX5_set_4 1 rfl ?_
  refine ux_iload_n C dX5_set_5 2 rfl ?_
  refine ux_iast C 23 15 (_) rfl rfl (rfl) (by omega) (by decide) dX5_set_6 _ (awU_15 _ _ _ _) ?_
  refine ux_aload_n C dX5_set_7 0 rfl ?_
  refine ux_get C flX5_set_15 5 rfl rfl rfl dX5_set_8 ?_
  refine ux_iload_n C dX5_set_11 1 rfl ?_
  refine ux_iload_n C dX5_set_12 3 rfl ?_
  refine ux_iast C 24 16 (_) rfl rfl (rfl) (by omega) (by decide) dX5_set_13 _ (awU_16 _ _ _ _) ?_
  exact ux_vret C dX5_set_14 (rfl)
set_option maxHeartbeats 4000000 in
set_option maxRecDepth 100000 in
theorem c_X5_clear (l : Launch) (D : va_G) (ad : Nat → Nat) (cA : Nat → ClassId) (A : Nat → Prop) (σ : ST) (k : Nat) (hk : k ≤ 150) : ux_N l D vwCl (tyU cA) (wU ad cA) A yX5_clear wsX5_clear (ux_rm 0) [.ref (ad 5), .int (nI k)] σ (fun σ' => σ' = sa σ 16 (upd (σ.1 16) k 0)) := by
  refine ux_ofN (cc := cX5_clear) (maxL := 2) (ret := none) (Ts := wsX5_clear) (lv := [(0, .ref (ad 5)), (1, .int (nI k))]) (by decide) rfl (fun _ h => h) (Nat.le_of_ble_eq_true rfl) rfl ?_
  intro p e s m below meth c C
  refine ux_aload_n C dX5_clear_0 0 rfl ?_
  refine ux_get C flX5_clear_15 5 rfl rfl rfl dX5_clear_1 ?_
  refine ux_iload_n C dX5_clear_4 1 rfl ?_
  refine ux_iconst C ((0 : Int32)) dX5_clear_5 (by decide) ?_
  refine ux_iast C 24 16 (_) rfl rfl (rfl) (by omega) (by decide) dX5_clear_6 _ (awU_16 _ _ _ _) ?_
  exact ux_vret C dX5_clear_7 (rfl)
end
section
theorem hiX1_isFull_1 : ∀ w ∈ wsX10, w ∈ wsX1_isFull := by decide +kernel
theorem flX1_isFull_21 : ux_F wsX1_isFull RX1 21 RX1 TX1 4 3 := ⟨hiX1_isFull_1, by decide, by decide +kernel⟩
theorem hiX1_find_1 : ∀ w ∈ wsX10, w ∈ wsX1_find := by decide +kernel
theorem flX1_find_21 : ux_F wsX1_find RX1 21 RX1 TX1 4 3 := ⟨hiX1_find_1, by decide, by decide +kernel⟩
theorem flX1_find_9 : ux_F wsX1_find RX1 9 RX1 TX1 4 0 := ⟨hiX1_find_1, by decide, by decide +kernel⟩
theorem flX1_find_15 : ux_F wsX1_find RX1 15 RX1 TX1 4 1 := ⟨hiX1_find_1, by decide, by decide +kernel⟩
theorem hiX1_kindOf_1 : ∀ w ∈ wsX10, w ∈ wsX1_kindOf := by decide +kernel
theorem flX1_kindOf_18 : ux_F wsX1_kindOf RX1 18 RX1 TX1 4 2 := ⟨hiX1_kindOf_1, by decide, by decide +kernel⟩
theorem hiX1_countOf_1 : ∀ w ∈ wsX10, w ∈ wsX1_countOf := by decide +kernel
theorem flX1_countOf_21 : ux_F wsX1_countOf RX1 21 RX1 TX1 4 3 := ⟨hiX1_countOf_1, by decide, by decide +kernel⟩
theorem flX1_countOf_9 : ux_F wsX1_countOf RX1 9 RX1 TX1 4 0 := ⟨hiX1_countOf_1, by decide, by decide +kernel⟩
theorem flX1_countOf_18 : ux_F wsX1_countOf RX1 18 RX1 TX1 4 2 := ⟨hiX1_countOf_1, by decide, by decide +kernel⟩
theorem hiX1_drop_1 : ∀ w ∈ wsX10, w ∈ wsX1_drop := by decide +kernel
theorem flX1_drop_21 : ux_F wsX1_drop RX1 21 RX1 TX1 4 3 := ⟨hiX1_drop_1, by decide, by decide +kernel⟩
theorem flX1_drop_9 : ux_F wsX1_drop RX1 9 RX1 TX1 4 0 := ⟨hiX1_drop_1, by decide, by decide +kernel⟩
theorem hiX1_isInTheWay_1 : ∀ w ∈ wsX10, w ∈ wsX1_isInTheWay := by decide +kernel
theorem flX1_isInTheWay_15 : ux_F wsX1_isInTheWay RX1 15 RX1 TX1 4 1 := ⟨hiX1_isInTheWay_1, by decide, by decide +kernel⟩
theorem flX1_isInTheWay_9 : ux_F wsX1_isInTheWay RX1 9 RX1 TX1 4 0 := ⟨hiX1_isInTheWay_1, by decide, by decide +kernel⟩
theorem flX1_isInTheWay_18 : ux_F wsX1_isInTheWay RX1 18 RX1 TX1 4 2 := ⟨hiX1_isInTheWay_1, by decide, by decide +kernel⟩
theorem hiX1_leastInTheWay_1 : ∀ w ∈ wsX10, w ∈ wsX1_leastInTheWay := by decide +kernel
theorem flX1_leastInTheWay_21 : ux_F wsX1_leastInTheWay RX1 21 RX1 TX1 4 3 := ⟨hiX1_leastInTheWay_1, by decide, by decide +kernel⟩
theorem flX1_leastInTheWay_9 : ux_F wsX1_leastInTheWay RX1 9 RX1 TX1 4 0 := ⟨hiX1_leastInTheWay_1, by decide, by decide +kernel⟩
theorem hiX1_add_1 : ∀ w ∈ wsX10, w ∈ wsX1_add := by decide +kernel
theorem flX1_add_9 : ux_F wsX1_add RX1 9 RX1 TX1 4 0 := ⟨hiX1_add_1, by decide, by decide +kernel⟩
theorem flX1_add_21 : ux_F wsX1_add RX1 21 RX1 TX1 4 3 := ⟨hiX1_add_1, by decide, by decide +kernel⟩
theorem flX1_add_15 : ux_F wsX1_add RX1 15 RX1 TX1 4 1 := ⟨hiX1_add_1, by decide, by decide +kernel⟩
theorem flX1_add_18 : ux_F wsX1_add RX1 18 RX1 TX1 4 2 := ⟨hiX1_add_1, by decide, by decide +kernel⟩
theorem gkX1_kindOf_25 : ux_G wsX1_kindOf RX1 25 RX1 yX1_find wsX1_find 2 := ⟨gX1_kindOf_X1_find, by decide +kernel⟩
theorem gkX1_leastInTheWay_34 : ux_G wsX1_leastInTheWay RX1 34 RX1 yX1_isInTheWay wsX1_isInTheWay 4 := ⟨gX1_leastInTheWay_X1_isInTheWay, by decide +kernel⟩
theorem gkX1_add_25 : ux_G wsX1_add RX1 25 RX1 yX1_find wsX1_find 2 := ⟨gX1_add_X1_find, by decide +kernel⟩
set_option maxHeartbeats 4000000 in
set_option maxRecDepth 100000 in
theorem c_X1_isFull (l : Launch) (D : va_G) (ad : Nat → Nat) (cA : Nat → ClassId) (A : Nat → Prop) (σ : ST) (hm : σ.2.1 3 ≤ 512) : ux_I l D vwCl (tyU cA) (wU ad cA) A yX1_isFull wsX1_isFull (ux_rm 0) [.ref (ad 1)] σ (fun r σ' => r = pq_b (decide (σ.2.1 3 = 512)) ∧ σ = σ') := by
  refine ux_ofI (cc := cX1_isFull) (maxL := 1) (ret := (some .boolean)) (Ts := wsX1_isFull) (lv := [(0, .ref (ad 1))]) (by decide) rfl (fun _ h => h) (Nat.le_of_ble_eq_true rfl) rfl ?_
  intro p e s m below meth c C
  refine ux_aload_n C dX1_isFull_0 0 rfl ?_
  refine ux_get C flX1_isFull_21 1 rfl rfl rfl dX1_isFull_1 ?_
  refine ux_sipush C (nI 512) dX1_isFull_4 (by decide) ?_
  refine ux_icmp_ne C 14 dX1_isFull_7 (by decide) (fun h => ?_) (fun h => ?_)
  · refine ux_iconst C ((0 : Int32)) dX1_isFull_14 (by decide) ?_
    exact ux_zret C dX1_isFull_15 rfl (⟨by rw [decide_eq_false (fun e => h (by rw [e]))]; rfl, rfl⟩)
  · refine ux_iconst C ((1 : Int32)) dX1_isFull_10 (by decide) ?_
    refine ux_goto C 15 dX1_isFull_11 (by decide) ?_
    exact ux_zret C dX1_isFull_15 rfl (⟨by rw [decide_eq_true ((nI_eq (by omega) (by omega)).mp h)]; rfl, rfl⟩)
set_option maxHeartbeats 4000000 in
set_option maxRecDepth 100000 in
theorem c_X1_find (l : Launch) (D : va_G) (ad : Nat → Nat) (cA : Nat → ClassId) (A : Nat → Prop) (σ : ST) (t x : Int32) (hm : σ.2.1 3 ≤ 512) : ux_I l D vwCl (tyU cA) (wU ad cA) A yX1_find wsX1_find (ux_rm 0) [.ref (ad 1), .int t, .int x] σ (fun r σ' => r = pq_o (pq_fst (fun r => decide (σ.1 11 r = t) && decide (σ.1 12 r = x)) (σ.2.1 3)) ∧ σ = σ') := by
  refine ux_ofI (cc := cX1_find) (maxL := 4) (ret := (some .int)) (Ts := wsX1_find) (lv := [(0, .ref (ad 1)), (1, .int t), (2, .int x)]) (by decide) rfl (fun _ h => h) (Nat.le_of_ble_eq_true rfl) rfl ?_
  intro p e s m below meth c C
  have loop : ∀ (k i : Nat), σ.2.1 3 + 1 ≤ i + k → i ≤ σ.2.1 3 → (∀ j, j < i → (decide (σ.1 11 j = t) && decide (σ.1 12 j = x)) = false) → ux_V p l e (ux_rm 0) s m ([.ref (ad 1), .int t, .int x] : List Value).toArray below meth c (MQ below (va_Qi (fun r σ' => r = pq_o (pq_fst (fun r => decide (σ.1 11 r = t) && decide (σ.1 12 r = x)) (σ.2.1 3)) ∧ σ = σ') (fun σ' t => va_P D vwCl (wU ad cA σ') t.heap) A) ([.ref (ad 1), .int t, .int x] : List Value).toArray s 0 0 A) 4 D vwCl (wU ad cA) A 0 0 σ 2 [(3, .int (nI i)), (0, .ref (ad 1)), (1, .int t), (2, .int x)] [] := by
    intro k
    induction k with
    | zero => intro i h1 h2; omega
    | succ k ih =>
      intro i h1 h2 h3
      refine ux_iload_n C dX1_find_2 0 rfl ?_
      refine ux_aload_n C dX1_find_3 1 rfl ?_
      refine ux_get C flX1_find_21 1 rfl rfl rfl dX1_find_4 ?_
      refine ux_icmp_ge C 38 dX1_find_7 (by decide) (fun hc => ?_) (fun hc => ?_)
      · have hc := (nI_leI (by omega) (by omega)).mp hc
        have e : i = σ.2.1 3 := by omega
        subst e
        refine ux_iconst C ((-1 : Int32)) dX1_find_38 (by decide) ?_
        exact ux_iret C dX1_find_39 (⟨by rw [pq_fst_none.mpr h3]; rfl, rfl⟩)
      · have hc := mt (nI_leI (by omega) (by omega)).mpr hc
        have hih := fun (hz : (decide (σ.1 11 i = t) && decide (σ.1 12 i = x)) = false) => ih (i + 1) (by omega) (by omega) (fun j hj => (Nat.lt_succ_iff_lt_or_eq.mp hj).elim (h3 j) (fun e => by rw [e]; exact hz))
        refine ux_aload_n C dX1_find_10 1 rfl ?_
        refine ux_get C flX1_find_9 1 rfl rfl rfl dX1_find_11 ?_
        refine ux_iload_n C dX1_find_14 0 rfl ?_
        refine ux_iald C 19 11 (i) rfl rfl (rfl) (by omega) (by decide) dX1_find_15 ?_
        refine ux_iload_n C dX1_find_16 2 rfl ?_
        refine ux_icmp_ne C 32 dX1_find_17 (by decide) (fun h4 => ?_) (fun h4 => ?_)
        · refine ux_iinc C (nI (i + 1)) [(3, _), (0, _), (1, _), (2, _)] dX1_find_32 0 rfl (pq_inc i) (by decide) rfl ?_
          refine ux_goto C 2 dX1_find_35 (by decide) ?_
          exact hih (by simp [h4])
        · refine ux_aload_n C dX1_find_20 1 rfl ?_
          refine ux_get C flX1_find_15 1 rfl rfl rfl dX1_find_21 ?_
          refine ux_iload_n C dX1_find_24 0 rfl ?_
          refine ux_iald C 20 12 (i) rfl rfl (rfl) (by omega) (by decide) dX1_find_25 ?_
          refine ux_iload_n C dX1_find_26 3 rfl ?_
          refine ux_icmp_ne C 32 dX1_find_27 (by decide) (fun h5 => ?_) (fun h5 => ?_)
          · refine ux_iinc C (nI (i + 1)) [(3, _), (0, _), (1, _), (2, _)] dX1_find_32 0 rfl (pq_inc i) (by decide) rfl ?_
            refine ux_goto C 2 dX1_find_35 (by decide) ?_
            exact hih (by simp [h5])
          · refine ux_iload_n C dX1_find_30 0 rfl ?_
            exact ux_iret C dX1_find_31 (⟨by rw [pq_fst_some.mpr ⟨by omega, by simp [h4, h5], h3⟩]; rfl, rfl⟩)
  refine ux_iconst C (nI 0) dX1_find_0 (by decide) ?_
  refine ux_istore_n C [(3, _), (0, _), (1, _), (2, _)] dX1_find_1 rfl (by decide) rfl ?_
  exact loop (σ.2.1 3 + 1) 0 (by omega) (by omega) (fun j hj => by omega)
set_option maxHeartbeats 4000000 in
set_option maxRecDepth 100000 in
theorem c_X1_kindOf (l : Launch) (D : va_G) (ad : Nat → Nat) (cA : Nat → ClassId) (A : Nat → Prop) (σ : ST) (t x : Int32) (hm : σ.2.1 3 ≤ 512) : ux_I l D vwCl (tyU cA) (wU ad cA) A yX1_kindOf wsX1_kindOf (ux_rm 1) [.ref (ad 1), .int t, .int x] σ (fun r σ' => r = (match pq_fst (fun r => decide (σ.1 11 r = t) && decide (σ.1 12 r = x)) (σ.2.1 3) with | none => 0 | some q => σ.1 13 q) ∧ σ = σ') := by
  refine ux_ofI (cc := cX1_kindOf) (maxL := 4) (ret := (some .int)) (Ts := wsX1_kindOf) (lv := [(0, .ref (ad 1)), (1, .int t), (2, .int x)]) (by decide) rfl (fun _ h => h) (Nat.le_of_ble_eq_true rfl) rfl ?_
  intro p e s m below meth c C
  refine ux_aload_n C dX1_kindOf_0 0 rfl ?_
  refine ux_iload_n C dX1_kindOf_1 1 rfl ?_
  refine ux_iload_n C dX1_kindOf_2 2 rfl ?_
  refine ux_callI C gkX1_kindOf_25 (c_X1_find l D ad cA A σ t x hm) rfl ⟨rfl, rfl⟩ ⟨(Nat.le_of_ble_eq_true rfl), (Nat.le_of_ble_eq_true rfl)⟩ ⟨Nat.le_refl _, Nat.le_refl _⟩ 1 rfl rfl rfl rfl (Nat.le_of_ble_eq_true rfl) dX1_kindOf_3 (fun r σ1 hr => ?_)
  obtain ⟨hr, rfl⟩ := hr
  cases hf : pq_fst (fun r => decide (σ.1 11 r = t) && decide (σ.1 12 r = x)) (σ.2.1 3) with
  | none =>
    rw [hf] at hr
    have hr : r = -1 := hr
    subst hr
    refine ux_istore_n C [(3, _), (0, _), (1, _), (2, _)] dX1_kindOf_6 rfl (by decide) rfl ?_
    refine ux_iload_n C dX1_kindOf_7 0 rfl ?_
    refine ux_iconst C ((-1 : Int32)) dX1_kindOf_8 (by decide) ?_
    refine ux_icmp_ne C 16 dX1_kindOf_9 (by decide) (fun h => ?_) (fun h => ?_)
    · exact absurd rfl h
    · refine ux_iconst C ((0 : Int32)) dX1_kindOf_12 (by decide) ?_
      refine ux_goto C 22 dX1_kindOf_13 (by decide) ?_
      exact ux_iret C dX1_kindOf_22 (⟨rfl, rfl⟩)
  | some q =>
    rw [hf] at hr
    have hr : r = nI q := hr
    subst hr
    have hq := (pq_fst_some.mp hf).1
    refine ux_istore_n C [(3, _), (0, _), (1, _), (2, _)] dX1_kindOf_6 rfl (by decide) rfl ?_
    refine ux_iload_n C dX1_kindOf_7 0 rfl ?_
    refine ux_iconst C ((-1 : Int32)) dX1_kindOf_8 (by decide) ?_
    refine ux_icmp_ne C 16 dX1_kindOf_9 (by decide) (fun h => ?_) (fun h => ?_)
    · refine ux_aload_n C dX1_kindOf_16 1 rfl ?_
      refine ux_get C flX1_kindOf_18 1 rfl rfl rfl dX1_kindOf_17 ?_
      refine ux_iload_n C dX1_kindOf_20 0 rfl ?_
      refine ux_iald C 21 13 (q) rfl rfl (rfl) (by omega) (by decide) dX1_kindOf_21 ?_
      exact ux_iret C dX1_kindOf_22 (⟨rfl, rfl⟩)
    · exact absurd h (pq_nI_m1 (by omega))
set_option maxHeartbeats 4000000 in
set_option maxRecDepth 100000 in
theorem c_X1_countOf (l : Launch) (D : va_G) (ad : Nat → Nat) (cA : Nat → ClassId) (A : Nat → Prop) (σ : ST) (t x : Int32) (hm : σ.2.1 3 ≤ 512) : ux_I l D vwCl (tyU cA) (wU ad cA) A yX1_countOf wsX1_countOf (ux_rm 0) [.ref (ad 1), .int t, .int x] σ (fun r σ' => r = nI (pq_cnt (fun r => decide (σ.1 11 r = t) && decide (σ.1 13 r = x)) (σ.2.1 3)) ∧ σ = σ') := by
  refine ux_ofI (cc := cX1_countOf) (maxL := 5) (ret := (some .int)) (Ts := wsX1_countOf) (lv := [(0, .ref (ad 1)), (1, .int t), (2, .int x)]) (by decide) rfl (fun _ h => h) (Nat.le_of_ble_eq_true rfl) rfl ?_
  intro p e s m below meth c C
  have loop : ∀ (k i : Nat), σ.2.1 3 + 1 ≤ i + k → i ≤ σ.2.1 3 → ux_V p l e (ux_rm 0) s m ([.ref (ad 1), .int t, .int x] : List Value).toArray below meth c (MQ below (va_Qi (fun r σ' => r = nI (pq_cnt (fun r => decide (σ.1 11 r = t) && decide (σ.1 13 r = x)) (σ.2.1 3)) ∧ σ = σ') (fun σ' t => va_P D vwCl (wU ad cA σ') t.heap) A) ([.ref (ad 1), .int t, .int x] : List Value).toArray s 0 0 A) 5 D vwCl (wU ad cA) A 0 0 σ 5 [(4, .int (nI i)), (3, .int (nI (pq_cnt (fun r => decide (σ.1 11 r = t) && decide (σ.1 13 r = x)) i))), (0, .ref (ad 1)), (1, .int t), (2, .int x)] [] := by
    intro k
    induction k with
    | zero => intro i h1 h2; omega
    | succ k ih =>
      intro i h1 h2
      refine ux_iload C dX1_countOf_5 0 rfl ?_
      refine ux_aload_n C dX1_countOf_7 2 rfl ?_
      refine ux_get C flX1_countOf_21 1 rfl rfl rfl dX1_countOf_8 ?_
      refine ux_icmp_ge C 45 dX1_countOf_11 (by decide) (fun hc => ?_) (fun hc => ?_)
      · have hc := (nI_leI (by omega) (by omega)).mp hc
        have e : i = σ.2.1 3 := by omega
        subst e
        refine ux_iload_n C dX1_countOf_45 1 rfl ?_
        exact ux_iret C dX1_countOf_46 (⟨rfl, rfl⟩)
      · have hc := mt (nI_leI (by omega) (by omega)).mpr hc
        have hih := ih (i + 1) (by omega) (by omega)
        simp only [pq_cnt] at hih
        refine ux_aload_n C dX1_countOf_14 2 rfl ?_
        refine ux_get C flX1_countOf_9 1 rfl rfl rfl dX1_countOf_15 ?_
        refine ux_iload C dX1_countOf_18 0 rfl ?_
        refine ux_iald C 19 11 (i) rfl rfl (rfl) (by omega) (by decide) dX1_countOf_20 ?_
        refine ux_iload_n C dX1_countOf_21 3 rfl ?_
        refine ux_icmp_ne C 39 dX1_countOf_22 (by decide) (fun h4 => ?_) (fun h4 => ?_)
        · rw [if_neg (by simp [h4])] at hih
          refine ux_iinc C (nI (i + 1)) [(4, _), (3, _), (0, _), (1, _), (2, _)] dX1_countOf_39 0 rfl (pq_inc i) (by decide) rfl ?_
          refine ux_goto C 5 dX1_countOf_42 (by decide) ?_
          exact hih
        · refine ux_aload_n C dX1_countOf_25 2 rfl ?_
          refine ux_get C flX1_countOf_18 1 rfl rfl rfl dX1_countOf_26 ?_
          refine ux_iload C dX1_countOf_29 0 rfl ?_
          refine ux_iald C 21 13 (i) rfl rfl (rfl) (by omega) (by decide) dX1_countOf_31 ?_
          refine ux_iload_n C dX1_countOf_32 4 rfl ?_
          refine ux_icmp_ne C 39 dX1_countOf_33 (by decide) (fun h5 => ?_) (fun h5 => ?_)
          · rw [if_neg (by simp [h5])] at hih
            refine ux_iinc C (nI (i + 1)) [(4, _), (3, _), (0, _), (1, _), (2, _)] dX1_countOf_39 0 rfl (pq_inc i) (by decide) rfl ?_
            refine ux_goto C 5 dX1_countOf_42 (by decide) ?_
            exact hih
          · rw [if_pos (by simp [h4, h5])] at hih
            refine ux_iinc C (nI (_ + 1)) [(3, _), (4, _), (0, _), (1, _), (2, _)] dX1_countOf_36 1 rfl (pq_inc _) (by decide) rfl ?_
            refine ux_iinc C (nI (i + 1)) [(4, _), (3, _), (0, _), (1, _), (2, _)] dX1_countOf_39 1 rfl (pq_inc i) (by decide) rfl ?_
            refine ux_goto C 5 dX1_countOf_42 (by decide) ?_
            exact hih
  refine ux_iconst C (nI 0) dX1_countOf_0 (by decide) ?_
  refine ux_istore_n C [(3, _), (0, _), (1, _), (2, _)] dX1_countOf_1 rfl (by decide) rfl ?_
  refine ux_iconst C (nI 0) dX1_countOf_2 (by decide) ?_
  refine ux_istore C [(4, _), (3, _), (0, _), (1, _), (2, _)] dX1_countOf_3 (by decide) rfl ?_
  exact loop (σ.2.1 3 + 1) 0 (by omega) (by omega)
set_option maxHeartbeats 4000000 in
set_option maxRecDepth 100000 in
theorem c_X1_drop (l : Launch) (D : va_G) (ad : Nat → Nat) (cA : Nat → ClassId) (A : Nat → Prop) (σ : ST) (t : Int32) (hm : σ.2.1 3 ≤ 512) : ux_N l D vwCl (tyU cA) (wU ad cA) A yX1_drop wsX1_drop (ux_rm 0) [.ref (ad 1), .int t] σ (fun σ' => σ' = sa σ 11 (pq_msk (fun r => decide (σ.1 11 r = t)) (-1) (σ.1 11) (σ.2.1 3))) := by
  refine ux_ofN (cc := cX1_drop) (maxL := 3) (ret := none) (Ts := wsX1_drop) (lv := [(0, .ref (ad 1)), (1, .int t)]) (by decide) rfl (fun _ h => h) (Nat.le_of_ble_eq_true rfl) rfl ?_
  intro p e s m below meth c C
  have loop : ∀ (k i : Nat), σ.2.1 3 + 1 ≤ i + k → i ≤ σ.2.1 3 → ux_V p l e (ux_rm 0) s m ([.ref (ad 1), .int t] : List Value).toArray below meth c (MQ below (va_Qv (fun σ' => σ' = sa σ 11 (pq_msk (fun r => decide (σ.1 11 r = t)) (-1) (σ.1 11) (σ.2.1 3))) (fun σ' t => va_P D vwCl (wU ad cA σ') t.heap) A) ([.ref (ad 1), .int t] : List Value).toArray s 0 0 A) 3 D vwCl (wU ad cA) A 0 0 (sa σ 11 (pq_msk (fun r => decide (σ.1 11 r = t)) (-1) (σ.1 11) i)) 2 [(2, .int (nI i)), (0, .ref (ad 1)), (1, .int t)] [] := by
    intro k
    induction k with
    | zero => intro i h1 h2; omega
    | succ k ih =>
      intro i h1 h2
      refine ux_iload_n C dX1_drop_2 0 rfl ?_
      refine ux_aload_n C dX1_drop_3 1 rfl ?_
      refine ux_get C flX1_drop_21 1 rfl rfl rfl dX1_drop_4 ?_
      refine ux_icmp_ge C 33 dX1_drop_7 (by decide) (fun hc => ?_) (fun hc => ?_)
      · have hc : nI (σ.2.1 3) ≤ nI i := hc
        have hc := (nI_leI (by omega) (by omega)).mp hc
        have e : i = σ.2.1 3 := by omega
        subst e
        exact ux_vret C dX1_drop_33 (rfl)
      · have hc : ¬ nI (σ.2.1 3) ≤ nI i := hc
        have hc := mt (nI_leI (by omega) (by omega)).mpr hc
        have hih := ih (i + 1) (by omega) (by omega)
        refine ux_aload_n C dX1_drop_10 1 rfl ?_
        refine ux_get C flX1_drop_9 1 rfl rfl rfl dX1_drop_11 ?_
        refine ux_iload_n C dX1_drop_14 0 rfl ?_
        refine ux_iald C 19 11 (i) rfl rfl (rfl) (by omega) (by decide) dX1_drop_15 ?_
        refine ux_top _ (congrFun (sa_eq _ _ _) _) ?_
        refine ux_top _ (pq_msk_at _ _ _ _) ?_
        refine ux_iload_n C dX1_drop_16 2 rfl ?_
        refine ux_icmp_ne C 27 dX1_drop_17 (by decide) (fun h4 => ?_) (fun h4 => ?_)
        · rw [← pq_msk_f (by simp [h4])] at hih
          refine ux_iinc C (nI (i + 1)) [(2, _), (0, _), (1, _)] dX1_drop_27 0 rfl (pq_inc i) (by decide) rfl ?_
          refine ux_goto C 2 dX1_drop_30 (by decide) ?_
          exact hih
        · rw [← pq_msk_t (by simp [h4])] at hih
          refine ux_aload_n C dX1_drop_20 1 rfl ?_
          refine ux_get C flX1_drop_9 1 rfl rfl rfl dX1_drop_21 ?_
          refine ux_iload_n C dX1_drop_24 0 rfl ?_
          refine ux_iconst C ((-1 : Int32)) dX1_drop_25 (by decide) ?_
          refine ux_iast C 19 11 (i) rfl rfl (rfl) (by omega) (by decide) dX1_drop_26 _ (awU_11 _ _ _ _) ?_
          refine ux_iinc C (nI (i + 1)) [(2, _), (0, _), (1, _)] dX1_drop_27 0 rfl (pq_inc i) (by decide) rfl ?_
          refine ux_goto C 2 dX1_drop_30 (by decide) ?_
          refine ux_at (sa_sa _ _ _ _) ?_
          exact hih
  refine ux_iconst C (nI 0) dX1_drop_0 (by decide) ?_
  refine ux_istore_n C [(2, _), (0, _), (1, _)] dX1_drop_1 rfl (by decide) rfl ?_
  refine ux_at (sa_self σ 11).symm ?_
  have hl := loop (σ.2.1 3 + 1) 0 (by omega) (by omega)
  rw [pq_msk_id (i := 0) (fun j hj => by omega)] at hl
  exact hl
set_option maxHeartbeats 4000000 in
set_option maxRecDepth 100000 in
theorem c_X1_isInTheWay (l : Launch) (D : va_G) (ad : Nat → Nat) (cA : Nat → ClassId) (A : Nat → Prop) (σ : ST) (r : Nat) (x y : Int32) (hr : r < 512) (ho : σ.1 11 r = -1 ∨ ∃ o, o ≤ 150 ∧ σ.1 11 r = nI o) : ux_I l D vwCl (tyU cA) (wU ad cA) A yX1_isInTheWay wsX1_isInTheWay (ux_rm 0) [.ref (ad 1), .int (nI r), .int x, .int y, .ref (ad 10)] σ (fun z σ' => z = pq_b (pq_way σ x y r) ∧ σ = σ') := by
  refine ux_ofI (cc := cX1_isInTheWay) (maxL := 5) (ret := (some .boolean)) (Ts := wsX1_isInTheWay) (lv := [(0, .ref (ad 1)), (1, .int (nI r)), (2, .int x), (3, .int y), (4, .ref (ad 10))]) (by decide) rfl (fun _ h => h) (Nat.le_of_ble_eq_true rfl) rfl ?_
  intro p e s m below meth c C
  refine ux_aload_n C dX1_isInTheWay_0 0 rfl ?_
  refine ux_get C flX1_isInTheWay_15 1 rfl rfl rfl dX1_isInTheWay_1 ?_
  refine ux_iload_n C dX1_isInTheWay_4 1 rfl ?_
  refine ux_iald C 20 12 (r) rfl rfl (rfl) (hr) (by decide) dX1_isInTheWay_5 ?_
  refine ux_iload_n C dX1_isInTheWay_6 2 rfl ?_
  refine ux_icmp_ne C 32 dX1_isInTheWay_7 (by decide) (fun h1 => ?_) (fun h1 => ?_)
  · refine ux_iconst C ((0 : Int32)) dX1_isInTheWay_32 (by decide) ?_
    exact ux_zret C dX1_isInTheWay_33 rfl (⟨by simp [pq_way, pq_b, h1], rfl⟩)
  · refine ux_aload_n C dX1_isInTheWay_10 0 rfl ?_
    refine ux_get C flX1_isInTheWay_9 1 rfl rfl rfl dX1_isInTheWay_11 ?_
    refine ux_iload_n C dX1_isInTheWay_14 1 rfl ?_
    refine ux_iald C 19 11 (r) rfl rfl (rfl) (hr) (by decide) dX1_isInTheWay_15 ?_
    refine ux_iconst C ((-1 : Int32)) dX1_isInTheWay_16 (by decide) ?_
    refine ux_icmp_eq C 32 dX1_isInTheWay_17 (by decide) (fun h2 => ?_) (fun h2 => ?_)
    · refine ux_iconst C ((0 : Int32)) dX1_isInTheWay_32 (by decide) ?_
      exact ux_zret C dX1_isInTheWay_33 rfl (⟨by simp [pq_way, pq_b, h2], rfl⟩)
    · obtain ⟨o, o1, o2⟩ := ho.resolve_left h2
      have hw : pq_way σ x y r = (decide (σ.1 2 o = 0) && (decide (y = 2) || decide (σ.1 13 r = 2))) := by
        unfold pq_way
        rw [decide_eq_true h1, decide_eq_false h2, o2, nI_clamp (by omega)]
        rfl
      rw [hw]
      refine ux_aload C dX1_isInTheWay_20 4 rfl ?_
      refine ux_aload_n C dX1_isInTheWay_22 0 rfl ?_
      refine ux_get C flX1_isInTheWay_9 1 rfl rfl rfl dX1_isInTheWay_23 ?_
      refine ux_iload_n C dX1_isInTheWay_26 1 rfl ?_
      refine ux_iald C 19 11 (r) rfl rfl (rfl) (hr) (by decide) dX1_isInTheWay_27 ?_
      refine ux_zald C 10 2 (o) rfl rfl (o2) (by omega) (by decide) dX1_isInTheWay_28 ?_
      refine ux_if_eq C 34 dX1_isInTheWay_29 (by decide) (fun h3 => ?_) (fun h3 => ?_)
      · refine ux_iload_n C dX1_isInTheWay_34 3 rfl ?_
        refine ux_iconst C ((2 : Int32)) dX1_isInTheWay_35 (by decide) ?_
        refine ux_icmp_eq C 49 dX1_isInTheWay_36 (by decide) (fun h4 => ?_) (fun h4 => ?_)
        · refine ux_iconst C ((1 : Int32)) dX1_isInTheWay_49 (by decide) ?_
          refine ux_goto C 54 dX1_isInTheWay_50 (by decide) ?_
          exact ux_zret C dX1_isInTheWay_54 rfl (⟨by rw [decide_eq_true h3, decide_eq_true h4]; rfl, rfl⟩)
        · refine ux_aload_n C dX1_isInTheWay_39 0 rfl ?_
          refine ux_get C flX1_isInTheWay_18 1 rfl rfl rfl dX1_isInTheWay_40 ?_
          refine ux_iload_n C dX1_isInTheWay_43 1 rfl ?_
          refine ux_iald C 21 13 (r) rfl rfl (rfl) (hr) (by decide) dX1_isInTheWay_44 ?_
          refine ux_iconst C ((2 : Int32)) dX1_isInTheWay_45 (by decide) ?_
          refine ux_icmp_ne C 53 dX1_isInTheWay_46 (by decide) (fun h5 => ?_) (fun h5 => ?_)
          · refine ux_iconst C ((0 : Int32)) dX1_isInTheWay_53 (by decide) ?_
            exact ux_zret C dX1_isInTheWay_54 rfl (⟨by rw [decide_eq_true h3, decide_eq_false h4, decide_eq_false h5]; rfl, rfl⟩)
          · refine ux_iconst C ((1 : Int32)) dX1_isInTheWay_49 (by decide) ?_
            refine ux_goto C 54 dX1_isInTheWay_50 (by decide) ?_
            exact ux_zret C dX1_isInTheWay_54 rfl (⟨by rw [decide_eq_true h3, decide_eq_false h4, decide_eq_true h5]; rfl, rfl⟩)
      · refine ux_iconst C ((0 : Int32)) dX1_isInTheWay_32 (by decide) ?_
        exact ux_zret C dX1_isInTheWay_33 rfl (⟨by rw [decide_eq_false h3]; rfl, rfl⟩)
set_option maxHeartbeats 4000000 in
set_option maxRecDepth 100000 in
theorem c_X1_leastInTheWay (l : Launch) (D : va_G) (ad : Nat → Nat) (cA : Nat → ClassId) (A : Nat → Prop) (σ : ST) (x y : Int32) (hm : σ.2.1 3 ≤ 512) (hO : ∀ r, r < σ.2.1 3 → σ.1 11 r = -1 ∨ ∃ o, o ≤ 150 ∧ σ.1 11 r = nI o) : ux_I l D vwCl (tyU cA) (wU ad cA) A yX1_leastInTheWay wsX1_leastInTheWay (ux_rm 1) [.ref (ad 1), .int x, .int y, .ref (ad 10)] σ (fun r σ' => r = pq_lw (pq_way σ x y) (σ.1 11) (σ.2.1 3) ∧ σ = σ') := by
  refine ux_ofI (cc := cX1_leastInTheWay) (maxL := 6) (ret := (some .int)) (Ts := wsX1_leastInTheWay) (lv := [(0, .ref (ad 1)), (1, .int x), (2, .int y), (3, .ref (ad 10))]) (by decide) rfl (fun _ h => h) (Nat.le_of_ble_eq_true rfl) rfl ?_
  intro p e s m below meth c C
  have loop : ∀ (k i : Nat), σ.2.1 3 + 1 ≤ i + k → i ≤ σ.2.1 3 → ux_V p l e (ux_rm 1) s m ([.ref (ad 1), .int x, .int y, .ref (ad 10)] : List Value).toArray below meth c (MQ below (va_Qi (fun r σ' => r = pq_lw (pq_way σ x y) (σ.1 11) (σ.2.1 3) ∧ σ = σ') (fun σ' t => va_P D vwCl (wU ad cA σ') t.heap) A) ([.ref (ad 1), .int x, .int y, .ref (ad 10)] : List Value).toArray s 0 0 A) 6 D vwCl (wU ad cA) A 0 0 σ 6 [(5, .int (nI i)), (4, .int (pq_lw (pq_way σ x y) (σ.1 11) i)), (0, .ref (ad 1)), (1, .int x), (2, .int y), (3, .ref (ad 10))] [] := by
    intro k
    induction k with
    | zero => intro i h1 h2; omega
    | succ k ih =>
      intro i h1 h2
      refine ux_iload C dX1_leastInTheWay_6 0 rfl ?_
      refine ux_aload_n C dX1_leastInTheWay_8 2 rfl ?_
      refine ux_get C flX1_leastInTheWay_21 1 rfl rfl rfl dX1_leastInTheWay_9 ?_
      refine ux_icmp_ge C 59 dX1_leastInTheWay_12 (by decide) (fun hc => ?_) (fun hc => ?_)
      · have hc := (nI_leI (by omega) (by omega)).mp hc
        have e : i = σ.2.1 3 := by omega
        subst e
        refine ux_iload C dX1_leastInTheWay_59 1 rfl ?_
        exact ux_iret C dX1_leastInTheWay_61 (⟨rfl, rfl⟩)
      · have hc := mt (nI_leI (by omega) (by omega)).mpr hc
        have hih := ih (i + 1) (by omega) (by omega)
        simp only [pq_lw] at hih
        refine ux_aload_n C dX1_leastInTheWay_15 2 rfl ?_
        refine ux_iload C dX1_leastInTheWay_16 0 rfl ?_
        refine ux_iload_n C dX1_leastInTheWay_18 3 rfl ?_
        refine ux_iload_n C dX1_leastInTheWay_19 4 rfl ?_
        refine ux_aload_n C dX1_leastInTheWay_20 5 rfl ?_
        refine ux_callI C gkX1_leastInTheWay_34 (c_X1_isInTheWay l D ad cA A σ i x y (by omega) (hO i (by omega))) rfl ⟨rfl, rfl⟩ ⟨(Nat.le_of_ble_eq_true rfl), (Nat.le_of_ble_eq_true rfl)⟩ ⟨Nat.le_refl _, Nat.le_refl _⟩ 1 rfl rfl rfl rfl (Nat.le_of_ble_eq_true rfl) dX1_leastInTheWay_21 (fun r σ1 hr => ?_)
        obtain ⟨rfl, rfl⟩ := hr
        refine ux_if_eq C 53 dX1_leastInTheWay_24 (by decide) (fun h4 => ?_) (fun h4 => ?_)
        · rw [if_neg (by simp [(pq_b0 _).mp h4])] at hih
          refine ux_iinc C (nI (i + 1)) [(5, _), (4, _), (0, _), (1, _), (2, _), (3, _)] dX1_leastInTheWay_53 0 rfl (pq_inc i) (by decide) rfl ?_
          refine ux_goto C 6 dX1_leastInTheWay_56 (by decide) ?_
          exact hih
        · have h4 := (pq_bn0 _).mp h4
          refine ux_iload C dX1_leastInTheWay_27 1 rfl ?_
          refine ux_if_eq C 44 dX1_leastInTheWay_29 (by decide) (fun h5 => ?_) (fun h5 => ?_)
          · rw [if_pos (by simp [h4, h5])] at hih
            refine ux_aload_n C dX1_leastInTheWay_44 2 rfl ?_
            refine ux_get C flX1_leastInTheWay_9 1 rfl rfl rfl dX1_leastInTheWay_45 ?_
            refine ux_iload C dX1_leastInTheWay_48 0 rfl ?_
            refine ux_iald C 19 11 (i) rfl rfl (rfl) (by omega) (by decide) dX1_leastInTheWay_50 ?_
            refine ux_istore C [(4, _), (5, _), (0, _), (1, _), (2, _), (3, _)] dX1_leastInTheWay_51 (by decide) rfl ?_
            refine ux_iinc C (nI (i + 1)) [(5, _), (4, _), (0, _), (1, _), (2, _), (3, _)] dX1_leastInTheWay_53 1 rfl (pq_inc i) (by decide) rfl ?_
            refine ux_goto C 6 dX1_leastInTheWay_56 (by decide) ?_
            exact hih
          · refine ux_aload_n C dX1_leastInTheWay_32 2 rfl ?_
            refine ux_get C flX1_leastInTheWay_9 1 rfl rfl rfl dX1_leastInTheWay_33 ?_
            refine ux_iload C dX1_leastInTheWay_36 0 rfl ?_
            refine ux_iald C 19 11 (i) rfl rfl (rfl) (by omega) (by decide) dX1_leastInTheWay_38 ?_
            refine ux_iload C dX1_leastInTheWay_39 1 rfl ?_
            refine ux_icmp_ge C 53 dX1_leastInTheWay_41 (by decide) (fun h6 => ?_) (fun h6 => ?_)
            · rw [if_neg (by simp [h5, Int32.not_lt.mpr h6])] at hih
              refine ux_iinc C (nI (i + 1)) [(5, _), (4, _), (0, _), (1, _), (2, _), (3, _)] dX1_leastInTheWay_53 0 rfl (pq_inc i) (by decide) rfl ?_
              refine ux_goto C 6 dX1_leastInTheWay_56 (by decide) ?_
              exact hih
            · rw [if_pos (by simp [h4, Int32.not_le.mp h6])] at hih
              refine ux_aload_n C dX1_leastInTheWay_44 2 rfl ?_
              refine ux_get C flX1_leastInTheWay_9 1 rfl rfl rfl dX1_leastInTheWay_45 ?_
              refine ux_iload C dX1_leastInTheWay_48 0 rfl ?_
              refine ux_iald C 19 11 (i) rfl rfl (rfl) (by omega) (by decide) dX1_leastInTheWay_50 ?_
              refine ux_istore C [(4, _), (5, _), (0, _), (1, _), (2, _), (3, _)] dX1_leastInTheWay_51 (by decide) rfl ?_
              refine ux_iinc C (nI (i + 1)) [(5, _), (4, _), (0, _), (1, _), (2, _), (3, _)] dX1_leastInTheWay_53 1 rfl (pq_inc i) (by decide) rfl ?_
              refine ux_goto C 6 dX1_leastInTheWay_56 (by decide) ?_
              exact hih
  refine ux_iconst C (0) dX1_leastInTheWay_0 (by decide) ?_
  refine ux_istore C [(4, _), (0, _), (1, _), (2, _), (3, _)] dX1_leastInTheWay_1 (by decide) rfl ?_
  refine ux_iconst C (nI 0) dX1_leastInTheWay_3 (by decide) ?_
  refine ux_istore C [(5, _), (4, _), (0, _), (1, _), (2, _), (3, _)] dX1_leastInTheWay_4 (by decide) rfl ?_
  exact loop (σ.2.1 3 + 1) 0 (by omega) (by omega)
set_option maxHeartbeats 4000000 in
set_option maxRecDepth 100000 in
theorem c_X1_add (l : Launch) (D : va_G) (ad : Nat → Nat) (cA : Nat → ClassId) (A : Nat → Prop) (σ : ST) (t x y : Int32) (hm : σ.2.1 3 < 512) : ux_N l D vwCl (tyU cA) (wU ad cA) A yX1_add wsX1_add (ux_rm 1) [.ref (ad 1), .int t, .int x, .int y] σ (fun σ' => (∃ q, pq_fst (fun r => decide (σ.1 11 r = t) && decide (σ.1 12 r = x)) (σ.2.1 3) = some q ∧ σ' = sa σ 13 (upd (σ.1 13) q (if σ.1 13 q < y then y else σ.1 13 q))) ∨ (pq_fst (fun r => decide (σ.1 11 r = t) && decide (σ.1 12 r = x)) (σ.2.1 3) = none ∧ σ' = sf (sa (sa (sa σ 11 (upd (σ.1 11) (σ.2.1 3) t)) 12 (upd (σ.1 12) (σ.2.1 3) x)) 13 (upd (σ.1 13) (σ.2.1 3) y)) 3 (σ.2.1 3 + 1))) := by
  refine ux_ofN (cc := cX1_add) (maxL := 5) (ret := none) (Ts := wsX1_add) (lv := [(0, .ref (ad 1)), (1, .int t), (2, .int x), (3, .int y)]) (by decide) rfl (fun _ h => h) (Nat.le_of_ble_eq_true rfl) rfl ?_
  intro p e s m below meth c C
  refine ux_aload_n C dX1_add_0 0 rfl ?_
  refine ux_iload_n C dX1_add_1 1 rfl ?_
  refine ux_iload_n C dX1_add_2 2 rfl ?_
  refine ux_callI C gkX1_add_25 (c_X1_find l D ad cA A σ t x (by omega)) rfl ⟨rfl, rfl⟩ ⟨(Nat.le_of_ble_eq_true rfl), (Nat.le_of_ble_eq_true rfl)⟩ ⟨Nat.le_refl _, Nat.le_refl _⟩ 1 rfl rfl rfl rfl (Nat.le_of_ble_eq_true rfl) dX1_add_3 (fun r σ1 hr => ?_)
  obtain ⟨hr, rfl⟩ := hr
  cases hf : pq_fst (fun r => decide (σ.1 11 r = t) && decide (σ.1 12 r = x)) (σ.2.1 3) with
  | none =>
    rw [hf] at hr
    have hr : r = -1 := hr
    subst hr
    refine ux_istore C [(4, _), (0, _), (1, _), (2, _), (3, _)] dX1_add_6 (by decide) rfl ?_
    refine ux_iload C dX1_add_8 0 rfl ?_
    refine ux_iconst C ((-1 : Int32)) dX1_add_10 (by decide) ?_
    refine ux_icmp_eq C 33 dX1_add_11 (by decide) (fun h => ?_) (fun h => ?_)
    · refine ux_aload_n C dX1_add_33 1 rfl ?_
      refine ux_get C flX1_add_9 1 rfl rfl rfl dX1_add_34 ?_
      refine ux_aload_n C dX1_add_37 1 rfl ?_
      refine ux_get C flX1_add_21 1 rfl rfl rfl dX1_add_38 ?_
      refine ux_iload_n C dX1_add_41 2 rfl ?_
      refine ux_iast C 19 11 (σ.2.1 3) rfl rfl (rfl) (by omega) (by decide) dX1_add_42 _ (awU_11 _ _ _ _) ?_
      refine ux_aload_n C dX1_add_43 1 rfl ?_
      refine ux_get C flX1_add_15 1 rfl rfl rfl dX1_add_44 ?_
      refine ux_aload_n C dX1_add_47 1 rfl ?_
      refine ux_get C flX1_add_21 1 rfl rfl rfl dX1_add_48 ?_
      refine ux_iload_n C dX1_add_51 3 rfl ?_
      refine ux_iast C 20 12 (σ.2.1 3) rfl rfl (rfl) (by omega) (by decide) dX1_add_52 _ (awU_12 _ _ _ _) ?_
      refine ux_aload_n C dX1_add_53 1 rfl ?_
      refine ux_get C flX1_add_18 1 rfl rfl rfl dX1_add_54 ?_
      refine ux_aload_n C dX1_add_57 1 rfl ?_
      refine ux_get C flX1_add_21 1 rfl rfl rfl dX1_add_58 ?_
      refine ux_iload_n C dX1_add_61 4 rfl ?_
      refine ux_iast C 21 13 (σ.2.1 3) rfl rfl (rfl) (by omega) (by decide) dX1_add_62 _ (awU_13 _ _ _ _) ?_
      refine ux_aload_n C dX1_add_63 1 rfl ?_
      refine ux_dup C dX1_add_64 rfl ?_
      refine ux_get C flX1_add_21 1 rfl rfl rfl dX1_add_65 ?_
      refine ux_iconst C ((1 : Int32)) dX1_add_68 (by decide) ?_
      refine ux_iadd C dX1_add_69 ?_
      refine ux_top (nI (σ.2.1 3 + 1)) (nI_1 _) ?_
      refine ux_putI C flX1_add_21 fiU_3 1 rfl rfl (Nat.le_of_ble_eq_true rfl) dX1_add_70 _ (fwU_3 _ _ _ _) ?_
      exact ux_vret C dX1_add_73 (Or.inr ⟨rfl, rfl⟩)
    · exact absurd rfl h
  | some q =>
    rw [hf] at hr
    have hr : r = nI q := hr
    subst hr
    have hq := (pq_fst_some.mp hf).1
    refine ux_istore C [(4, _), (0, _), (1, _), (2, _), (3, _)] dX1_add_6 (by decide) rfl ?_
    refine ux_iload C dX1_add_8 0 rfl ?_
    refine ux_iconst C ((-1 : Int32)) dX1_add_10 (by decide) ?_
    refine ux_icmp_eq C 33 dX1_add_11 (by decide) (fun h => ?_) (fun h => ?_)
    · exact absurd h (pq_nI_m1 (by omega))
    · refine ux_aload_n C dX1_add_14 1 rfl ?_
      refine ux_get C flX1_add_18 1 rfl rfl rfl dX1_add_15 ?_
      refine ux_iload C dX1_add_18 0 rfl ?_
      refine ux_aload_n C dX1_add_20 1 rfl ?_
      refine ux_get C flX1_add_18 1 rfl rfl rfl dX1_add_21 ?_
      refine ux_iload C dX1_add_24 0 rfl ?_
      refine ux_iald C 21 13 (q) rfl rfl (rfl) (by omega) (by decide) dX1_add_26 ?_
      refine ux_iload_n C dX1_add_27 4 rfl ?_
      refine ux_mmax C (by decide +kernel) (by decide +kernel) (by decide +kernel) (List.mem_of_getElem? (i := 5) rfl) (Nat.le_of_ble_eq_true rfl) (Nat.le_of_ble_eq_true rfl) ⟨Nat.le_refl _, Nat.le_refl _⟩ dX1_add_28 ?_
      refine ux_iast C 21 13 (q) rfl rfl (rfl) (by omega) (by decide) dX1_add_31 _ (awU_13 _ _ _ _) ?_
      exact ux_vret C dX1_add_32 (Or.inl ⟨q, rfl, rfl⟩)
end
section
theorem hiX6_isFull_6 : ∀ w ∈ wsX60, w ∈ wsX6_isFull := by decide +kernel
theorem flX6_isFull_28 : ux_F wsX6_isFull RX6 28 RX6 TX6 8 5 := ⟨hiX6_isFull_6, by decide, by decide +kernel⟩
theorem hiX6_add_6 : ∀ w ∈ wsX60, w ∈ wsX6_add := by decide +kernel
theorem flX6_add_9 : ux_F wsX6_add RX6 9 RX6 TX6 8 0 := ⟨hiX6_add_6, by decide, by decide +kernel⟩
theorem flX6_add_28 : ux_F wsX6_add RX6 28 RX6 TX6 8 5 := ⟨hiX6_add_6, by decide, by decide +kernel⟩
theorem flX6_add_15 : ux_F wsX6_add RX6 15 RX6 TX6 8 1 := ⟨hiX6_add_6, by decide, by decide +kernel⟩
theorem flX6_add_18 : ux_F wsX6_add RX6 18 RX6 TX6 8 2 := ⟨hiX6_add_6, by decide, by decide +kernel⟩
theorem flX6_add_21 : ux_F wsX6_add RX6 21 RX6 TX6 8 3 := ⟨hiX6_add_6, by decide, by decide +kernel⟩
theorem flX6_add_25 : ux_F wsX6_add RX6 25 RX6 TX6 8 4 := ⟨hiX6_add_6, by decide, by decide +kernel⟩
theorem hiX6_findSeen_6 : ∀ w ∈ wsX60, w ∈ wsX6_findSeen := by decide +kernel
theorem flX6_findSeen_28 : ux_F wsX6_findSeen RX6 28 RX6 TX6 8 5 := ⟨hiX6_findSeen_6, by decide, by decide +kernel⟩
theorem flX6_findSeen_9 : ux_F wsX6_findSeen RX6 9 RX6 TX6 8 0 := ⟨hiX6_findSeen_6, by decide, by decide +kernel⟩
theorem flX6_findSeen_32 : ux_F wsX6_findSeen RX6 32 RX6 TX6 8 6 := ⟨hiX6_findSeen_6, by decide, by decide +kernel⟩
theorem flX6_findSeen_15 : ux_F wsX6_findSeen RX6 15 RX6 TX6 8 1 := ⟨hiX6_findSeen_6, by decide, by decide +kernel⟩
theorem hiX6_hasFound_6 : ∀ w ∈ wsX60, w ∈ wsX6_hasFound := by decide +kernel
theorem flX6_hasFound_32 : ux_F wsX6_hasFound RX6 32 RX6 TX6 8 6 := ⟨hiX6_hasFound_6, by decide, by decide +kernel⟩
theorem flX6_hasFound_21 : ux_F wsX6_hasFound RX6 21 RX6 TX6 8 3 := ⟨hiX6_hasFound_6, by decide, by decide +kernel⟩
theorem hiX6_valueFound_6 : ∀ w ∈ wsX60, w ∈ wsX6_valueFound := by decide +kernel
theorem flX6_valueFound_32 : ux_F wsX6_valueFound RX6 32 RX6 TX6 8 6 := ⟨hiX6_valueFound_6, by decide, by decide +kernel⟩
theorem flX6_valueFound_18 : ux_F wsX6_valueFound RX6 18 RX6 TX6 8 2 := ⟨hiX6_valueFound_6, by decide, by decide +kernel⟩
theorem hiX6_findOwn_6 : ∀ w ∈ wsX60, w ∈ wsX6_findOwn := by decide +kernel
theorem flX6_findOwn_28 : ux_F wsX6_findOwn RX6 28 RX6 TX6 8 5 := ⟨hiX6_findOwn_6, by decide, by decide +kernel⟩
theorem flX6_findOwn_9 : ux_F wsX6_findOwn RX6 9 RX6 TX6 8 0 := ⟨hiX6_findOwn_6, by decide, by decide +kernel⟩
theorem flX6_findOwn_15 : ux_F wsX6_findOwn RX6 15 RX6 TX6 8 1 := ⟨hiX6_findOwn_6, by decide, by decide +kernel⟩
theorem hiX6_keysOf_6 : ∀ w ∈ wsX60, w ∈ wsX6_keysOf := by decide +kernel
theorem flX6_keysOf_32 : ux_F wsX6_keysOf RX6 32 RX6 TX6 8 6 := ⟨hiX6_keysOf_6, by decide, by decide +kernel⟩
theorem hiX6_handOver_6 : ∀ w ∈ wsX60, w ∈ wsX6_handOver := by decide +kernel
theorem flX6_handOver_28 : ux_F wsX6_handOver RX6 28 RX6 TX6 8 5 := ⟨hiX6_handOver_6, by decide, by decide +kernel⟩
theorem flX6_handOver_9 : ux_F wsX6_handOver RX6 9 RX6 TX6 8 0 := ⟨hiX6_handOver_6, by decide, by decide +kernel⟩
theorem flX6_handOver_25 : ux_F wsX6_handOver RX6 25 RX6 TX6 8 4 := ⟨hiX6_handOver_6, by decide, by decide +kernel⟩
theorem hiX6_dropFrom_6 : ∀ w ∈ wsX60, w ∈ wsX6_dropFrom := by decide +kernel
theorem flX6_dropFrom_28 : ux_F wsX6_dropFrom RX6 28 RX6 TX6 8 5 := ⟨hiX6_dropFrom_6, by decide, by decide +kernel⟩
theorem flX6_dropFrom_9 : ux_F wsX6_dropFrom RX6 9 RX6 TX6 8 0 := ⟨hiX6_dropFrom_6, by decide, by decide +kernel⟩
theorem flX6_dropFrom_25 : ux_F wsX6_dropFrom RX6 25 RX6 TX6 8 4 := ⟨hiX6_dropFrom_6, by decide, by decide +kernel⟩
theorem hiX6_sayTheSame_6 : ∀ w ∈ wsX60, w ∈ wsX6_sayTheSame := by decide +kernel
theorem flX6_sayTheSame_21 : ux_F wsX6_sayTheSame RX6 21 RX6 TX6 8 3 := ⟨hiX6_sayTheSame_6, by decide, by decide +kernel⟩
theorem flX6_sayTheSame_18 : ux_F wsX6_sayTheSame RX6 18 RX6 TX6 8 2 := ⟨hiX6_sayTheSame_6, by decide, by decide +kernel⟩
theorem hiX6_undo_6 : ∀ w ∈ wsX60, w ∈ wsX6_undo := by decide +kernel
theorem flX6_undo_32 : ux_F wsX6_undo RX6 32 RX6 TX6 8 6 := ⟨hiX6_undo_6, by decide, by decide +kernel⟩
theorem flX6_undo_35 : ux_F wsX6_undo RX6 35 RX6 TX6 8 7 := ⟨hiX6_undo_6, by decide, by decide +kernel⟩
theorem gkX6_findSeen_38 : ux_GS wsX6_findSeen RX6 38 yJ7_fill_53178 wsJ7_fill_53178 2 := ⟨gX6_findSeen_J7_fill_53178, by decide +kernel⟩
theorem gkX6_findOwn_38 : ux_GS wsX6_findOwn RX6 38 yJ7_fill_53178 wsJ7_fill_53178 2 := ⟨gX6_findOwn_J7_fill_53178, by decide +kernel⟩
theorem gkX6_keysOf_46 : ux_G wsX6_keysOf RX6 46 RX6 yX6_findOwn wsX6_findOwn 2 := ⟨gX6_keysOf_X6_findOwn, by decide +kernel⟩
theorem gkX6_drop_50 : ux_G wsX6_drop RX6 50 RX6 yX6_dropFrom wsX6_dropFrom 2 := ⟨gX6_drop_X6_dropFrom, by decide +kernel⟩
theorem gkX6_undo_46 : ux_G wsX6_undo RX6 46 RX6 yX6_findOwn wsX6_findOwn 2 := ⟨gX6_undo_X6_findOwn, by decide +kernel⟩
theorem gkX6_undo_50 : ux_G wsX6_undo RX6 50 RX6 yX6_dropFrom wsX6_dropFrom 2 := ⟨gX6_undo_X6_dropFrom, by decide +kernel⟩
theorem gkX6_undo_54 : ux_G wsX6_undo RX6 54 RX6 yX6_sayTheSame wsX6_sayTheSame 2 := ⟨gX6_undo_X6_sayTheSame, by decide +kernel⟩
set_option maxHeartbeats 4000000 in
set_option maxRecDepth 100000 in
theorem c_J7_fill_found (l : Launch) (D : va_G) (ad : Nat → Nat) (cA : Nat → ClassId) (A : Nat → Prop) (σ : ST) (v : Int32) : ux_N l D vwCl (tyU cA) (wU ad cA) A yJ7_fill_53178 wsJ7_fill_53178 (ux_rm 0) [.ref (ad 17), .int v] σ (fun σ' => σ' = sa σ 9 (pq_msk (fun _ => true) v (σ.1 9) 512)) := by
  refine ux_ofN (cc := cJ7_fill_53178) (maxL := 4) (ret := none) (Ts := wsJ7_fill_53178) (lv := [(0, .ref (ad 17)), (1, .int v)]) (by decide) rfl (fun _ h => h) (Nat.le_of_ble_eq_true rfl) rfl ?_
  intro p e s m below meth c C
  have loop : ∀ (k i : Nat), 513 ≤ i + k → i ≤ 512 → ux_V p l e (ux_rm 0) s m ([.ref (ad 17), .int v] : List Value).toArray below meth c (MQ below (va_Qv (fun σ' => σ' = sa σ 9 (pq_msk (fun _ => true) v (σ.1 9) 512)) (fun σ' t => va_P D vwCl (wU ad cA σ') t.heap) A) ([.ref (ad 17), .int v] : List Value).toArray s 0 0 A) 4 D vwCl (wU ad cA) A 0 0 (sa σ 9 (pq_msk (fun _ => true) v (σ.1 9) i)) 5 [(2, .int (nI i)), (3, .int (nI 512)), (0, .ref (ad 17)), (1, .int v)] [] := by
    intro k
    induction k with
    | zero => intro i h1 h2; omega
    | succ k ih =>
      intro i h1 h2
      refine ux_iload_n C dJ7_fill_53178_5 0 rfl ?_
      refine ux_iload_n C dJ7_fill_53178_6 1 rfl ?_
      refine ux_icmp_ge C 20 dJ7_fill_53178_7 (by decide) (fun hc => ?_) (fun hc => ?_)
      · have hc := (nI_leI (by omega) (by omega)).mp hc
        have e : i = 512 := by omega
        subst e
        exact ux_vret C dJ7_fill_53178_20 (rfl)
      · have hc := mt (nI_leI (by omega) (by omega)).mpr hc
        have hih := ih (i + 1) (by omega) (by omega)
        rw [← pq_msk_t (i := i) rfl] at hih
        refine ux_aload_n C dJ7_fill_53178_10 2 rfl ?_
        refine ux_iload_n C dJ7_fill_53178_11 0 rfl ?_
        refine ux_iload_n C dJ7_fill_53178_12 3 rfl ?_
        refine ux_iast C 17 9 (i) rfl rfl (rfl) (by omega) (by decide) dJ7_fill_53178_13 _ (awU_9 _ _ _ _) ?_
        refine ux_iinc C (nI (i + 1)) [(2, _), (3, _), (0, _), (1, _)] dJ7_fill_53178_14 0 rfl (pq_inc i) (by decide) rfl ?_
        refine ux_goto C 5 dJ7_fill_53178_17 (by decide) ?_
        refine ux_at (sa_sa _ _ _ _) ?_
        exact hih
  refine ux_iconst C (nI 0) dJ7_fill_53178_0 (by decide) ?_
  refine ux_istore_n C [(2, _), (0, _), (1, _)] dJ7_fill_53178_1 rfl (by decide) rfl ?_
  refine ux_aload_n C dJ7_fill_53178_2 1 rfl ?_
  refine ux_alen C 17 9 rfl rfl dJ7_fill_53178_3 ?_
  refine ux_istore_n C [(3, _), (2, _), (0, _), (1, _)] dJ7_fill_53178_4 rfl (by decide) rfl ?_
  refine ux_at (sa_self σ 9).symm ?_
  refine ux_sub [(2, _), (3, _), (0, _), (1, _)] [1, 0, 2, 3] rfl ?_
  have hl := loop 513 0 (by omega) (by omega)
  rw [pq_msk_id (i := 0) (fun j hj => by omega)] at hl
  exact hl
set_option maxHeartbeats 4000000 in
set_option maxRecDepth 100000 in
theorem c_J7_fill_earlier (l : Launch) (D : va_G) (ad : Nat → Nat) (cA : Nat → ClassId) (A : Nat → Prop) (σ : ST) (v : Int32) : ux_N l D vwCl (tyU cA) (wU ad cA) A yJ7_fill_53178 wsJ7_fill_53178 (ux_rm 0) [.ref (ad 18), .int v] σ (fun σ' => σ' = sa σ 10 (pq_msk (fun _ => true) v (σ.1 10) 512)) := by
  refine ux_ofN (cc := cJ7_fill_53178) (maxL := 4) (ret := none) (Ts := wsJ7_fill_53178) (lv := [(0, .ref (ad 18)), (1, .int v)]) (by decide) rfl (fun _ h => h) (Nat.le_of_ble_eq_true rfl) rfl ?_
  intro p e s m below meth c C
  have loop : ∀ (k i : Nat), 513 ≤ i + k → i ≤ 512 → ux_V p l e (ux_rm 0) s m ([.ref (ad 18), .int v] : List Value).toArray below meth c (MQ below (va_Qv (fun σ' => σ' = sa σ 10 (pq_msk (fun _ => true) v (σ.1 10) 512)) (fun σ' t => va_P D vwCl (wU ad cA σ') t.heap) A) ([.ref (ad 18), .int v] : List Value).toArray s 0 0 A) 4 D vwCl (wU ad cA) A 0 0 (sa σ 10 (pq_msk (fun _ => true) v (σ.1 10) i)) 5 [(2, .int (nI i)), (3, .int (nI 512)), (0, .ref (ad 18)), (1, .int v)] [] := by
    intro k
    induction k with
    | zero => intro i h1 h2; omega
    | succ k ih =>
      intro i h1 h2
      refine ux_iload_n C dJ7_fill_53178_5 0 rfl ?_
      refine ux_iload_n C dJ7_fill_53178_6 1 rfl ?_
      refine ux_icmp_ge C 20 dJ7_fill_53178_7 (by decide) (fun hc => ?_) (fun hc => ?_)
      · have hc := (nI_leI (by omega) (by omega)).mp hc
        have e : i = 512 := by omega
        subst e
        exact ux_vret C dJ7_fill_53178_20 (rfl)
      · have hc := mt (nI_leI (by omega) (by omega)).mpr hc
        have hih := ih (i + 1) (by omega) (by omega)
        rw [← pq_msk_t (i := i) rfl] at hih
        refine ux_aload_n C dJ7_fill_53178_10 2 rfl ?_
        refine ux_iload_n C dJ7_fill_53178_11 0 rfl ?_
        refine ux_iload_n C dJ7_fill_53178_12 3 rfl ?_
        refine ux_iast C 18 10 (i) rfl rfl (rfl) (by omega) (by decide) dJ7_fill_53178_13 _ (awU_10 _ _ _ _) ?_
        refine ux_iinc C (nI (i + 1)) [(2, _), (3, _), (0, _), (1, _)] dJ7_fill_53178_14 0 rfl (pq_inc i) (by decide) rfl ?_
        refine ux_goto C 5 dJ7_fill_53178_17 (by decide) ?_
        refine ux_at (sa_sa _ _ _ _) ?_
        exact hih
  refine ux_iconst C (nI 0) dJ7_fill_53178_0 (by decide) ?_
  refine ux_istore_n C [(2, _), (0, _), (1, _)] dJ7_fill_53178_1 rfl (by decide) rfl ?_
  refine ux_aload_n C dJ7_fill_53178_2 1 rfl ?_
  refine ux_alen C 18 10 rfl rfl dJ7_fill_53178_3 ?_
  refine ux_istore_n C [(3, _), (2, _), (0, _), (1, _)] dJ7_fill_53178_4 rfl (by decide) rfl ?_
  refine ux_at (sa_self σ 10).symm ?_
  refine ux_sub [(2, _), (3, _), (0, _), (1, _)] [1, 0, 2, 3] rfl ?_
  have hl := loop 513 0 (by omega) (by omega)
  rw [pq_msk_id (i := 0) (fun j hj => by omega)] at hl
  exact hl
set_option maxHeartbeats 4000000 in
set_option maxRecDepth 100000 in
theorem c_J7_fill_d0a16 (l : Launch) (D : va_G) (ad : Nat → Nat) (cA : Nat → ClassId) (A : Nat → Prop) (σ : ST) (v : Int64) : ux_N l D vwCl (tyU cA) (wU ad cA) A yJ7_fill_d0a16 wsJ7_fill_d0a16 (ux_rm 0) [.ref (ad 25), .long v] σ (fun σ' => ∃ B, σ' = sb σ B ∧ ∀ j, j < 453 → B j = v) := by
  refine ux_ofN (cc := cJ7_fill_d0a16) (maxL := 5) (ret := none) (Ts := wsJ7_fill_d0a16) (lv := [(0, .ref (ad 25)), (1, .long v)]) (by decide) rfl (fun _ h => h) (Nat.le_of_ble_eq_true rfl) rfl ?_
  intro p e s m below meth c C
  have loop : ∀ (k i : Nat) (B : Nat → Int64), 454 ≤ i + k → i ≤ 453 → (∀ j, j < i → B j = v) → ux_V p l e (ux_rm 0) s m ([.ref (ad 25), .long v] : List Value).toArray below meth c (MQ below (va_Qv (fun σ' => ∃ B, σ' = sb σ B ∧ ∀ j, j < 453 → B j = v) (fun σ' t => va_P D vwCl (wU ad cA σ') t.heap) A) ([.ref (ad 25), .long v] : List Value).toArray s 0 0 A) 5 D vwCl (wU ad cA) A 0 0 (sb σ B) 6 [(3, .int (nI i)), (4, .int (nI 453)), (0, .ref (ad 25)), (1, .long v)] [] := by
    intro k
    induction k with
    | zero => intro i B h1 h2; omega
    | succ k ih =>
      intro i B h1 h2 h3
      refine ux_iload_n C dJ7_fill_d0a16_6 0 rfl ?_
      refine ux_iload C dJ7_fill_d0a16_7 1 rfl ?_
      refine ux_icmp_ge C 22 dJ7_fill_d0a16_9 (by decide) (fun hc => ?_) (fun hc => ?_)
      · have hc := (nI_leI (by omega) (by omega)).mp hc
        have e : i = 453 := by omega
        subst e
        exact ux_vret C dJ7_fill_d0a16_22 (⟨B, rfl, h3⟩)
      · have hc := mt (nI_leI (by omega) (by omega)).mpr hc
        refine ux_aload_n C dJ7_fill_d0a16_12 2 rfl ?_
        refine ux_iload_n C dJ7_fill_d0a16_13 0 rfl ?_
        refine ux_lload_n C dJ7_fill_d0a16_14 3 rfl ?_
        refine ux_last C 25 17 (i) rfl rfl (rfl) (by omega) (by decide) dJ7_fill_d0a16_15 _ (awU_17 _ _ _ _) ?_
        refine ux_iinc C (nI (i + 1)) [(3, _), (4, _), (0, _), (1, _)] dJ7_fill_d0a16_16 0 rfl (pq_inc i) (by decide) rfl ?_
        refine ux_goto C 6 dJ7_fill_d0a16_19 (by decide) ?_
        refine ih (i + 1) (vp_updL B i v) (by omega) (by omega) (fun j hj => ?_)
        by_cases e : j = i
        · rw [e]; exact pk_uLs
        · rw [pk_uLn e]; exact h3 j (by omega)
  refine ux_iconst C (nI 0) dJ7_fill_d0a16_0 (by decide) ?_
  refine ux_istore_n C [(3, _), (0, _), (1, _)] dJ7_fill_d0a16_1 rfl (by decide) rfl ?_
  refine ux_aload_n C dJ7_fill_d0a16_2 1 rfl ?_
  refine ux_alen C 25 17 rfl rfl dJ7_fill_d0a16_3 ?_
  refine ux_istore C [(4, _), (3, _), (0, _), (1, _)] dJ7_fill_d0a16_4 (by decide) rfl ?_
  refine ux_sub [(3, _), (4, _), (0, _), (1, _)] [1, 0, 2, 3] rfl ?_
  exact loop 454 0 σ.2.2 (by omega) (by omega) (fun j hj => by omega)
set_option maxHeartbeats 4000000 in
set_option maxRecDepth 100000 in
theorem c_X6_isFull (l : Launch) (D : va_G) (ad : Nat → Nat) (cA : Nat → ClassId) (A : Nat → Prop) (σ : ST) (hm : σ.2.1 2 ≤ 512) : ux_I l D vwCl (tyU cA) (wU ad cA) A yX6_isFull wsX6_isFull (ux_rm 0) [.ref (ad 6)] σ (fun r σ' => r = pq_b (decide (σ.2.1 2 = 512)) ∧ σ = σ') := by
  refine ux_ofI (cc := cX6_isFull) (maxL := 1) (ret := (some .boolean)) (Ts := wsX6_isFull) (lv := [(0, .ref (ad 6))]) (by decide) rfl (fun _ h => h) (Nat.le_of_ble_eq_true rfl) rfl ?_
  intro p e s m below meth c C
  refine ux_aload_n C dX6_isFull_0 0 rfl ?_
  refine ux_get C flX6_isFull_28 6 rfl rfl rfl dX6_isFull_1 ?_
  refine ux_sipush C (nI 512) dX6_isFull_4 (by decide) ?_
  refine ux_icmp_ne C 14 dX6_isFull_7 (by decide) (fun h => ?_) (fun h => ?_)
  · refine ux_iconst C ((0 : Int32)) dX6_isFull_14 (by decide) ?_
    exact ux_zret C dX6_isFull_15 rfl (⟨by rw [decide_eq_false (fun e => h (by rw [e]))]; rfl, rfl⟩)
  · refine ux_iconst C ((1 : Int32)) dX6_isFull_10 (by decide) ?_
    refine ux_goto C 15 dX6_isFull_11 (by decide) ?_
    exact ux_zret C dX6_isFull_15 rfl (⟨by rw [decide_eq_true ((nI_eq (by omega) (by omega)).mp h)]; rfl, rfl⟩)
set_option maxHeartbeats 4000000 in
set_option maxRecDepth 100000 in
theorem c_X6_add (l : Launch) (D : va_G) (ad : Nat → Nat) (cA : Nat → ClassId) (A : Nat → Prop) (σ : ST) (t x v : Int32) (b : Bool) (z : Int32) (hm : σ.2.1 2 < 512) : ux_N l D vwCl (tyU cA) (wU ad cA) A yX6_add wsX6_add (ux_rm 0) [.ref (ad 6), .int t, .int x, .int v, .int (pq_b b), .int z] σ (fun σ' => σ' = sf (sa (sa (sa (sa (sa σ 4 (upd (σ.1 4) (σ.2.1 2) t)) 5 (upd (σ.1 5) (σ.2.1 2) x)) 6 (upd (σ.1 6) (σ.2.1 2) v)) 7 (upd (σ.1 7) (σ.2.1 2) (pq_b b))) 8 (upd (σ.1 8) (σ.2.1 2) z)) 2 (σ.2.1 2 + 1)) := by
  refine ux_ofN (cc := cX6_add) (maxL := 6) (ret := none) (Ts := wsX6_add) (lv := [(0, .ref (ad 6)), (1, .int t), (2, .int x), (3, .int v), (4, .int (pq_b b)), (5, .int z)]) (by decide) rfl (fun _ h => h) (Nat.le_of_ble_eq_true rfl) rfl ?_
  intro p e s m below meth c C
  refine ux_aload_n C dX6_add_0 0 rfl ?_
  refine ux_get C flX6_add_9 6 rfl rfl rfl dX6_add_1 ?_
  refine ux_aload_n C dX6_add_4 0 rfl ?_
  refine ux_get C flX6_add_28 6 rfl rfl rfl dX6_add_5 ?_
  refine ux_iload_n C dX6_add_8 1 rfl ?_
  refine ux_iast C 12 4 (σ.2.1 2) rfl rfl (rfl) (by omega) (by decide) dX6_add_9 _ (awU_4 _ _ _ _) ?_
  refine ux_aload_n C dX6_add_10 0 rfl ?_
  refine ux_get C flX6_add_15 6 rfl rfl rfl dX6_add_11 ?_
  refine ux_aload_n C dX6_add_14 0 rfl ?_
  refine ux_get C flX6_add_28 6 rfl rfl rfl dX6_add_15 ?_
  refine ux_iload_n C dX6_add_18 2 rfl ?_
  refine ux_iast C 13 5 (σ.2.1 2) rfl rfl (rfl) (by omega) (by decide) dX6_add_19 _ (awU_5 _ _ _ _) ?_
  refine ux_aload_n C dX6_add_20 0 rfl ?_
  refine ux_get C flX6_add_18 6 rfl rfl rfl dX6_add_21 ?_
  refine ux_aload_n C dX6_add_24 0 rfl ?_
  refine ux_get C flX6_add_28 6 rfl rfl rfl dX6_add_25 ?_
  refine ux_iload_n C dX6_add_28 3 rfl ?_
  refine ux_iast C 14 6 (σ.2.1 2) rfl rfl (rfl) (by omega) (by decide) dX6_add_29 _ (awU_6 _ _ _ _) ?_
  refine ux_aload_n C dX6_add_30 0 rfl ?_
  refine ux_get C flX6_add_21 6 rfl rfl rfl dX6_add_31 ?_
  refine ux_aload_n C dX6_add_34 0 rfl ?_
  refine ux_get C flX6_add_28 6 rfl rfl rfl dX6_add_35 ?_
  refine ux_iload C dX6_add_38 4 rfl ?_
  refine ux_zast C 15 7 (σ.2.1 2) rfl rfl (rfl) (by omega) (by decide) (pq_b_nar b) dX6_add_40 _ (awU_7 _ _ _ _) ?_
  refine ux_aload_n C dX6_add_41 0 rfl ?_
  refine ux_get C flX6_add_25 6 rfl rfl rfl dX6_add_42 ?_
  refine ux_aload_n C dX6_add_45 0 rfl ?_
  refine ux_get C flX6_add_28 6 rfl rfl rfl dX6_add_46 ?_
  refine ux_iload C dX6_add_49 5 rfl ?_
  refine ux_iast C 16 8 (σ.2.1 2) rfl rfl (rfl) (by omega) (by decide) dX6_add_51 _ (awU_8 _ _ _ _) ?_
  refine ux_aload_n C dX6_add_52 0 rfl ?_
  refine ux_dup C dX6_add_53 rfl ?_
  refine ux_get C flX6_add_28 6 rfl rfl rfl dX6_add_54 ?_
  refine ux_iconst C ((1 : Int32)) dX6_add_57 (by decide) ?_
  refine ux_iadd C dX6_add_58 ?_
  refine ux_top (nI (σ.2.1 2 + 1)) (nI_1 _) ?_
  refine ux_putI C flX6_add_28 fiU_2 6 rfl rfl (Nat.le_of_ble_eq_true rfl) dX6_add_59 _ (fwU_2 _ _ _ _) ?_
  exact ux_vret C dX6_add_62 (rfl)
set_option maxHeartbeats 4000000 in
set_option maxRecDepth 100000 in
theorem c_X6_findSeen (l : Launch) (D : va_G) (ad : Nat → Nat) (cA : Nat → ClassId) (A : Nat → Prop) (σ : ST) (hm : σ.2.1 2 ≤ 512) (hO : ∀ r, r < σ.2.1 2 → σ.1 4 r = -1 ∨ ∃ o, o ≤ 150 ∧ σ.1 4 r = nI o) (hS : ∀ r, r < σ.2.1 2 → ∃ s, s < 512 ∧ σ.1 5 r = nI s) : ux_N l D vwCl (tyU cA) (wU ad cA) A yX6_findSeen wsX6_findSeen (ux_rm 1) [.ref (ad 6), .ref (ad 10)] σ (fun σ' => ∃ f, σ' = sa σ 9 f ∧ ∀ s, s < 512 → f s = pq_o (pq_lst (pq_seen σ s) (σ.2.1 2))) := by
  refine ux_ofN (cc := cX6_findSeen) (maxL := 3) (ret := none) (Ts := wsX6_findSeen) (lv := [(0, .ref (ad 6)), (1, .ref (ad 10))]) (by decide) rfl (fun _ h => h) (Nat.le_of_ble_eq_true rfl) rfl ?_
  intro p e s m below meth c C
  have loop : ∀ (k i : Nat) (f : Nat → Int32), σ.2.1 2 + 1 ≤ i + k → i ≤ σ.2.1 2 → (∀ s, s < 512 → f s = pq_o (pq_lst (pq_seen σ s) i)) → ux_V p l e (ux_rm 1) s m ([.ref (ad 6), .ref (ad 10)] : List Value).toArray below meth c (MQ below (va_Qv (fun σ' => ∃ f, σ' = sa σ 9 f ∧ ∀ s, s < 512 → f s = pq_o (pq_lst (pq_seen σ s) (σ.2.1 2))) (fun σ' t => va_P D vwCl (wU ad cA σ') t.heap) A) ([.ref (ad 6), .ref (ad 10)] : List Value).toArray s 0 0 A) 3 D vwCl (wU ad cA) A 0 0 (sa σ 9 f) 10 [(2, .int (nI i)), (0, .ref (ad 6)), (1, .ref (ad 10))] [] := by
    intro k
    induction k with
    | zero => intro i f h1 h2; omega
    | succ k ih =>
      intro i f h1 h2 h3
      refine ux_iload_n C dX6_findSeen_10 0 rfl ?_
      refine ux_aload_n C dX6_findSeen_11 1 rfl ?_
      refine ux_get C flX6_findSeen_28 6 rfl rfl rfl dX6_findSeen_12 ?_
      refine ux_icmp_ge C 57 dX6_findSeen_15 (by decide) (fun hc => ?_) (fun hc => ?_)
      · have hc : nI (σ.2.1 2) ≤ nI i := hc
        have hc := (nI_leI (by omega) (by omega)).mp hc
        have e : i = σ.2.1 2 := by omega
        subst e
        exact ux_vret C dX6_findSeen_57 (⟨f, rfl, h3⟩)
      · have hc : ¬ nI (σ.2.1 2) ≤ nI i := hc
        have hc := mt (nI_leI (by omega) (by omega)).mpr hc
        have hno : (∀ s, s < 512 → pq_seen σ s i = false) → ∀ s, s < 512 → f s = pq_o (pq_lst (pq_seen σ s) (i + 1)) := fun hz s hs => by
          rw [h3 s hs]; simp only [pq_lst]; rw [if_neg (by rw [hz s hs]; decide)]
        refine ux_aload_n C dX6_findSeen_18 1 rfl ?_
        refine ux_get C flX6_findSeen_9 6 rfl rfl rfl dX6_findSeen_19 ?_
        refine ux_iload_n C dX6_findSeen_22 0 rfl ?_
        refine ux_iald C 12 4 (i) rfl rfl (rfl) (by omega) (by decide) dX6_findSeen_23 ?_
        refine ux_iconst C ((-1 : Int32)) dX6_findSeen_24 (by decide) ?_
        refine ux_icmp_eq C 51 dX6_findSeen_25 (by decide) (fun h4 => ?_) (fun h4 => ?_)
        · have h4 : σ.1 4 i = -1 := h4
          refine ux_iinc C (nI (i + 1)) [(2, _), (0, _), (1, _)] dX6_findSeen_51 0 rfl (pq_inc i) (by decide) rfl ?_
          refine ux_goto C 10 dX6_findSeen_54 (by decide) ?_
          exact ih (i + 1) f (by omega) (by omega) (hno (fun s hs => by simp [pq_seen, h4]))
        · have h4 : ¬ σ.1 4 i = -1 := h4
          obtain ⟨o, o1, o2⟩ := (hO i (by omega)).resolve_left h4
          obtain ⟨s0, s1, s2⟩ := hS i (by omega)
          refine ux_aload_n C dX6_findSeen_28 2 rfl ?_
          refine ux_aload_n C dX6_findSeen_29 1 rfl ?_
          refine ux_get C flX6_findSeen_9 6 rfl rfl rfl dX6_findSeen_30 ?_
          refine ux_iload_n C dX6_findSeen_33 0 rfl ?_
          refine ux_iald C 12 4 (i) rfl rfl (rfl) (by omega) (by decide) dX6_findSeen_34 ?_
          refine ux_zald C 10 2 (o) rfl rfl (o2) (by omega) (by decide) dX6_findSeen_35 ?_
          refine ux_if_eq C 51 dX6_findSeen_36 (by decide) (fun h5 => ?_) (fun h5 => ?_)
          · have h5 : σ.1 2 o = 0 := h5
            refine ux_iinc C (nI (i + 1)) [(2, _), (0, _), (1, _)] dX6_findSeen_51 0 rfl (pq_inc i) (by decide) rfl ?_
            refine ux_goto C 10 dX6_findSeen_54 (by decide) ?_
            exact ih (i + 1) f (by omega) (by omega) (hno (fun s hs => by unfold pq_seen; rw [o2, nI_clamp (by omega), h5]; simp))
          · have h5 : ¬ σ.1 2 o = 0 := h5
            refine ux_aload_n C dX6_findSeen_39 1 rfl ?_
            refine ux_get C flX6_findSeen_32 6 rfl rfl rfl dX6_findSeen_40 ?_
            refine ux_aload_n C dX6_findSeen_43 1 rfl ?_
            refine ux_get C flX6_findSeen_15 6 rfl rfl rfl dX6_findSeen_44 ?_
            refine ux_iload_n C dX6_findSeen_47 0 rfl ?_
            refine ux_iald C 13 5 (i) rfl rfl (rfl) (by omega) (by decide) dX6_findSeen_48 ?_
            refine ux_iload_n C dX6_findSeen_49 0 rfl ?_
            refine ux_iast C 17 9 (s0) rfl rfl (s2) (by omega) (by decide) dX6_findSeen_50 _ (awU_9 _ _ _ _) ?_
            refine ux_iinc C (nI (i + 1)) [(2, _), (0, _), (1, _)] dX6_findSeen_51 0 rfl (pq_inc i) (by decide) rfl ?_
            refine ux_goto C 10 dX6_findSeen_54 (by decide) ?_
            refine ux_at (sa_sa _ _ _ _) ?_
            refine ih (i + 1) (upd f s0 (nI i)) (by omega) (by omega) (fun s hs => ?_)
            simp only [pq_lst]
            rw [upd_at]
            by_cases e : s = s0
            · have hp : pq_seen σ s i = true := by
                unfold pq_seen
                rw [decide_eq_false h4, o2, nI_clamp (by omega), decide_eq_false h5, s2, e]
                simp
              rw [if_pos e, if_pos hp]; rfl
            · have hp : ¬ pq_seen σ s i = true := by
                unfold pq_seen
                rw [s2, decide_eq_false (fun q => e ((nI_eq (by omega) (by omega)).mp q).symm)]
                simp
              rw [if_neg e, if_neg hp]; exact h3 s hs
  refine ux_aload_n C dX6_findSeen_0 0 rfl ?_
  refine ux_get C flX6_findSeen_32 6 rfl rfl rfl dX6_findSeen_1 ?_
  refine ux_iconst C (-1) dX6_findSeen_4 (by decide) ?_
  refine ux_scallN C gkX6_findSeen_38 (c_J7_fill_found l D ad cA A σ (-1)) rfl ⟨rfl, rfl⟩ ⟨(Nat.le_of_ble_eq_true rfl), (Nat.le_of_ble_eq_true rfl)⟩ ⟨Nat.le_refl _, Nat.le_refl _⟩ rfl rfl (Nat.le_of_ble_eq_true rfl) dX6_findSeen_5 (fun σ1 hr => ?_)
  subst hr
  refine ux_iconst C (nI 0) dX6_findSeen_8 (by decide) ?_
  refine ux_istore_n C [(2, _), (0, _), (1, _)] dX6_findSeen_9 rfl (by decide) rfl ?_
  refine loop (σ.2.1 2 + 1) 0 _ (by omega) (by omega) (fun s hs => ?_)
  exact if_pos ⟨hs, rfl⟩
set_option maxHeartbeats 4000000 in
set_option maxRecDepth 100000 in
theorem c_X6_hasFound (l : Launch) (D : va_G) (ad : Nat → Nat) (cA : Nat → ClassId) (A : Nat → Prop) (σ : ST) (w : Nat) (x : Option Nat) (hs : w < 512) (hx : σ.1 9 w = pq_o x) (hb : ∀ r, x = some r → r < 512) : ux_I l D vwCl (tyU cA) (wU ad cA) A yX6_hasFound wsX6_hasFound (ux_rm 0) [.ref (ad 6), .int (nI w)] σ (fun r σ' => r = pq_b (u_has σ x) ∧ σ = σ') := by
  refine ux_ofI (cc := cX6_hasFound) (maxL := 2) (ret := (some .boolean)) (Ts := wsX6_hasFound) (lv := [(0, .ref (ad 6)), (1, .int (nI w))]) (by decide) rfl (fun _ h => h) (Nat.le_of_ble_eq_true rfl) rfl ?_
  intro p e s m below meth c C
  cases x with
  | none =>
    have hx : σ.1 9 w = -1 := hx
    refine ux_aload_n C dX6_hasFound_0 0 rfl ?_
    refine ux_get C flX6_hasFound_32 6 rfl rfl rfl dX6_hasFound_1 ?_
    refine ux_iload_n C dX6_hasFound_4 1 rfl ?_
    refine ux_iald C 17 9 (w) rfl rfl (rfl) (hs) (by decide) dX6_hasFound_5 ?_
    refine ux_iconst C ((-1 : Int32)) dX6_hasFound_6 (by decide) ?_
    refine ux_icmp_eq C 28 dX6_hasFound_7 (by decide) (fun h => ?_) (fun h => ?_)
    · refine ux_iconst C ((0 : Int32)) dX6_hasFound_28 (by decide) ?_
      exact ux_zret C dX6_hasFound_29 rfl (⟨rfl, rfl⟩)
    · exact absurd hx h
  | some q =>
    have hx : σ.1 9 w = nI q := hx
    have hq := hb q rfl
    refine ux_aload_n C dX6_hasFound_0 0 rfl ?_
    refine ux_get C flX6_hasFound_32 6 rfl rfl rfl dX6_hasFound_1 ?_
    refine ux_iload_n C dX6_hasFound_4 1 rfl ?_
    refine ux_iald C 17 9 (w) rfl rfl (rfl) (hs) (by decide) dX6_hasFound_5 ?_
    refine ux_iconst C ((-1 : Int32)) dX6_hasFound_6 (by decide) ?_
    refine ux_icmp_eq C 28 dX6_hasFound_7 (by decide) (fun h => ?_) (fun h => ?_)
    · exact absurd (hx.symm.trans h) (pq_nI_m1 (by omega))
    · refine ux_aload_n C dX6_hasFound_10 0 rfl ?_
      refine ux_get C flX6_hasFound_21 6 rfl rfl rfl dX6_hasFound_11 ?_
      refine ux_aload_n C dX6_hasFound_14 0 rfl ?_
      refine ux_get C flX6_hasFound_32 6 rfl rfl rfl dX6_hasFound_15 ?_
      refine ux_iload_n C dX6_hasFound_18 1 rfl ?_
      refine ux_iald C 17 9 (w) rfl rfl (rfl) (hs) (by decide) dX6_hasFound_19 ?_
      refine ux_zald C 15 7 (q) rfl rfl (hx) (by omega) (by decide) dX6_hasFound_20 ?_
      refine ux_if_ne C 28 dX6_hasFound_21 (by decide) (fun h2 => ?_) (fun h2 => ?_)
      · refine ux_iconst C ((0 : Int32)) dX6_hasFound_28 (by decide) ?_
        exact ux_zret C dX6_hasFound_29 rfl (⟨by show _ = pq_b (decide (σ.1 7 q = 0)); rw [decide_eq_false h2]; rfl, rfl⟩)
      · refine ux_iconst C ((1 : Int32)) dX6_hasFound_24 (by decide) ?_
        refine ux_goto C 29 dX6_hasFound_25 (by decide) ?_
        exact ux_zret C dX6_hasFound_29 rfl (⟨by show _ = pq_b (decide (σ.1 7 q = 0)); rw [decide_eq_true h2]; rfl, rfl⟩)
set_option maxHeartbeats 4000000 in
set_option maxRecDepth 100000 in
theorem c_X6_valueFound (l : Launch) (D : va_G) (ad : Nat → Nat) (cA : Nat → ClassId) (A : Nat → Prop) (σ : ST) (w : Nat) (x : Option Nat) (hs : w < 512) (hx : σ.1 9 w = pq_o x) (hb : ∀ r, x = some r → r < 512) : ux_L l D vwCl (tyU cA) (wU ad cA) A yX6_valueFound wsX6_valueFound (ux_rm 0) [.ref (ad 6), .int (nI w)] σ (fun r σ' => r = pq_fv σ x ∧ σ = σ') := by
  refine ux_ofL (cc := cX6_valueFound) (maxL := 2) (ret := (some .long)) (Ts := wsX6_valueFound) (lv := [(0, .ref (ad 6)), (1, .int (nI w))]) (by decide) rfl (fun _ h => h) (Nat.le_of_ble_eq_true rfl) rfl ?_
  intro p e s m below meth c C
  cases x with
  | none =>
    have hx : σ.1 9 w = -1 := hx
    refine ux_aload_n C dX6_valueFound_0 0 rfl ?_
    refine ux_get C flX6_valueFound_32 6 rfl rfl rfl dX6_valueFound_1 ?_
    refine ux_iload_n C dX6_valueFound_4 1 rfl ?_
    refine ux_iald C 17 9 (w) rfl rfl (rfl) (hs) (by decide) dX6_valueFound_5 ?_
    refine ux_iconst C ((-1 : Int32)) dX6_valueFound_6 (by decide) ?_
    refine ux_icmp_ne C 16 dX6_valueFound_7 (by decide) (fun h => ?_) (fun h => ?_)
    · exact absurd hx h
    · refine ux_ldc2 C (1099511627776 : Int64) (by decide +kernel) dX6_valueFound_10 ?_
      refine ux_goto C 28 dX6_valueFound_13 (by decide) ?_
      exact ux_lret C dX6_valueFound_28 (⟨rfl, rfl⟩)
  | some q =>
    have hx : σ.1 9 w = nI q := hx
    have hq := hb q rfl
    refine ux_aload_n C dX6_valueFound_0 0 rfl ?_
    refine ux_get C flX6_valueFound_32 6 rfl rfl rfl dX6_valueFound_1 ?_
    refine ux_iload_n C dX6_valueFound_4 1 rfl ?_
    refine ux_iald C 17 9 (w) rfl rfl (rfl) (hs) (by decide) dX6_valueFound_5 ?_
    refine ux_iconst C ((-1 : Int32)) dX6_valueFound_6 (by decide) ?_
    refine ux_icmp_ne C 16 dX6_valueFound_7 (by decide) (fun h => ?_) (fun h => ?_)
    · refine ux_aload_n C dX6_valueFound_16 0 rfl ?_
      refine ux_get C flX6_valueFound_18 6 rfl rfl rfl dX6_valueFound_17 ?_
      refine ux_aload_n C dX6_valueFound_20 0 rfl ?_
      refine ux_get C flX6_valueFound_32 6 rfl rfl rfl dX6_valueFound_21 ?_
      refine ux_iload_n C dX6_valueFound_24 1 rfl ?_
      refine ux_iald C 17 9 (w) rfl rfl (rfl) (hs) (by decide) dX6_valueFound_25 ?_
      refine ux_iald C 14 6 (q) rfl rfl (hx) (by omega) (by decide) dX6_valueFound_26 ?_
      refine ux_i2l C dX6_valueFound_27 ?_
      exact ux_lret C dX6_valueFound_28 (⟨rfl, rfl⟩)
    · exact absurd (hx.symm.trans h) (pq_nI_m1 (by omega))
set_option maxHeartbeats 4000000 in
set_option maxRecDepth 100000 in
theorem c_X6_findOwn_9 (l : Launch) (D : va_G) (ad : Nat → Nat) (cA : Nat → ClassId) (A : Nat → Prop) (σ : ST) (t : Int32) (hm : σ.2.1 2 ≤ 512) (hS : ∀ r, r < σ.2.1 2 → ∃ s, s < 512 ∧ σ.1 5 r = nI s) : ux_N l D vwCl (tyU cA) (wU ad cA) A yX6_findOwn wsX6_findOwn (ux_rm 1) [.ref (ad 6), .int t, .ref (ad 17)] σ (fun σ' => ∃ f, σ' = sa σ 9 f ∧ ∀ s, s < 512 → f s = pq_o (pq_lst (pq_own σ t s) (σ.2.1 2))) := by
  refine ux_ofN (cc := cX6_findOwn) (maxL := 4) (ret := none) (Ts := wsX6_findOwn) (lv := [(0, .ref (ad 6)), (1, .int t), (2, .ref (ad 17))]) (by decide) rfl (fun _ h => h) (Nat.le_of_ble_eq_true rfl) rfl ?_
  intro p e s m below meth c C
  have loop : ∀ (k i : Nat) (f : Nat → Int32), σ.2.1 2 + 1 ≤ i + k → i ≤ σ.2.1 2 → (∀ s, s < 512 → f s = pq_o (pq_lst (pq_own σ t s) i)) → ux_V p l e (ux_rm 1) s m ([.ref (ad 6), .int t, .ref (ad 17)] : List Value).toArray below meth c (MQ below (va_Qv (fun σ' => ∃ f, σ' = sa σ 9 f ∧ ∀ s, s < 512 → f s = pq_o (pq_lst (pq_own σ t s) (σ.2.1 2))) (fun σ' t => va_P D vwCl (wU ad cA σ') t.heap) A) ([.ref (ad 6), .int t, .ref (ad 17)] : List Value).toArray s 0 0 A) 4 D vwCl (wU ad cA) A 0 0 (sa σ 9 f) 7 [(3, .int (nI i)), (0, .ref (ad 6)), (1, .int t), (2, .ref (ad 17))] [] := by
    intro k
    induction k with
    | zero => intro i f h1 h2; omega
    | succ k ih =>
      intro i f h1 h2 h3
      refine ux_iload_n C dX6_findOwn_7 0 rfl ?_
      refine ux_aload_n C dX6_findOwn_8 1 rfl ?_
      refine ux_get C flX6_findOwn_28 6 rfl rfl rfl dX6_findOwn_9 ?_
      refine ux_icmp_ge C 40 dX6_findOwn_12 (by decide) (fun hc => ?_) (fun hc => ?_)
      · have hc : nI (σ.2.1 2) ≤ nI i := hc
        have hc := (nI_leI (by omega) (by omega)).mp hc
        have e : i = σ.2.1 2 := by omega
        subst e
        exact ux_vret C dX6_findOwn_40 (⟨f, rfl, h3⟩)
      · have hc : ¬ nI (σ.2.1 2) ≤ nI i := hc
        have hc := mt (nI_leI (by omega) (by omega)).mpr hc
        refine ux_aload_n C dX6_findOwn_15 1 rfl ?_
        refine ux_get C flX6_findOwn_9 6 rfl rfl rfl dX6_findOwn_16 ?_
        refine ux_iload_n C dX6_findOwn_19 0 rfl ?_
        refine ux_iald C 12 4 (i) rfl rfl (rfl) (by omega) (by decide) dX6_findOwn_20 ?_
        refine ux_iload_n C dX6_findOwn_21 2 rfl ?_
        refine ux_icmp_ne C 34 dX6_findOwn_22 (by decide) (fun h4 => ?_) (fun h4 => ?_)
        · have h4 : ¬ σ.1 4 i = t := h4
          refine ux_iinc C (nI (i + 1)) [(3, _), (0, _), (1, _), (2, _)] dX6_findOwn_34 0 rfl (pq_inc i) (by decide) rfl ?_
          refine ux_goto C 7 dX6_findOwn_37 (by decide) ?_
          refine ih (i + 1) f (by omega) (by omega) (fun s hs => ?_)
          rw [h3 s hs]; simp only [pq_lst]; rw [if_neg (by simp [pq_own, h4])]
        · have h4 : σ.1 4 i = t := h4
          obtain ⟨s0, s1, s2⟩ := hS i (by omega)
          refine ux_aload_n C dX6_findOwn_25 3 rfl ?_
          refine ux_aload_n C dX6_findOwn_26 1 rfl ?_
          refine ux_get C flX6_findOwn_15 6 rfl rfl rfl dX6_findOwn_27 ?_
          refine ux_iload_n C dX6_findOwn_30 0 rfl ?_
          refine ux_iald C 13 5 (i) rfl rfl (rfl) (by omega) (by decide) dX6_findOwn_31 ?_
          refine ux_iload_n C dX6_findOwn_32 0 rfl ?_
          refine ux_iast C 17 9 (s0) rfl rfl (s2) (by omega) (by decide) dX6_findOwn_33 _ (awU_9 _ _ _ _) ?_
          refine ux_iinc C (nI (i + 1)) [(3, _), (0, _), (1, _), (2, _)] dX6_findOwn_34 0 rfl (pq_inc i) (by decide) rfl ?_
          refine ux_goto C 7 dX6_findOwn_37 (by decide) ?_
          refine ux_at (sa_sa _ _ _ _) ?_
          refine ih (i + 1) (upd f s0 (nI i)) (by omega) (by omega) (fun s hs => ?_)
          simp only [pq_lst]
          rw [upd_at]
          by_cases e : s = s0
          · rw [if_pos e, if_pos (by simp [pq_own, h4, s2, e])]; rfl
          · rw [if_neg e, if_neg (by unfold pq_own; rw [s2, decide_eq_false (fun q => e ((nI_eq (by omega) (by omega)).mp q).symm)]; simp)]; exact h3 s hs
  refine ux_aload_n C dX6_findOwn_0 2 rfl ?_
  refine ux_iconst C (-1) dX6_findOwn_1 (by decide) ?_
  refine ux_scallN C gkX6_findOwn_38 (c_J7_fill_found l D ad cA A σ (-1)) rfl ⟨rfl, rfl⟩ ⟨(Nat.le_of_ble_eq_true rfl), (Nat.le_of_ble_eq_true rfl)⟩ ⟨Nat.le_refl _, Nat.le_refl _⟩ rfl rfl (Nat.le_of_ble_eq_true rfl) dX6_findOwn_2 (fun σ1 hr => ?_)
  subst hr
  refine ux_iconst C (nI 0) dX6_findOwn_5 (by decide) ?_
  refine ux_istore_n C [(3, _), (0, _), (1, _), (2, _)] dX6_findOwn_6 rfl (by decide) rfl ?_
  refine loop (σ.2.1 2 + 1) 0 _ (by omega) (by omega) (fun s hs => ?_)
  exact if_pos ⟨hs, rfl⟩
set_option maxHeartbeats 4000000 in
set_option maxRecDepth 100000 in
theorem c_X6_findOwn_10 (l : Launch) (D : va_G) (ad : Nat → Nat) (cA : Nat → ClassId) (A : Nat → Prop) (σ : ST) (t : Int32) (hm : σ.2.1 2 ≤ 512) (hS : ∀ r, r < σ.2.1 2 → ∃ s, s < 512 ∧ σ.1 5 r = nI s) : ux_N l D vwCl (tyU cA) (wU ad cA) A yX6_findOwn wsX6_findOwn (ux_rm 1) [.ref (ad 6), .int t, .ref (ad 18)] σ (fun σ' => ∃ f, σ' = sa σ 10 f ∧ ∀ s, s < 512 → f s = pq_o (pq_lst (pq_own σ t s) (σ.2.1 2))) := by
  refine ux_ofN (cc := cX6_findOwn) (maxL := 4) (ret := none) (Ts := wsX6_findOwn) (lv := [(0, .ref (ad 6)), (1, .int t), (2, .ref (ad 18))]) (by decide) rfl (fun _ h => h) (Nat.le_of_ble_eq_true rfl) rfl ?_
  intro p e s m below meth c C
  have loop : ∀ (k i : Nat) (f : Nat → Int32), σ.2.1 2 + 1 ≤ i + k → i ≤ σ.2.1 2 → (∀ s, s < 512 → f s = pq_o (pq_lst (pq_own σ t s) i)) → ux_V p l e (ux_rm 1) s m ([.ref (ad 6), .int t, .ref (ad 18)] : List Value).toArray below meth c (MQ below (va_Qv (fun σ' => ∃ f, σ' = sa σ 10 f ∧ ∀ s, s < 512 → f s = pq_o (pq_lst (pq_own σ t s) (σ.2.1 2))) (fun σ' t => va_P D vwCl (wU ad cA σ') t.heap) A) ([.ref (ad 6), .int t, .ref (ad 18)] : List Value).toArray s 0 0 A) 4 D vwCl (wU ad cA) A 0 0 (sa σ 10 f) 7 [(3, .int (nI i)), (0, .ref (ad 6)), (1, .int t), (2, .ref (ad 18))] [] := by
    intro k
    induction k with
    | zero => intro i f h1 h2; omega
    | succ k ih =>
      intro i f h1 h2 h3
      refine ux_iload_n C dX6_findOwn_7 0 rfl ?_
      refine ux_aload_n C dX6_findOwn_8 1 rfl ?_
      refine ux_get C flX6_findOwn_28 6 rfl rfl rfl dX6_findOwn_9 ?_
      refine ux_icmp_ge C 40 dX6_findOwn_12 (by decide) (fun hc => ?_) (fun hc => ?_)
      · have hc : nI (σ.2.1 2) ≤ nI i := hc
        have hc := (nI_leI (by omega) (by omega)).mp hc
        have e : i = σ.2.1 2 := by omega
        subst e
        exact ux_vret C dX6_findOwn_40 (⟨f, rfl, h3⟩)
      · have hc : ¬ nI (σ.2.1 2) ≤ nI i := hc
        have hc := mt (nI_leI (by omega) (by omega)).mpr hc
        refine ux_aload_n C dX6_findOwn_15 1 rfl ?_
        refine ux_get C flX6_findOwn_9 6 rfl rfl rfl dX6_findOwn_16 ?_
        refine ux_iload_n C dX6_findOwn_19 0 rfl ?_
        refine ux_iald C 12 4 (i) rfl rfl (rfl) (by omega) (by decide) dX6_findOwn_20 ?_
        refine ux_iload_n C dX6_findOwn_21 2 rfl ?_
        refine ux_icmp_ne C 34 dX6_findOwn_22 (by decide) (fun h4 => ?_) (fun h4 => ?_)
        · have h4 : ¬ σ.1 4 i = t := h4
          refine ux_iinc C (nI (i + 1)) [(3, _), (0, _), (1, _), (2, _)] dX6_findOwn_34 0 rfl (pq_inc i) (by decide) rfl ?_
          refine ux_goto C 7 dX6_findOwn_37 (by decide) ?_
          refine ih (i + 1) f (by omega) (by omega) (fun s hs => ?_)
          rw [h3 s hs]; simp only [pq_lst]; rw [if_neg (by simp [pq_own, h4])]
        · have h4 : σ.1 4 i = t := h4
          obtain ⟨s0, s1, s2⟩ := hS i (by omega)
          refine ux_aload_n C dX6_findOwn_25 3 rfl ?_
          refine ux_aload_n C dX6_findOwn_26 1 rfl ?_
          refine ux_get C flX6_findOwn_15 6 rfl rfl rfl dX6_findOwn_27 ?_
          refine ux_iload_n C dX6_findOwn_30 0 rfl ?_
          refine ux_iald C 13 5 (i) rfl rfl (rfl) (by omega) (by decide) dX6_findOwn_31 ?_
          refine ux_iload_n C dX6_findOwn_32 0 rfl ?_
          refine ux_iast C 18 10 (s0) rfl rfl (s2) (by omega) (by decide) dX6_findOwn_33 _ (awU_10 _ _ _ _) ?_
          refine ux_iinc C (nI (i + 1)) [(3, _), (0, _), (1, _), (2, _)] dX6_findOwn_34 0 rfl (pq_inc i) (by decide) rfl ?_
          refine ux_goto C 7 dX6_findOwn_37 (by decide) ?_
          refine ux_at (sa_sa _ _ _ _) ?_
          refine ih (i + 1) (upd f s0 (nI i)) (by omega) (by omega) (fun s hs => ?_)
          simp only [pq_lst]
          rw [upd_at]
          by_cases e : s = s0
          · rw [if_pos e, if_pos (by simp [pq_own, h4, s2, e])]; rfl
          · rw [if_neg e, if_neg (by unfold pq_own; rw [s2, decide_eq_false (fun q => e ((nI_eq (by omega) (by omega)).mp q).symm)]; simp)]; exact h3 s hs
  refine ux_aload_n C dX6_findOwn_0 2 rfl ?_
  refine ux_iconst C (-1) dX6_findOwn_1 (by decide) ?_
  refine ux_scallN C gkX6_findOwn_38 (c_J7_fill_earlier l D ad cA A σ (-1)) rfl ⟨rfl, rfl⟩ ⟨(Nat.le_of_ble_eq_true rfl), (Nat.le_of_ble_eq_true rfl)⟩ ⟨Nat.le_refl _, Nat.le_refl _⟩ rfl rfl (Nat.le_of_ble_eq_true rfl) dX6_findOwn_2 (fun σ1 hr => ?_)
  subst hr
  refine ux_iconst C (nI 0) dX6_findOwn_5 (by decide) ?_
  refine ux_istore_n C [(3, _), (0, _), (1, _), (2, _)] dX6_findOwn_6 rfl (by decide) rfl ?_
  refine loop (σ.2.1 2 + 1) 0 _ (by omega) (by omega) (fun s hs => ?_)
  exact if_pos ⟨hs, rfl⟩
set_option maxHeartbeats 4000000 in
set_option maxRecDepth 100000 in
theorem c_X6_keysOf (l : Launch) (D : va_G) (ad : Nat → Nat) (cA : Nat → ClassId) (A : Nat → Prop) (σ : ST) (t : Int32) (hm : σ.2.1 2 ≤ 512) (hS : ∀ r, r < σ.2.1 2 → ∃ s, s < 512 ∧ σ.1 5 r = nI s) : ux_I l D vwCl (tyU cA) (wU ad cA) A yX6_keysOf wsX6_keysOf (ux_rm 2) [.ref (ad 6), .int t] σ (fun r σ' => ∃ f, σ' = sa σ 9 f ∧ r = nI (pq_cnt (fun s => (pq_lst (pq_own σ t s) (σ.2.1 2)).isSome) 512)) := by
  refine ux_ofI (cc := cX6_keysOf) (maxL := 4) (ret := (some .int)) (Ts := wsX6_keysOf) (lv := [(0, .ref (ad 6)), (1, .int t)]) (by decide) rfl (fun _ h => h) (Nat.le_of_ble_eq_true rfl) rfl ?_
  intro p e s m below meth c C
  refine ux_aload_n C dX6_keysOf_0 0 rfl ?_
  refine ux_iload_n C dX6_keysOf_1 1 rfl ?_
  refine ux_aload_n C dX6_keysOf_2 0 rfl ?_
  refine ux_get C flX6_keysOf_32 6 rfl rfl rfl dX6_keysOf_3 ?_
  refine ux_callN C gkX6_keysOf_46 (c_X6_findOwn_9 l D ad cA A σ t hm hS) rfl ⟨rfl, rfl⟩ ⟨(Nat.le_of_ble_eq_true rfl), (Nat.le_of_ble_eq_true rfl)⟩ ⟨Nat.le_refl _, Nat.le_refl _⟩ 6 rfl rfl rfl rfl (Nat.le_of_ble_eq_true rfl) dX6_keysOf_6 (fun σ1 hr => ?_)
  obtain ⟨f, rfl, hf⟩ := hr
  have loop : ∀ (k i : Nat), 513 ≤ i + k → i ≤ 512 → ux_V p l e (ux_rm 2) s m ([.ref (ad 6), .int t] : List Value).toArray below meth c (MQ below (va_Qi (fun r σ' => ∃ f, σ' = sa σ 9 f ∧ r = nI (pq_cnt (fun s => (pq_lst (pq_own σ t s) (σ.2.1 2)).isSome) 512)) (fun σ' t => va_P D vwCl (wU ad cA σ') t.heap) A) ([.ref (ad 6), .int t] : List Value).toArray s 0 0 A) 4 D vwCl (wU ad cA) A 0 0 (sa σ 9 f) 13 [(3, .int (nI i)), (2, .int (nI (pq_cnt (fun s => (pq_lst (pq_own σ t s) (σ.2.1 2)).isSome) i))), (0, .ref (ad 6)), (1, .int t)] [] := by
    intro k
    induction k with
    | zero => intro i h1 h2; omega
    | succ k ih =>
      intro i h1 h2
      refine ux_iload_n C dX6_keysOf_13 0 rfl ?_
      refine ux_sipush C (nI 512) dX6_keysOf_14 (by decide) ?_
      refine ux_icmp_ge C 39 dX6_keysOf_17 (by decide) (fun hc => ?_) (fun hc => ?_)
      · have hc := (nI_leI (by omega) (by omega)).mp hc
        have e : i = 512 := by omega
        subst e
        refine ux_iload_n C dX6_keysOf_39 1 rfl ?_
        exact ux_iret C dX6_keysOf_40 (⟨f, rfl, rfl⟩)
      · have hc := mt (nI_leI (by omega) (by omega)).mpr hc
        have hih := ih (i + 1) (by omega) (by omega)
        have hb : ∀ q, pq_lst (pq_own σ t i) (σ.2.1 2) = some q → q < 2 ^ 31 := fun q hq => by have := (pq_lst_some.mp hq).1; omega
        refine ux_aload_n C dX6_keysOf_20 2 rfl ?_
        refine ux_get C flX6_keysOf_32 6 rfl rfl rfl dX6_keysOf_21 ?_
        refine ux_iload_n C dX6_keysOf_24 0 rfl ?_
        refine ux_iald C 17 9 (i) rfl rfl (rfl) (by omega) (by decide) dX6_keysOf_25 ?_
        refine ux_top _ (hf i (by omega)) ?_
        refine ux_iconst C ((-1 : Int32)) dX6_keysOf_26 (by decide) ?_
        refine ux_icmp_eq C 33 dX6_keysOf_27 (by decide) (fun h4 => ?_) (fun h4 => ?_)
        · have h4 := (pq_o_m1 hb).mp h4
          rw [pq_cnt_f (n := i) (by simp [h4])] at hih
          refine ux_iinc C (nI (i + 1)) [(3, _), (2, _), (0, _), (1, _)] dX6_keysOf_33 0 rfl (pq_inc i) (by decide) rfl ?_
          refine ux_goto C 13 dX6_keysOf_36 (by decide) ?_
          exact hih
        · have h4 := mt (pq_o_m1 hb).mpr h4
          rw [pq_cnt_t (n := i) (Option.isSome_iff_ne_none.mpr h4)] at hih
          refine ux_iinc C (nI (_ + 1)) [(2, _), (3, _), (0, _), (1, _)] dX6_keysOf_30 1 rfl (pq_inc _) (by decide) rfl ?_
          refine ux_iinc C (nI (i + 1)) [(3, _), (2, _), (0, _), (1, _)] dX6_keysOf_33 1 rfl (pq_inc i) (by decide) rfl ?_
          refine ux_goto C 13 dX6_keysOf_36 (by decide) ?_
          exact hih
  refine ux_iconst C (nI 0) dX6_keysOf_9 (by decide) ?_
  refine ux_istore_n C [(2, _), (0, _), (1, _)] dX6_keysOf_10 rfl (by decide) rfl ?_
  refine ux_iconst C (nI 0) dX6_keysOf_11 (by decide) ?_
  refine ux_istore_n C [(3, _), (2, _), (0, _), (1, _)] dX6_keysOf_12 rfl (by decide) rfl ?_
  exact loop 513 0 (by omega) (by omega)
set_option maxHeartbeats 4000000 in
set_option maxRecDepth 100000 in
theorem c_X6_handOver (l : Launch) (D : va_G) (ad : Nat → Nat) (cA : Nat → ClassId) (A : Nat → Prop) (σ : ST) (a b z : Int32) (hm : σ.2.1 2 ≤ 512) : ux_N l D vwCl (tyU cA) (wU ad cA) A yX6_handOver wsX6_handOver (ux_rm 0) [.ref (ad 6), .int a, .int b, .int z] σ (fun σ' => σ' = sa (sa σ 4 (pq_msk (fun r => decide (σ.1 4 r = a)) b (σ.1 4) (σ.2.1 2))) 8 (pq_msk (fun r => decide (σ.1 4 r = a)) z (σ.1 8) (σ.2.1 2))) := by
  refine ux_ofN (cc := cX6_handOver) (maxL := 5) (ret := none) (Ts := wsX6_handOver) (lv := [(0, .ref (ad 6)), (1, .int a), (2, .int b), (3, .int z)]) (by decide) rfl (fun _ h => h) (Nat.le_of_ble_eq_true rfl) rfl ?_
  intro p e s m below meth c C
  have loop : ∀ (k i : Nat), σ.2.1 2 + 1 ≤ i + k → i ≤ σ.2.1 2 → ux_V p l e (ux_rm 0) s m ([.ref (ad 6), .int a, .int b, .int z] : List Value).toArray below meth c (MQ below (va_Qv (fun σ' => σ' = sa (sa σ 4 (pq_msk (fun r => decide (σ.1 4 r = a)) b (σ.1 4) (σ.2.1 2))) 8 (pq_msk (fun r => decide (σ.1 4 r = a)) z (σ.1 8) (σ.2.1 2))) (fun σ' t => va_P D vwCl (wU ad cA σ') t.heap) A) ([.ref (ad 6), .int a, .int b, .int z] : List Value).toArray s 0 0 A) 5 D vwCl (wU ad cA) A 0 0 (sa (sa σ 4 (pq_msk (fun r => decide (σ.1 4 r = a)) b (σ.1 4) i)) 8 (pq_msk (fun r => decide (σ.1 4 r = a)) z (σ.1 8) i)) 3 [(4, .int (nI i)), (0, .ref (ad 6)), (1, .int a), (2, .int b), (3, .int z)] [] := by
    intro k
    induction k with
    | zero => intro i h1 h2; omega
    | succ k ih =>
      intro i h1 h2
      refine ux_iload C dX6_handOver_3 0 rfl ?_
      refine ux_aload_n C dX6_handOver_5 1 rfl ?_
      refine ux_get C flX6_handOver_28 6 rfl rfl rfl dX6_handOver_6 ?_
      refine ux_icmp_ge C 45 dX6_handOver_9 (by decide) (fun hc => ?_) (fun hc => ?_)
      · have hc : nI (σ.2.1 2) ≤ nI i := hc
        have hc := (nI_leI (by omega) (by omega)).mp hc
        have e : i = σ.2.1 2 := by omega
        subst e
        exact ux_vret C dX6_handOver_45 (rfl)
      · have hc : ¬ nI (σ.2.1 2) ≤ nI i := hc
        have hc := mt (nI_leI (by omega) (by omega)).mpr hc
        have hih := ih (i + 1) (by omega) (by omega)
        refine ux_aload_n C dX6_handOver_12 1 rfl ?_
        refine ux_get C flX6_handOver_9 6 rfl rfl rfl dX6_handOver_13 ?_
        refine ux_iload C dX6_handOver_16 0 rfl ?_
        refine ux_iald C 12 4 (i) rfl rfl (rfl) (by omega) (by decide) dX6_handOver_18 ?_
        refine ux_top _ (congrFun ((sa_ne _ _ (by decide)).trans (sa_eq _ _ _)) _) ?_
        refine ux_top _ (pq_msk_at _ _ _ _) ?_
        refine ux_iload_n C dX6_handOver_19 2 rfl ?_
        refine ux_icmp_ne C 39 dX6_handOver_20 (by decide) (fun h4 => ?_) (fun h4 => ?_)
        · rw [← pq_msk_f (by simp [h4]), ← pq_msk_f (by simp [h4])] at hih
          refine ux_iinc C (nI (i + 1)) [(4, _), (0, _), (1, _), (2, _), (3, _)] dX6_handOver_39 0 rfl (pq_inc i) (by decide) rfl ?_
          refine ux_goto C 3 dX6_handOver_42 (by decide) ?_
          exact hih
        · rw [← pq_msk_t (by simp [h4]), ← pq_msk_t (by simp [h4])] at hih
          refine ux_aload_n C dX6_handOver_23 1 rfl ?_
          refine ux_get C flX6_handOver_9 6 rfl rfl rfl dX6_handOver_24 ?_
          refine ux_iload C dX6_handOver_27 0 rfl ?_
          refine ux_iload_n C dX6_handOver_29 3 rfl ?_
          refine ux_iast C 12 4 (i) rfl rfl (rfl) (by omega) (by decide) dX6_handOver_30 _ (awU_4 _ _ _ _) ?_
          refine ux_aload_n C dX6_handOver_31 1 rfl ?_
          refine ux_get C flX6_handOver_25 6 rfl rfl rfl dX6_handOver_32 ?_
          refine ux_iload C dX6_handOver_35 0 rfl ?_
          refine ux_iload_n C dX6_handOver_37 4 rfl ?_
          refine ux_iast C 16 8 (i) rfl rfl (rfl) (by omega) (by decide) dX6_handOver_38 _ (awU_8 _ _ _ _) ?_
          refine ux_iinc C (nI (i + 1)) [(4, _), (0, _), (1, _), (2, _), (3, _)] dX6_handOver_39 0 rfl (pq_inc i) (by decide) rfl ?_
          refine ux_goto C 3 dX6_handOver_42 (by decide) ?_
          exact hih
  refine ux_iconst C (nI 0) dX6_handOver_0 (by decide) ?_
  refine ux_istore C [(4, _), (0, _), (1, _), (2, _), (3, _)] dX6_handOver_1 (by decide) rfl ?_
  have hl := loop (σ.2.1 2 + 1) 0 (by omega) (by omega)
  rw [pq_msk_id (i := 0) (fun j hj => by omega), pq_msk_id (i := 0) (fun j hj => by omega)] at hl
  rw [show sa (sa σ 4 (σ.1 4)) 8 (σ.1 8) = σ by rw [sa_self, sa_self]] at hl
  exact hl
set_option maxHeartbeats 4000000 in
set_option maxRecDepth 100000 in
theorem c_X6_dropFrom (l : Launch) (D : va_G) (ad : Nat → Nat) (cA : Nat → ClassId) (A : Nat → Prop) (σ : ST) (t z : Int32) (hm : σ.2.1 2 ≤ 512) : ux_N l D vwCl (tyU cA) (wU ad cA) A yX6_dropFrom wsX6_dropFrom (ux_rm 0) [.ref (ad 6), .int t, .int z] σ (fun σ' => σ' = sa σ 4 (pq_msk (fun r => decide (σ.1 4 r = t) && !decide (σ.1 8 r < z)) (-1) (σ.1 4) (σ.2.1 2))) := by
  refine ux_ofN (cc := cX6_dropFrom) (maxL := 4) (ret := none) (Ts := wsX6_dropFrom) (lv := [(0, .ref (ad 6)), (1, .int t), (2, .int z)]) (by decide) rfl (fun _ h => h) (Nat.le_of_ble_eq_true rfl) rfl ?_
  intro p e s m below meth c C
  have loop : ∀ (k i : Nat), σ.2.1 2 + 1 ≤ i + k → i ≤ σ.2.1 2 → ux_V p l e (ux_rm 0) s m ([.ref (ad 6), .int t, .int z] : List Value).toArray below meth c (MQ below (va_Qv (fun σ' => σ' = sa σ 4 (pq_msk (fun r => decide (σ.1 4 r = t) && !decide (σ.1 8 r < z)) (-1) (σ.1 4) (σ.2.1 2))) (fun σ' t => va_P D vwCl (wU ad cA σ') t.heap) A) ([.ref (ad 6), .int t, .int z] : List Value).toArray s 0 0 A) 4 D vwCl (wU ad cA) A 0 0 (sa σ 4 (pq_msk (fun r => decide (σ.1 4 r = t) && !decide (σ.1 8 r < z)) (-1) (σ.1 4) i)) 2 [(3, .int (nI i)), (0, .ref (ad 6)), (1, .int t), (2, .int z)] [] := by
    intro k
    induction k with
    | zero => intro i h1 h2; omega
    | succ k ih =>
      intro i h1 h2
      refine ux_iload_n C dX6_dropFrom_2 0 rfl ?_
      refine ux_aload_n C dX6_dropFrom_3 1 rfl ?_
      refine ux_get C flX6_dropFrom_28 6 rfl rfl rfl dX6_dropFrom_4 ?_
      refine ux_icmp_ge C 43 dX6_dropFrom_7 (by decide) (fun hc => ?_) (fun hc => ?_)
      · have hc : nI (σ.2.1 2) ≤ nI i := hc
        have hc := (nI_leI (by omega) (by omega)).mp hc
        have e : i = σ.2.1 2 := by omega
        subst e
        exact ux_vret C dX6_dropFrom_43 (rfl)
      · have hc : ¬ nI (σ.2.1 2) ≤ nI i := hc
        have hc := mt (nI_leI (by omega) (by omega)).mpr hc
        have hih := ih (i + 1) (by omega) (by omega)
        refine ux_aload_n C dX6_dropFrom_10 1 rfl ?_
        refine ux_get C flX6_dropFrom_9 6 rfl rfl rfl dX6_dropFrom_11 ?_
        refine ux_iload_n C dX6_dropFrom_14 0 rfl ?_
        refine ux_iald C 12 4 (i) rfl rfl (rfl) (by omega) (by decide) dX6_dropFrom_15 ?_
        refine ux_top _ (congrFun (sa_eq _ _ _) _) ?_
        refine ux_top _ (pq_msk_at _ _ _ _) ?_
        refine ux_iload_n C dX6_dropFrom_16 2 rfl ?_
        refine ux_icmp_ne C 37 dX6_dropFrom_17 (by decide) (fun h4 => ?_) (fun h4 => ?_)
        · rw [← pq_msk_f (by simp [h4])] at hih
          refine ux_iinc C (nI (i + 1)) [(3, _), (0, _), (1, _), (2, _)] dX6_dropFrom_37 0 rfl (pq_inc i) (by decide) rfl ?_
          refine ux_goto C 2 dX6_dropFrom_40 (by decide) ?_
          exact hih
        · refine ux_aload_n C dX6_dropFrom_20 1 rfl ?_
          refine ux_get C flX6_dropFrom_25 6 rfl rfl rfl dX6_dropFrom_21 ?_
          refine ux_iload_n C dX6_dropFrom_24 0 rfl ?_
          refine ux_iald C 16 8 (i) rfl rfl (rfl) (by omega) (by decide) dX6_dropFrom_25 ?_
          refine ux_iload_n C dX6_dropFrom_26 3 rfl ?_
          refine ux_icmp_lt C 37 dX6_dropFrom_27 (by decide) (fun h5 => ?_) (fun h5 => ?_)
          · have h5 : σ.1 8 i < z := h5
            rw [← pq_msk_f (by simp [h5])] at hih
            refine ux_iinc C (nI (i + 1)) [(3, _), (0, _), (1, _), (2, _)] dX6_dropFrom_37 0 rfl (pq_inc i) (by decide) rfl ?_
            refine ux_goto C 2 dX6_dropFrom_40 (by decide) ?_
            exact hih
          · have h5 : ¬ σ.1 8 i < z := h5
            rw [← pq_msk_t (by simp [h4, h5])] at hih
            refine ux_aload_n C dX6_dropFrom_30 1 rfl ?_
            refine ux_get C flX6_dropFrom_9 6 rfl rfl rfl dX6_dropFrom_31 ?_
            refine ux_iload_n C dX6_dropFrom_34 0 rfl ?_
            refine ux_iconst C ((-1 : Int32)) dX6_dropFrom_35 (by decide) ?_
            refine ux_iast C 12 4 (i) rfl rfl (rfl) (by omega) (by decide) dX6_dropFrom_36 _ (awU_4 _ _ _ _) ?_
            refine ux_iinc C (nI (i + 1)) [(3, _), (0, _), (1, _), (2, _)] dX6_dropFrom_37 0 rfl (pq_inc i) (by decide) rfl ?_
            refine ux_goto C 2 dX6_dropFrom_40 (by decide) ?_
            refine ux_at (sa_sa _ _ _ _) ?_
            exact hih
  refine ux_iconst C (nI 0) dX6_dropFrom_0 (by decide) ?_
  refine ux_istore_n C [(3, _), (0, _), (1, _), (2, _)] dX6_dropFrom_1 rfl (by decide) rfl ?_
  refine ux_at (sa_self σ 4).symm ?_
  have hl := loop (σ.2.1 2 + 1) 0 (by omega) (by omega)
  rw [pq_msk_id (i := 0) (fun j hj => by omega)] at hl
  exact hl
set_option maxHeartbeats 4000000 in
set_option maxRecDepth 100000 in
theorem c_X6_drop (l : Launch) (D : va_G) (ad : Nat → Nat) (cA : Nat → ClassId) (A : Nat → Prop) (σ : ST) (t : Int32) (hm : σ.2.1 2 ≤ 512) : ux_N l D vwCl (tyU cA) (wU ad cA) A yX6_drop wsX6_drop (ux_rm 1) [.ref (ad 6), .int t] σ (fun σ' => σ' = sa σ 4 (pq_msk (fun r => decide (σ.1 4 r = t) && !decide (σ.1 8 r < 0)) (-1) (σ.1 4) (σ.2.1 2))) := by
  refine ux_ofN (cc := cX6_drop) (maxL := 2) (ret := none) (Ts := wsX6_drop) (lv := [(0, .ref (ad 6)), (1, .int t)]) (by decide) rfl (fun _ h => h) (Nat.le_of_ble_eq_true rfl) rfl ?_
  intro p e s m below meth c C
  refine ux_aload_n C dX6_drop_0 0 rfl ?_
  refine ux_iload_n C dX6_drop_1 1 rfl ?_
  refine ux_iconst C ((0 : Int32)) dX6_drop_2 (by decide) ?_
  refine ux_callN C gkX6_drop_50 (c_X6_dropFrom l D ad cA A σ t 0 hm) rfl ⟨rfl, rfl⟩ ⟨(Nat.le_of_ble_eq_true rfl), (Nat.le_of_ble_eq_true rfl)⟩ ⟨Nat.le_refl _, Nat.le_refl _⟩ 6 rfl rfl rfl rfl (Nat.le_of_ble_eq_true rfl) dX6_drop_3 (fun σ1 hr => ?_)
  exact ux_vret C dX6_drop_6 (hr)
set_option maxHeartbeats 4000000 in
set_option maxRecDepth 100000 in
theorem c_X6_sayTheSame (l : Launch) (D : va_G) (ad : Nat → Nat) (cA : Nat → ClassId) (A : Nat → Prop) (σ : ST) (x y : Option Nat) (hx : ∀ r, x = some r → r < 512) (hy : ∀ r, y = some r → r < 512) : ux_I l D vwCl (tyU cA) (wU ad cA) A yX6_sayTheSame wsX6_sayTheSame (ux_rm 0) [.ref (ad 6), .int (pq_o x), .int (pq_o y)] σ (fun r σ' => r = pq_b (pq_same σ x y) ∧ σ = σ') := by
  refine ux_ofI (cc := cX6_sayTheSame) (maxL := 3) (ret := (some .boolean)) (Ts := wsX6_sayTheSame) (lv := [(0, .ref (ad 6)), (1, .int (pq_o x)), (2, .int (pq_o y))]) (by decide) rfl (fun _ h => h) (Nat.le_of_ble_eq_true rfl) rfl ?_
  intro p e s m below meth c C
  cases x with
  | none =>
    refine ux_iload_n C dX6_sayTheSame_0 1 rfl ?_
    refine ux_iconst C ((-1 : Int32)) dX6_sayTheSame_1 (by decide) ?_
    refine ux_icmp_eq C 10 dX6_sayTheSame_2 (by decide) (fun h => ?_) (fun h => ?_)
    · cases y with
      | none =>
        refine ux_iload_n C dX6_sayTheSame_10 1 rfl ?_
        refine ux_iload_n C dX6_sayTheSame_11 2 rfl ?_
        refine ux_icmp_ne C 19 dX6_sayTheSame_12 (by decide) (fun h2 => ?_) (fun h2 => ?_)
        · exact absurd rfl h2
        · refine ux_iconst C ((1 : Int32)) dX6_sayTheSame_15 (by decide) ?_
          refine ux_goto C 20 dX6_sayTheSame_16 (by decide) ?_
          exact ux_zret C dX6_sayTheSame_20 rfl (⟨rfl, rfl⟩)
      | some b =>
        refine ux_iload_n C dX6_sayTheSame_10 1 rfl ?_
        refine ux_iload_n C dX6_sayTheSame_11 2 rfl ?_
        refine ux_icmp_ne C 19 dX6_sayTheSame_12 (by decide) (fun h2 => ?_) (fun h2 => ?_)
        · refine ux_iconst C ((0 : Int32)) dX6_sayTheSame_19 (by decide) ?_
          exact ux_zret C dX6_sayTheSame_20 rfl (⟨rfl, rfl⟩)
        · exact absurd h2.symm (pq_nI_m1 (Nat.lt_trans (hy b rfl) (by decide)))
    · exact absurd rfl h
  | some a =>
    have ha := hx a rfl
    refine ux_iload_n C dX6_sayTheSame_0 1 rfl ?_
    refine ux_iconst C ((-1 : Int32)) dX6_sayTheSame_1 (by decide) ?_
    refine ux_icmp_eq C 10 dX6_sayTheSame_2 (by decide) (fun h => ?_) (fun h => ?_)
    · exact absurd h (pq_nI_m1 (by omega))
    · cases y with
      | none =>
        refine ux_iload_n C dX6_sayTheSame_5 2 rfl ?_
        refine ux_iconst C ((-1 : Int32)) dX6_sayTheSame_6 (by decide) ?_
        refine ux_icmp_ne C 21 dX6_sayTheSame_7 (by decide) (fun h2 => ?_) (fun h2 => ?_)
        · exact absurd rfl h2
        · refine ux_iload_n C dX6_sayTheSame_10 1 rfl ?_
          refine ux_iload_n C dX6_sayTheSame_11 2 rfl ?_
          refine ux_icmp_ne C 19 dX6_sayTheSame_12 (by decide) (fun h3 => ?_) (fun h3 => ?_)
          · refine ux_iconst C ((0 : Int32)) dX6_sayTheSame_19 (by decide) ?_
            exact ux_zret C dX6_sayTheSame_20 rfl (⟨rfl, rfl⟩)
          · exact absurd h3 (pq_nI_m1 (by omega))
      | some b =>
        have hb := hy b rfl
        refine ux_iload_n C dX6_sayTheSame_5 2 rfl ?_
        refine ux_iconst C ((-1 : Int32)) dX6_sayTheSame_6 (by decide) ?_
        refine ux_icmp_ne C 21 dX6_sayTheSame_7 (by decide) (fun h2 => ?_) (fun h2 => ?_)
        · rw [show pq_same σ (some a) (some b) = (decide (σ.1 7 a = σ.1 7 b) && (!decide (σ.1 7 a = 0) || decide (σ.1 6 a = σ.1 6 b))) from rfl]
          refine ux_aload_n C dX6_sayTheSame_21 0 rfl ?_
          refine ux_get C flX6_sayTheSame_21 6 rfl rfl rfl dX6_sayTheSame_22 ?_
          refine ux_iload_n C dX6_sayTheSame_25 1 rfl ?_
          refine ux_zald C 15 7 (a) rfl rfl (rfl) (ha) (by decide) dX6_sayTheSame_26 ?_
          refine ux_aload_n C dX6_sayTheSame_27 0 rfl ?_
          refine ux_get C flX6_sayTheSame_21 6 rfl rfl rfl dX6_sayTheSame_28 ?_
          refine ux_iload_n C dX6_sayTheSame_31 2 rfl ?_
          refine ux_zald C 15 7 (b) rfl rfl (rfl) (hb) (by decide) dX6_sayTheSame_32 ?_
          refine ux_icmp_ne C 64 dX6_sayTheSame_33 (by decide) (fun h4 => ?_) (fun h4 => ?_)
          · refine ux_iconst C ((0 : Int32)) dX6_sayTheSame_64 (by decide) ?_
            exact ux_zret C dX6_sayTheSame_65 rfl (⟨by rw [decide_eq_false h4]; rfl, rfl⟩)
          · refine ux_aload_n C dX6_sayTheSame_36 0 rfl ?_
            refine ux_get C flX6_sayTheSame_21 6 rfl rfl rfl dX6_sayTheSame_37 ?_
            refine ux_iload_n C dX6_sayTheSame_40 1 rfl ?_
            refine ux_zald C 15 7 (a) rfl rfl (rfl) (ha) (by decide) dX6_sayTheSame_41 ?_
            refine ux_if_ne C 60 dX6_sayTheSame_42 (by decide) (fun h5 => ?_) (fun h5 => ?_)
            · refine ux_iconst C ((1 : Int32)) dX6_sayTheSame_60 (by decide) ?_
              refine ux_goto C 65 dX6_sayTheSame_61 (by decide) ?_
              exact ux_zret C dX6_sayTheSame_65 rfl (⟨by rw [decide_eq_true h4, decide_eq_false h5]; rfl, rfl⟩)
            · refine ux_aload_n C dX6_sayTheSame_45 0 rfl ?_
              refine ux_get C flX6_sayTheSame_18 6 rfl rfl rfl dX6_sayTheSame_46 ?_
              refine ux_iload_n C dX6_sayTheSame_49 1 rfl ?_
              refine ux_iald C 14 6 (a) rfl rfl (rfl) (ha) (by decide) dX6_sayTheSame_50 ?_
              refine ux_aload_n C dX6_sayTheSame_51 0 rfl ?_
              refine ux_get C flX6_sayTheSame_18 6 rfl rfl rfl dX6_sayTheSame_52 ?_
              refine ux_iload_n C dX6_sayTheSame_55 2 rfl ?_
              refine ux_iald C 14 6 (b) rfl rfl (rfl) (hb) (by decide) dX6_sayTheSame_56 ?_
              refine ux_icmp_ne C 64 dX6_sayTheSame_57 (by decide) (fun h6 => ?_) (fun h6 => ?_)
              · refine ux_iconst C ((0 : Int32)) dX6_sayTheSame_64 (by decide) ?_
                exact ux_zret C dX6_sayTheSame_65 rfl (⟨by rw [decide_eq_true h4, decide_eq_true h5, decide_eq_false h6]; rfl, rfl⟩)
              · refine ux_iconst C ((1 : Int32)) dX6_sayTheSame_60 (by decide) ?_
                refine ux_goto C 65 dX6_sayTheSame_61 (by decide) ?_
                exact ux_zret C dX6_sayTheSame_65 rfl (⟨by rw [decide_eq_true h4, decide_eq_true h5, decide_eq_true h6]; rfl, rfl⟩)
        · exact absurd h2 (pq_nI_m1 (by omega))
set_option maxHeartbeats 4000000 in
set_option maxRecDepth 100000 in
theorem c_X6_undo (l : Launch) (D : va_G) (ad : Nat → Nat) (cA : Nat → ClassId) (A : Nat → Prop) (σ : ST) (t z : Int32) (hm : σ.2.1 2 ≤ 512) (hS : ∀ r, r < σ.2.1 2 → ∃ s, s < 512 ∧ σ.1 5 r = nI s) : ux_I l D vwCl (tyU cA) (wU ad cA) A yX6_undo wsX6_undo (ux_rm 2) [.ref (ad 6), .int t, .int z] σ (fun r σ' => ∃ f1 f2, σ' = sa (sa (sa σ 9 f1) 4 (pq_msk (fun r => decide (σ.1 4 r = t) && !decide (σ.1 8 r < z)) (-1) (σ.1 4) (σ.2.1 2))) 10 f2 ∧ r = nI (pq_cnt (fun s => !pq_same σ (pq_lst (pq_own σ t s) (σ.2.1 2)) (pq_lst (pq_own (sa σ 4 (pq_msk (fun r => decide (σ.1 4 r = t) && !decide (σ.1 8 r < z)) (-1) (σ.1 4) (σ.2.1 2))) t s) (σ.2.1 2))) 512)) := by
  refine ux_ofI (cc := cX6_undo) (maxL := 5) (ret := (some .int)) (Ts := wsX6_undo) (lv := [(0, .ref (ad 6)), (1, .int t), (2, .int z)]) (by decide) rfl (fun _ h => h) (Nat.le_of_ble_eq_true rfl) rfl ?_
  intro p e s m below meth c C
  refine ux_aload_n C dX6_undo_0 0 rfl ?_
  refine ux_iload_n C dX6_undo_1 1 rfl ?_
  refine ux_aload_n C dX6_undo_2 0 rfl ?_
  refine ux_get C flX6_undo_32 6 rfl rfl rfl dX6_undo_3 ?_
  refine ux_callN C gkX6_undo_46 (c_X6_findOwn_9 l D ad cA A σ t hm hS) rfl ⟨rfl, rfl⟩ ⟨(Nat.le_of_ble_eq_true rfl), (Nat.le_of_ble_eq_true rfl)⟩ ⟨Nat.le_refl _, Nat.le_refl _⟩ 6 rfl rfl rfl rfl (Nat.le_of_ble_eq_true rfl) dX6_undo_6 (fun σ1 hr => ?_)
  obtain ⟨f1, rfl, hf1⟩ := hr
  refine ux_aload_n C dX6_undo_9 0 rfl ?_
  refine ux_iload_n C dX6_undo_10 1 rfl ?_
  refine ux_iload_n C dX6_undo_11 2 rfl ?_
  refine ux_callN C gkX6_undo_50 (c_X6_dropFrom l D ad cA A (sa σ 9 f1) t z hm) rfl ⟨rfl, rfl⟩ ⟨(Nat.le_of_ble_eq_true rfl), (Nat.le_of_ble_eq_true rfl)⟩ ⟨Nat.le_refl _, Nat.le_refl _⟩ 6 rfl rfl rfl rfl (Nat.le_of_ble_eq_true rfl) dX6_undo_12 (fun σ1 hr => ?_)
  subst hr
  refine ux_aload_n C dX6_undo_15 0 rfl ?_
  refine ux_iload_n C dX6_undo_16 1 rfl ?_
  refine ux_aload_n C dX6_undo_17 0 rfl ?_
  refine ux_get C flX6_undo_35 6 rfl rfl rfl dX6_undo_18 ?_
  refine ux_callN C gkX6_undo_46 (c_X6_findOwn_10 l D ad cA A _ t hm hS) rfl ⟨rfl, rfl⟩ ⟨(Nat.le_of_ble_eq_true rfl), (Nat.le_of_ble_eq_true rfl)⟩ ⟨Nat.le_refl _, Nat.le_refl _⟩ 6 rfl rfl rfl rfl (Nat.le_of_ble_eq_true rfl) dX6_undo_21 (fun σ1 hr => ?_)
  obtain ⟨f2, rfl, hf2⟩ := hr
  have loop : ∀ (k i : Nat), 513 ≤ i + k → i ≤ 512 → ux_V p l e (ux_rm 2) s m ([.ref (ad 6), .int t, .int z] : List Value).toArray below meth c (MQ below (va_Qi (fun r σ' => ∃ f1 f2, σ' = sa (sa (sa σ 9 f1) 4 (pq_msk (fun r => decide (σ.1 4 r = t) && !decide (σ.1 8 r < z)) (-1) (σ.1 4) (σ.2.1 2))) 10 f2 ∧ r = nI (pq_cnt (fun s => !pq_same σ (pq_lst (pq_own σ t s) (σ.2.1 2)) (pq_lst (pq_own (sa σ 4 (pq_msk (fun r => decide (σ.1 4 r = t) && !decide (σ.1 8 r < z)) (-1) (σ.1 4) (σ.2.1 2))) t s) (σ.2.1 2))) 512)) (fun σ' t => va_P D vwCl (wU ad cA σ') t.heap) A) ([.ref (ad 6), .int t, .int z] : List Value).toArray s 0 0 A) 5 D vwCl (wU ad cA) A 0 0 (sa (sa (sa σ 9 f1) 4 (pq_msk (fun r => decide (σ.1 4 r = t) && !decide (σ.1 8 r < z)) (-1) (σ.1 4) (σ.2.1 2))) 10 f2) 29 [(4, .int (nI i)), (3, .int (nI (pq_cnt (fun s => !pq_same σ (pq_lst (pq_own σ t s) (σ.2.1 2)) (pq_lst (pq_own (sa σ 4 (pq_msk (fun r => decide (σ.1 4 r = t) && !decide (σ.1 8 r < z)) (-1) (σ.1 4) (σ.2.1 2))) t s) (σ.2.1 2))) i))), (0, .ref (ad 6)), (1, .int t), (2, .int z)] [] := by
    intro k
    induction k with
    | zero => intro i h1 h2; omega
    | succ k ih =>
      intro i h1 h2
      refine ux_iload C dX6_undo_29 0 rfl ?_
      refine ux_sipush C (nI 512) dX6_undo_31 (by decide) ?_
      refine ux_icmp_ge C 67 dX6_undo_34 (by decide) (fun hc => ?_) (fun hc => ?_)
      · have hc := (nI_leI (by omega) (by omega)).mp hc
        have e : i = 512 := by omega
        subst e
        refine ux_iload_n C dX6_undo_67 1 rfl ?_
        exact ux_iret C dX6_undo_68 (⟨f1, f2, rfl, rfl⟩)
      · have hc := mt (nI_leI (by omega) (by omega)).mpr hc
        have hih := ih (i + 1) (by omega) (by omega)
        refine ux_aload_n C dX6_undo_37 2 rfl ?_
        refine ux_aload_n C dX6_undo_38 2 rfl ?_
        refine ux_get C flX6_undo_32 6 rfl rfl rfl dX6_undo_39 ?_
        refine ux_iload C dX6_undo_42 0 rfl ?_
        refine ux_iald C 17 9 (i) rfl rfl (rfl) (by omega) (by decide) dX6_undo_44 ?_
        refine ux_top _ (hf1 i (by omega)) ?_
        refine ux_aload_n C dX6_undo_45 2 rfl ?_
        refine ux_get C flX6_undo_35 6 rfl rfl rfl dX6_undo_46 ?_
        refine ux_iload C dX6_undo_49 0 rfl ?_
        refine ux_iald C 18 10 (i) rfl rfl (rfl) (by omega) (by decide) dX6_undo_51 ?_
        refine ux_top _ (hf2 i (by omega)) ?_
        refine ux_callI C gkX6_undo_54 (c_X6_sayTheSame l D ad cA A _ (pq_lst (pq_own σ t i) (σ.2.1 2)) (pq_lst (pq_own (sa σ 4 (pq_msk (fun r => decide (σ.1 4 r = t) && !decide (σ.1 8 r < z)) (-1) (σ.1 4) (σ.2.1 2))) t i) (σ.2.1 2)) (fun q hq => by have := (pq_lst_some.mp hq).1; omega) (fun q hq => by have := (pq_lst_some.mp hq).1; omega)) rfl ⟨rfl, rfl⟩ ⟨(Nat.le_of_ble_eq_true rfl), (Nat.le_of_ble_eq_true rfl)⟩ ⟨Nat.le_refl _, Nat.le_refl _⟩ 6 rfl rfl rfl rfl (Nat.le_of_ble_eq_true rfl) dX6_undo_52 (fun r σ1 hr => ?_)
        obtain ⟨rfl, rfl⟩ := hr
        refine ux_if_ne C 61 dX6_undo_55 (by decide) (fun h4 => ?_) (fun h4 => ?_)
        · have h4 : pq_same σ (pq_lst (pq_own σ t i) (σ.2.1 2)) (pq_lst (pq_own (sa σ 4 (pq_msk (fun r => decide (σ.1 4 r = t) && !decide (σ.1 8 r < z)) (-1) (σ.1 4) (σ.2.1 2))) t i) (σ.2.1 2)) = true := (pq_bn0 _).mp h4
          rw [pq_cnt_f (n := i) (by rw [h4]; rfl)] at hih
          refine ux_iinc C (nI (i + 1)) [(4, _), (3, _), (0, _), (1, _), (2, _)] dX6_undo_61 0 rfl (pq_inc i) (by decide) rfl ?_
          refine ux_goto C 29 dX6_undo_64 (by decide) ?_
          exact hih
        · have h4 : pq_same σ (pq_lst (pq_own σ t i) (σ.2.1 2)) (pq_lst (pq_own (sa σ 4 (pq_msk (fun r => decide (σ.1 4 r = t) && !decide (σ.1 8 r < z)) (-1) (σ.1 4) (σ.2.1 2))) t i) (σ.2.1 2)) = false := (pq_b0 _).mp h4
          rw [pq_cnt_t (n := i) (by rw [h4]; rfl)] at hih
          refine ux_iinc C (nI (_ + 1)) [(3, _), (4, _), (0, _), (1, _), (2, _)] dX6_undo_58 1 rfl (pq_inc _) (by decide) rfl ?_
          refine ux_iinc C (nI (i + 1)) [(4, _), (3, _), (0, _), (1, _), (2, _)] dX6_undo_61 1 rfl (pq_inc i) (by decide) rfl ?_
          refine ux_goto C 29 dX6_undo_64 (by decide) ?_
          exact hih
  refine ux_iconst C (nI 0) dX6_undo_24 (by decide) ?_
  refine ux_istore_n C [(3, _), (0, _), (1, _), (2, _)] dX6_undo_25 rfl (by decide) rfl ?_
  refine ux_iconst C (nI 0) dX6_undo_26 (by decide) ?_
  refine ux_istore C [(4, _), (3, _), (0, _), (1, _), (2, _)] dX6_undo_27 (by decide) rfl ?_
  exact loop 513 0 (by omega) (by omega)
end
section
theorem hiX4_clear_4 : ∀ w ∈ wsX40, w ∈ wsX4_clear := by decide +kernel
theorem flX4_clear_11 : ux_F wsX4_clear RX4 11 RX4 TX4 1 0 := ⟨hiX4_clear_4, by decide, by decide +kernel⟩
theorem hiX4_join_4 : ∀ w ∈ wsX40, w ∈ wsX4_join := by decide +kernel
theorem flX4_join_11 : ux_F wsX4_join RX4 11 RX4 TX4 1 0 := ⟨hiX4_join_4, by decide, by decide +kernel⟩
theorem hiX4_leads_4 : ∀ w ∈ wsX40, w ∈ wsX4_leads := by decide +kernel
theorem flX4_leads_11 : ux_F wsX4_leads RX4 11 RX4 TX4 1 0 := ⟨hiX4_leads_4, by decide, by decide +kernel⟩
theorem hiX4_joinAll_4 : ∀ w ∈ wsX40, w ∈ wsX4_joinAll := by decide +kernel
theorem flX4_joinAll_11 : ux_F wsX4_joinAll RX4 11 RX4 TX4 1 0 := ⟨hiX4_joinAll_4, by decide, by decide +kernel⟩
theorem hiX1_drawInTheWay_1 : ∀ w ∈ wsX10, w ∈ wsX1_drawInTheWay := by decide +kernel
theorem flX1_drawInTheWay_21 : ux_F wsX1_drawInTheWay RX1 21 RX1 TX1 4 3 := ⟨hiX1_drawInTheWay_1, by decide, by decide +kernel⟩
theorem flX1_drawInTheWay_9 : ux_F wsX1_drawInTheWay RX1 9 RX1 TX1 4 0 := ⟨hiX1_drawInTheWay_1, by decide, by decide +kernel⟩
theorem gkX4_clear_15 : ux_GS wsX4_clear RX4 15 yJ7_fill_d0a16 wsJ7_fill_d0a16 2 := ⟨gX4_clear_J7_fill_d0a16, by decide +kernel⟩
theorem gkX4_close_21 : ux_G wsX4_close RX4 21 RX4 yX4_leads wsX4_leads 2 := ⟨gX4_close_X4_leads, by decide +kernel⟩
theorem gkX4_close_25 : ux_G wsX4_close RX4 25 RX4 yX4_joinAll wsX4_joinAll 2 := ⟨gX4_close_X4_joinAll, by decide +kernel⟩
theorem gkX1_drawInTheWay_38 : ux_G wsX1_drawInTheWay RX1 38 RX5 yX5_slotOf wsX5_slotOf 1 := ⟨gX1_drawInTheWay_X5_slotOf, by decide +kernel⟩
theorem gkX1_drawInTheWay_44 : ux_G wsX1_drawInTheWay RX1 44 RX5 yX5_kindOf wsX5_kindOf 1 := ⟨gX1_drawInTheWay_X5_kindOf, by decide +kernel⟩
theorem gkX1_drawInTheWay_34 : ux_G wsX1_drawInTheWay RX1 34 RX1 yX1_isInTheWay wsX1_isInTheWay 4 := ⟨gX1_drawInTheWay_X1_isInTheWay, by decide +kernel⟩
theorem gkX1_drawInTheWay_47 : ux_G wsX1_drawInTheWay RX1 47 RX4 yX4_join wsX4_join 2 := ⟨gX1_drawInTheWay_X4_join, by decide +kernel⟩
set_option maxHeartbeats 4000000 in
set_option maxRecDepth 100000 in
theorem c_X4_clear (l : Launch) (D : va_G) (ad : Nat → Nat) (cA : Nat → ClassId) (A : Nat → Prop) (σ : ST) : ux_N l D vwCl (tyU cA) (wU ad cA) A yX4_clear wsX4_clear (ux_rm 1) [.ref (ad 4)] σ (fun σ' => ∃ B, σ' = sb σ B ∧ ∀ j, j < 453 → B j = 0) := by
  refine ux_ofN (cc := cX4_clear) (maxL := 1) (ret := none) (Ts := wsX4_clear) (lv := [(0, .ref (ad 4))]) (by decide) rfl (fun _ h => h) (Nat.le_of_ble_eq_true rfl) rfl ?_
  intro p e s m below meth c C
  refine ux_aload_n C dX4_clear_0 0 rfl ?_
  refine ux_get C flX4_clear_11 4 rfl rfl rfl dX4_clear_1 ?_
  refine ux_lconst C ((0 : Int64)) dX4_clear_4 (by decide) ?_
  refine ux_scallN C gkX4_clear_15 (c_J7_fill_d0a16 l D ad cA A σ 0) rfl ⟨rfl, rfl⟩ ⟨(Nat.le_of_ble_eq_true rfl), (Nat.le_of_ble_eq_true rfl)⟩ ⟨Nat.le_refl _, Nat.le_refl _⟩ rfl rfl (Nat.le_of_ble_eq_true rfl) dX4_clear_5 (fun σ1 hr => ?_)
  exact ux_vret C dX4_clear_8 (hr)
set_option maxHeartbeats 4000000 in
set_option maxRecDepth 100000 in
theorem c_X4_join (l : Launch) (D : va_G) (ad : Nat → Nat) (cA : Nat → ClassId) (A : Nat → Prop) (σ : ST) (a b : Nat) (ha : a ≤ 150) (hb : b ≤ 150) : ux_N l D vwCl (tyU cA) (wU ad cA) A yX4_join wsX4_join (ux_rm 0) [.ref (ad 4), .int (nI a), .int (nI b)] σ (fun σ' => ∃ B, σ' = sb σ B ∧ ∀ c d, d ≤ 150 → pq_bit B c d = (pq_bit σ.2.2 c d || (decide (c = a) && decide (d = b)))) := by
  refine ux_ofN (cc := cX4_join) (maxL := 3) (ret := none) (Ts := wsX4_join) (lv := [(0, .ref (ad 4)), (1, .int (nI a)), (2, .int (nI b))]) (by decide) rfl (fun _ h => h) (Nat.le_of_ble_eq_true rfl) rfl ?_
  intro p e s m below meth c C
  refine ux_aload_n C dX4_join_0 0 rfl ?_
  refine ux_get C flX4_join_11 4 rfl rfl rfl dX4_join_1 ?_
  refine ux_iload_n C dX4_join_4 1 rfl ?_
  refine ux_iconst C (nI 3) dX4_join_5 (by decide) ?_
  refine ux_imul C dX4_join_6 ?_
  refine ux_iload_n C dX4_join_7 2 rfl ?_
  refine ux_bipush C (nI 64) dX4_join_8 (by decide) ?_
  refine ux_idiv C dX4_join_10 (nI_ne0 (by omega) (by omega)) ?_
  refine ux_iadd C dX4_join_11 ?_
  refine ux_top (nI (a * 3 + b / 64)) (by rw [pk_mul, pk_div (by omega) (by omega) (by omega), nI_add]) ?_
  refine ux_dup2_11 C dX4_join_12 rfl rfl ?_
  refine ux_lald C 25 17 (_) rfl rfl (rfl) (by omega) (by decide) dX4_join_13 ?_
  refine ux_lconst C ((1 : Int64)) dX4_join_14 (by decide) ?_
  refine ux_iload_n C dX4_join_15 2 rfl ?_
  refine ux_bipush C (nI 64) dX4_join_16 (by decide) ?_
  refine ux_irem C dX4_join_18 (nI_ne0 (by omega) (by omega)) ?_
  refine ux_top (nI (b % 64)) (pk_rem (by omega) (by omega) (by omega)) ?_
  refine ux_lshl C dX4_join_19 ?_
  refine ux_lor C dX4_join_20 ?_
  refine ux_last C 25 17 (_) rfl rfl (rfl) (by omega) (by decide) dX4_join_21 _ (awU_17 _ _ _ _) ?_
  refine ux_vret C dX4_join_22 ?_
  refine ⟨_, rfl, fun c d hd => ?_⟩
  exact pq_bit_join (by omega) (by omega) σ.2.2
set_option maxHeartbeats 4000000 in
set_option maxRecDepth 100000 in
theorem c_X4_leads (l : Launch) (D : va_G) (ad : Nat → Nat) (cA : Nat → ClassId) (A : Nat → Prop) (σ : ST) (a b : Nat) (ha : a ≤ 150) (hb : b ≤ 150) : ux_I l D vwCl (tyU cA) (wU ad cA) A yX4_leads wsX4_leads (ux_rm 0) [.ref (ad 4), .int (nI a), .int (nI b)] σ (fun r σ' => r = pq_b (pq_bit σ.2.2 a b) ∧ σ = σ') := by
  refine ux_ofI (cc := cX4_leads) (maxL := 3) (ret := (some .boolean)) (Ts := wsX4_leads) (lv := [(0, .ref (ad 4)), (1, .int (nI a)), (2, .int (nI b))]) (by decide) rfl (fun _ h => h) (Nat.le_of_ble_eq_true rfl) rfl ?_
  intro p e s m below meth c C
  refine ux_aload_n C dX4_leads_0 0 rfl ?_
  refine ux_get C flX4_leads_11 4 rfl rfl rfl dX4_leads_1 ?_
  refine ux_iload_n C dX4_leads_4 1 rfl ?_
  refine ux_iconst C (nI 3) dX4_leads_5 (by decide) ?_
  refine ux_imul C dX4_leads_6 ?_
  refine ux_iload_n C dX4_leads_7 2 rfl ?_
  refine ux_bipush C (nI 64) dX4_leads_8 (by decide) ?_
  refine ux_idiv C dX4_leads_10 (nI_ne0 (by omega) (by omega)) ?_
  refine ux_iadd C dX4_leads_11 ?_
  refine ux_top (nI (a * 3 + b / 64)) (by rw [pk_mul, pk_div (by omega) (by omega) (by omega), nI_add]) ?_
  refine ux_lald C 25 17 (_) rfl rfl (rfl) (by omega) (by decide) dX4_leads_12 ?_
  refine ux_iload_n C dX4_leads_13 2 rfl ?_
  refine ux_bipush C (nI 64) dX4_leads_14 (by decide) ?_
  refine ux_irem C dX4_leads_16 (nI_ne0 (by omega) (by omega)) ?_
  refine ux_top (nI (b % 64)) (pk_rem (by omega) (by omega) (by omega)) ?_
  refine ux_lushr C dX4_leads_17 ?_
  refine ux_lconst C ((1 : Int64)) dX4_leads_18 (by decide) ?_
  refine ux_land C dX4_leads_19 ?_
  refine ux_lconst C ((0 : Int64)) dX4_leads_20 (by decide) ?_
  refine ux_lcmp C dX4_leads_21 ?_
  refine ux_if_eq C 29 dX4_leads_22 (by decide) (fun h => ?_) (fun h => ?_)
  · refine ux_iconst C ((0 : Int32)) dX4_leads_29 (by decide) ?_
    exact ux_zret C dX4_leads_30 rfl (⟨by rw [pq_bit_leads.mp h]; rfl, rfl⟩)
  · refine ux_iconst C ((1 : Int32)) dX4_leads_25 (by decide) ?_
    refine ux_goto C 30 dX4_leads_26 (by decide) ?_
    exact ux_zret C dX4_leads_30 rfl (⟨by rw [pq_bit_leadsN.mp h]; rfl, rfl⟩)
set_option maxHeartbeats 4000000 in
set_option maxRecDepth 100000 in
theorem c_X4_joinAll (l : Launch) (D : va_G) (ad : Nat → Nat) (cA : Nat → ClassId) (A : Nat → Prop) (σ : ST) (a b : Nat) (ha : a ≤ 150) (hb : b ≤ 150) : ux_N l D vwCl (tyU cA) (wU ad cA) A yX4_joinAll wsX4_joinAll (ux_rm 0) [.ref (ad 4), .int (nI a), .int (nI b)] σ (fun σ' => ∃ B, σ' = sb σ B ∧ ∀ c d, d ≤ 150 → pq_bit B c d = (pq_bit σ.2.2 c d || (decide (c = a) && pq_bit σ.2.2 b d))) := by
  refine ux_ofN (cc := cX4_joinAll) (maxL := 4) (ret := none) (Ts := wsX4_joinAll) (lv := [(0, .ref (ad 4)), (1, .int (nI a)), (2, .int (nI b))]) (by decide) rfl (fun _ h => h) (Nat.le_of_ble_eq_true rfl) rfl ?_
  intro p e s m below meth c C
  have loop : ∀ (k w : Nat) (B : Nat → Int64), 4 ≤ w + k → w ≤ 3 → (∀ i v, v < 3 → B (i * 3 + v) = if i = a ∧ v < w then σ.2.2 (i * 3 + v) ||| σ.2.2 (b * 3 + v) else σ.2.2 (i * 3 + v)) → ux_V p l e (ux_rm 0) s m ([.ref (ad 4), .int (nI a), .int (nI b)] : List Value).toArray below meth c (MQ below (va_Qv (fun σ' => ∃ B, σ' = sb σ B ∧ ∀ c d, d ≤ 150 → pq_bit B c d = (pq_bit σ.2.2 c d || (decide (c = a) && pq_bit σ.2.2 b d))) (fun σ' t => va_P D vwCl (wU ad cA σ') t.heap) A) ([.ref (ad 4), .int (nI a), .int (nI b)] : List Value).toArray s 0 0 A) 4 D vwCl (wU ad cA) A 0 0 (sb σ B) 2 [(3, .int (nI w)), (0, .ref (ad 4)), (1, .int (nI a)), (2, .int (nI b))] [] := by
    intro k
    induction k with
    | zero => intro w B h1 h2; omega
    | succ k ih =>
      intro w B h1 h2 h3
      refine ux_iload_n C dX4_joinAll_2 0 rfl ?_
      refine ux_iconst C (nI 3) dX4_joinAll_3 (by decide) ?_
      refine ux_icmp_ge C 36 dX4_joinAll_4 (by decide) (fun hc => ?_) (fun hc => ?_)
      · have hc := (nI_leI (by omega) (by omega)).mp hc
        have e : w = 3 := by omega
        subst e
        refine ux_vret C dX4_joinAll_36 ?_
        refine ⟨B, rfl, fun c d hd => ?_⟩
        unfold pq_bit
        rw [h3 c (d / 64) (by omega)]
        by_cases e : c = a
        · rw [if_pos ⟨e, by omega⟩, decide_eq_true e]; simp
        · rw [if_neg (fun q => e q.1), decide_eq_false e]; simp
      · have hc := mt (nI_leI (by omega) (by omega)).mpr hc
        refine ux_aload_n C dX4_joinAll_7 1 rfl ?_
        refine ux_get C flX4_joinAll_11 4 rfl rfl rfl dX4_joinAll_8 ?_
        refine ux_iload_n C dX4_joinAll_11 2 rfl ?_
        refine ux_iconst C (nI 3) dX4_joinAll_12 (by decide) ?_
        refine ux_imul C dX4_joinAll_13 ?_
        refine ux_iload_n C dX4_joinAll_14 0 rfl ?_
        refine ux_iadd C dX4_joinAll_15 ?_
        refine ux_top (nI (a * 3 + w)) (by rw [pk_mul, nI_add]) ?_
        refine ux_dup2_11 C dX4_joinAll_16 rfl rfl ?_
        refine ux_lald C 25 17 (_) rfl rfl (rfl) (by omega) (by decide) dX4_joinAll_17 ?_
        refine ux_aload_n C dX4_joinAll_18 1 rfl ?_
        refine ux_get C flX4_joinAll_11 4 rfl rfl rfl dX4_joinAll_19 ?_
        refine ux_iload_n C dX4_joinAll_22 3 rfl ?_
        refine ux_iconst C (nI 3) dX4_joinAll_23 (by decide) ?_
        refine ux_imul C dX4_joinAll_24 ?_
        refine ux_iload_n C dX4_joinAll_25 0 rfl ?_
        refine ux_iadd C dX4_joinAll_26 ?_
        refine ux_top (nI (b * 3 + w)) (by rw [pk_mul, nI_add]) ?_
        refine ux_lald C 25 17 (_) rfl rfl (rfl) (by omega) (by decide) dX4_joinAll_27 ?_
        refine ux_lor C dX4_joinAll_28 ?_
        refine ux_last C 25 17 (_) rfl rfl (rfl) (by omega) (by decide) dX4_joinAll_29 _ (awU_17 _ _ _ _) ?_
        refine ux_iinc C (nI (w + 1)) [(3, _), (0, _), (1, _), (2, _)] dX4_joinAll_30 0 rfl (pq_inc w) (by decide) rfl ?_
        refine ux_goto C 2 dX4_joinAll_33 (by decide) ?_
        refine ih (w + 1) _ (by omega) (by omega) (fun i v hv => ?_)
        have e1 : B (a * 3 + w) = σ.2.2 (a * 3 + w) := by rw [h3 a w (by omega), if_neg (by omega)]
        have e2 : B (b * 3 + w) = σ.2.2 (b * 3 + w) := by rw [h3 b w (by omega), if_neg (by omega)]
        show (if i * 3 + v = a * 3 + w then B (a * 3 + w) ||| B (b * 3 + w) else B (i * 3 + v)) = _
        by_cases e : i = a ∧ v = w
        · rw [if_pos (by omega), if_pos (by omega), e1, e2, e.1, e.2]
        · rw [if_neg (by omega), h3 i v hv]
          by_cases e3 : i = a ∧ v < w
          · rw [if_pos e3, if_pos (by omega)]
          · rw [if_neg e3, if_neg (by omega)]
  refine ux_iconst C (nI 0) dX4_joinAll_0 (by decide) ?_
  refine ux_istore_n C [(3, _), (0, _), (1, _), (2, _)] dX4_joinAll_1 rfl (by decide) rfl ?_
  exact loop 4 0 σ.2.2 (by omega) (by omega) (fun i v hv => by rw [if_neg (by omega)])
set_option maxHeartbeats 4000000 in
set_option maxRecDepth 100000 in
theorem c_X4_close (l : Launch) (D : va_G) (ad : Nat → Nat) (cA : Nat → ClassId) (A : Nat → Prop) (σ : ST) (n : Nat) (hn : n ≤ 150) (E : Nat → Nat → Bool) (hE : ∀ a b, 1 ≤ a → a ≤ n → b ≤ 150 → pq_bit σ.2.2 a b = E a b) : ux_N l D vwCl (tyU cA) (wU ad cA) A yX4_close wsX4_close (ux_rm 1) [.ref (ad 4), .int (nI n)] σ (fun σ' => ∃ B, σ' = sb σ B ∧ ∀ a b, 1 ≤ a → a ≤ n → b ≤ 150 → pq_bit B a b = pq_cl E n a b) := by
  refine ux_ofN (cc := cX4_close) (maxL := 4) (ret := none) (Ts := wsX4_close) (lv := [(0, .ref (ad 4)), (1, .int (nI n))]) (by decide) rfl (fun _ h => h) (Nat.le_of_ble_eq_true rfl) rfl ?_
  intro p e s m below meth c C
  have inner : ∀ (th : Nat) (hth : th + 1 ≤ n) (kk : ∀ B, (∀ a b, 1 ≤ a → a ≤ n → b ≤ 150 → pq_bit B a b = pq_cl E (th + 1) a b) → ux_V p l e (ux_rm 1) s m ([.ref (ad 4), .int (nI n)] : List Value).toArray below meth c (MQ below (va_Qv (fun σ' => ∃ B, σ' = sb σ B ∧ ∀ a b, 1 ≤ a → a ≤ n → b ≤ 150 → pq_bit B a b = pq_cl E n a b) (fun σ' t => va_P D vwCl (wU ad cA σ') t.heap) A) ([.ref (ad 4), .int (nI n)] : List Value).toArray s 0 0 A) 4 D vwCl (wU ad cA) A 0 0 (sb σ B) 35 [(3, .int (nI (n + 1))), (2, .int (nI (th + 1))), (0, .ref (ad 4)), (1, .int (nI n))] []) (k j : Nat) (B : Nat → Int64), n + 2 ≤ j + k → 1 ≤ j → j ≤ n + 1 → (∀ a b, 1 ≤ a → a ≤ n → b ≤ 150 → pq_bit B a b = if a < j then pq_cl E (th + 1) a b else pq_cl E th a b) → ux_V p l e (ux_rm 1) s m ([.ref (ad 4), .int (nI n)] : List Value).toArray below meth c (MQ below (va_Qv (fun σ' => ∃ B, σ' = sb σ B ∧ ∀ a b, 1 ≤ a → a ≤ n → b ≤ 150 → pq_bit B a b = pq_cl E n a b) (fun σ' t => va_P D vwCl (wU ad cA σ') t.heap) A) ([.ref (ad 4), .int (nI n)] : List Value).toArray s 0 0 A) 4 D vwCl (wU ad cA) A 0 0 (sb σ B) 9 [(3, .int (nI j)), (2, .int (nI (th + 1))), (0, .ref (ad 4)), (1, .int (nI n))] [] := by
    intro th hth kk k
    induction k with
    | zero => intro j B h1 h2 h3; omega
    | succ k ih =>
      intro j B h1 h2 h3 h4
      refine ux_iload_n C dX4_close_9 0 rfl ?_
      refine ux_iload_n C dX4_close_10 3 rfl ?_
      refine ux_icmp_gt C 35 dX4_close_11 (by decide) (fun hc => ?_) (fun hc => ?_)
      · have hc := (nI_ltI (by omega) (by omega)).mp hc
        have e : j = n + 1 := by omega
        subst e
        exact kk B (fun a b ha hb hd => by rw [h4 a b ha hb hd, if_pos (by omega)])
      · have hc := mt (nI_ltI (by omega) (by omega)).mpr hc
        have hrow : ∀ b, b ≤ 150 → pq_bit B (th + 1) b = pq_cl E th (th + 1) b := fun b hb => by
          rw [h4 (th + 1) b (by omega) hth hb]
          split
          · exact pq_cl_row E th b
          · rfl
        have hj : pq_bit B j (th + 1) = pq_cl E th j (th + 1) := by rw [h4 j (th + 1) h2 (by omega) (by omega), if_neg (by omega)]
        refine ux_aload_n C dX4_close_14 2 rfl ?_
        refine ux_iload_n C dX4_close_15 0 rfl ?_
        refine ux_iload_n C dX4_close_16 1 rfl ?_
        refine ux_callI C gkX4_close_21 (c_X4_leads l D ad cA A (sb σ B) j (th + 1) (by omega) (by omega)) rfl ⟨rfl, rfl⟩ ⟨(Nat.le_of_ble_eq_true rfl), (Nat.le_of_ble_eq_true rfl)⟩ ⟨Nat.le_refl _, Nat.le_refl _⟩ 4 rfl rfl rfl rfl (Nat.le_of_ble_eq_true rfl) dX4_close_17 (fun r σ1 hr => ?_)
        obtain ⟨rfl, rfl⟩ := hr
        refine ux_if_eq C 29 dX4_close_20 (by decide) (fun h5 => ?_) (fun h5 => ?_)
        · have h5 : pq_bit B j (th + 1) = false := (pq_b0 _).mp h5
          refine ux_iinc C (nI (j + 1)) [(3, _), (2, _), (0, _), (1, _)] dX4_close_29 0 rfl (pq_inc j) (by decide) rfl ?_
          refine ux_goto C 9 dX4_close_32 (by decide) ?_
          refine ih (j + 1) B (by omega) (by omega) (by omega) (fun a b ha hb hd => ?_)
          rw [h4 a b ha hb hd]
          by_cases e : a = j
          · subst e
            rw [if_neg (by omega), if_pos (by omega)]
            simp only [pq_cl]; rw [← hj, h5]; simp
          · by_cases e2 : a < j
            · rw [if_pos e2, if_pos (by omega)]
            · rw [if_neg e2, if_neg (by omega)]
        · have h5 : pq_bit B j (th + 1) = true := (pq_bn0 _).mp h5
          refine ux_aload_n C dX4_close_23 2 rfl ?_
          refine ux_iload_n C dX4_close_24 0 rfl ?_
          refine ux_iload_n C dX4_close_25 1 rfl ?_
          refine ux_callN C gkX4_close_25 (c_X4_joinAll l D ad cA A (sb σ B) j (th + 1) (by omega) (by omega)) rfl ⟨rfl, rfl⟩ ⟨(Nat.le_of_ble_eq_true rfl), (Nat.le_of_ble_eq_true rfl)⟩ ⟨Nat.le_refl _, Nat.le_refl _⟩ 4 rfl rfl rfl rfl (Nat.le_of_ble_eq_true rfl) dX4_close_26 (fun σ1 hr => ?_)
          obtain ⟨B2, rfl, hB⟩ := hr
          refine ux_iinc C (nI (j + 1)) [(3, _), (2, _), (0, _), (1, _)] dX4_close_29 0 rfl (pq_inc j) (by decide) rfl ?_
          refine ux_goto C 9 dX4_close_32 (by decide) ?_
          refine ih (j + 1) B2 (by omega) (by omega) (by omega) (fun a b ha hb hd => ?_)
          have hB : pq_bit B2 a b = (pq_bit B a b || (decide (a = j) && pq_bit B (th + 1) b)) := hB a b hd
          rw [hB, h4 a b ha hb hd, hrow b hd]
          by_cases e : a = j
          · subst e
            rw [if_neg (by omega), if_pos (by omega), decide_eq_true rfl]
            simp only [pq_cl]; rw [← hj, h5]
          · rw [decide_eq_false e]
            by_cases e2 : a < j
            · rw [if_pos e2, if_pos (by omega)]; simp
            · rw [if_neg e2, if_neg (by omega)]; simp
  have outer : ∀ (k th : Nat) (B : Nat → Int64), n + 1 ≤ th + k → th ≤ n → (∀ a b, 1 ≤ a → a ≤ n → b ≤ 150 → pq_bit B a b = pq_cl E th a b) → ux_V p l e (ux_rm 1) s m ([.ref (ad 4), .int (nI n)] : List Value).toArray below meth c (MQ below (va_Qv (fun σ' => ∃ B, σ' = sb σ B ∧ ∀ a b, 1 ≤ a → a ≤ n → b ≤ 150 → pq_bit B a b = pq_cl E n a b) (fun σ' t => va_P D vwCl (wU ad cA σ') t.heap) A) ([.ref (ad 4), .int (nI n)] : List Value).toArray s 0 0 A) 4 D vwCl (wU ad cA) A 0 0 (sb σ B) 2 [(2, .int (nI (th + 1))), (0, .ref (ad 4)), (1, .int (nI n))] [] := by
    intro k
    induction k with
    | zero => intro th B h1 h2; omega
    | succ k ih =>
      intro th B h1 h2 h3
      refine ux_iload_n C dX4_close_2 0 rfl ?_
      refine ux_iload_n C dX4_close_3 2 rfl ?_
      refine ux_icmp_gt C 41 dX4_close_4 (by decide) (fun hc => ?_) (fun hc => ?_)
      · have hc := (nI_ltI (by omega) (by omega)).mp hc
        have e : th = n := by omega
        subst e
        exact ux_vret C dX4_close_41 (⟨B, rfl, h3⟩)
      · have hc := mt (nI_ltI (by omega) (by omega)).mpr hc
        refine ux_iconst C (nI 1) dX4_close_7 (by decide) ?_
        refine ux_istore_n C [(3, _), (2, _), (0, _), (1, _)] dX4_close_8 rfl (by decide) rfl ?_
        refine inner th (by omega) (fun B hB => ?_) (n + 2) 1 B (by omega) (by omega) (by omega) (fun a b ha hb hd => by rw [if_neg (by omega)]; exact h3 a b ha hb hd)
        refine ux_iinc C (nI (th + 1 + 1)) [(2, _), (3, _), (0, _), (1, _)] dX4_close_35 1 rfl (pq_inc (th + 1)) (by decide) rfl ?_
        refine ux_goto C 2 dX4_close_38 (by decide) ?_
        refine ux_sub [(2, _), (0, _), (1, _)] [0, 2, 3] rfl ?_
        exact ih (th + 1) B (by omega) (by omega) hB
  refine ux_iconst C (nI 1) dX4_close_0 (by decide) ?_
  refine ux_istore_n C [(2, _), (0, _), (1, _)] dX4_close_1 rfl (by decide) rfl ?_
  exact outer (n + 1) 0 σ.2.2 (by omega) (by omega) hE
set_option maxHeartbeats 4000000 in
set_option maxRecDepth 100000 in
theorem c_X1_drawInTheWay (l : Launch) (D : va_G) (ad : Nat → Nat) (cA : Nat → ClassId) (A : Nat → Prop) (σ : ST) (t : Nat) (ht : t ≤ 150) (hm : σ.2.1 3 ≤ 512) (hO : ∀ r, r < σ.2.1 3 → σ.1 11 r = -1 ∨ ∃ o, o ≤ 150 ∧ σ.1 11 r = nI o) : ux_N l D vwCl (tyU cA) (wU ad cA) A yX1_drawInTheWay wsX1_drawInTheWay (ux_rm 1) [.ref (ad 1), .int (nI t), .ref (ad 5), .ref (ad 10), .ref (ad 4)] σ (fun σ' => ∃ B, σ' = sb σ B ∧ ∀ a b, b ≤ 150 → pq_bit B a b = (pq_bit σ.2.2 a b || (decide (a = t) && (pq_fst (fun r => pq_way σ (σ.1 15 t) (σ.1 16 t) r && decide (σ.1 11 r = nI b)) (σ.2.1 3)).isSome))) := by
  refine ux_ofN (cc := cX1_drawInTheWay) (maxL := 6) (ret := none) (Ts := wsX1_drawInTheWay) (lv := [(0, .ref (ad 1)), (1, .int (nI t)), (2, .ref (ad 5)), (3, .ref (ad 10)), (4, .ref (ad 4))]) (by decide) rfl (fun _ h => h) (Nat.le_of_ble_eq_true rfl) rfl ?_
  intro p e s m below meth c C
  have loop : ∀ (k i : Nat) (B : Nat → Int64), σ.2.1 3 + 1 ≤ i + k → i ≤ σ.2.1 3 → (∀ a b, b ≤ 150 → pq_bit B a b = (pq_bit σ.2.2 a b || (decide (a = t) && (pq_fst (fun r => pq_way σ (σ.1 15 t) (σ.1 16 t) r && decide (σ.1 11 r = nI b)) i).isSome))) → ux_V p l e (ux_rm 1) s m ([.ref (ad 1), .int (nI t), .ref (ad 5), .ref (ad 10), .ref (ad 4)] : List Value).toArray below meth c (MQ below (va_Qv (fun σ' => ∃ B, σ' = sb σ B ∧ ∀ a b, b ≤ 150 → pq_bit B a b = (pq_bit σ.2.2 a b || (decide (a = t) && (pq_fst (fun r => pq_way σ (σ.1 15 t) (σ.1 16 t) r && decide (σ.1 11 r = nI b)) (σ.2.1 3)).isSome))) (fun σ' t => va_P D vwCl (wU ad cA σ') t.heap) A) ([.ref (ad 1), .int (nI t), .ref (ad 5), .ref (ad 10), .ref (ad 4)] : List Value).toArray s 0 0 A) 6 D vwCl (wU ad cA) A 0 0 (sb σ B) 3 [(5, .int (nI i)), (0, .ref (ad 1)), (1, .int (nI t)), (2, .ref (ad 5)), (3, .ref (ad 10)), (4, .ref (ad 4))] [] := by
    intro k
    induction k with
    | zero => intro i B h1 h2; omega
    | succ k ih =>
      intro i B h1 h2 h3
      refine ux_iload C dX1_drawInTheWay_3 0 rfl ?_
      refine ux_aload_n C dX1_drawInTheWay_5 1 rfl ?_
      refine ux_get C flX1_drawInTheWay_21 1 rfl rfl rfl dX1_drawInTheWay_6 ?_
      refine ux_icmp_ge C 51 dX1_drawInTheWay_9 (by decide) (fun hc => ?_) (fun hc => ?_)
      · have hc : nI (σ.2.1 3) ≤ nI i := hc
        have hc := (nI_leI (by omega) (by omega)).mp hc
        have e : i = σ.2.1 3 := by omega
        subst e
        exact ux_vret C dX1_drawInTheWay_51 (⟨B, rfl, h3⟩)
      · have hc : ¬ nI (σ.2.1 3) ≤ nI i := hc
        have hc := mt (nI_leI (by omega) (by omega)).mpr hc
        refine ux_aload_n C dX1_drawInTheWay_12 1 rfl ?_
        refine ux_iload C dX1_drawInTheWay_13 0 rfl ?_
        refine ux_aload_n C dX1_drawInTheWay_15 3 rfl ?_
        refine ux_iload_n C dX1_drawInTheWay_16 2 rfl ?_
        refine ux_callI C gkX1_drawInTheWay_38 (c_X5_slotOf l D ad cA A (sb σ B) t ht) rfl ⟨rfl, rfl⟩ ⟨(Nat.le_of_ble_eq_true rfl), (Nat.le_of_ble_eq_true rfl)⟩ ⟨Nat.le_refl _, Nat.le_refl _⟩ 5 rfl rfl rfl rfl (Nat.le_of_ble_eq_true rfl) dX1_drawInTheWay_17 (fun r σ1 hr => ?_)
        obtain ⟨rfl, rfl⟩ := hr
        refine ux_aload_n C dX1_drawInTheWay_20 3 rfl ?_
        refine ux_iload_n C dX1_drawInTheWay_21 2 rfl ?_
        refine ux_callI C gkX1_drawInTheWay_44 (c_X5_kindOf l D ad cA A (sb σ B) t ht) rfl ⟨rfl, rfl⟩ ⟨(Nat.le_of_ble_eq_true rfl), (Nat.le_of_ble_eq_true rfl)⟩ ⟨Nat.le_refl _, Nat.le_refl _⟩ 5 rfl rfl rfl rfl (Nat.le_of_ble_eq_true rfl) dX1_drawInTheWay_22 (fun r σ1 hr => ?_)
        obtain ⟨rfl, rfl⟩ := hr
        refine ux_aload_n C dX1_drawInTheWay_25 4 rfl ?_
        refine ux_callI C gkX1_drawInTheWay_34 (c_X1_isInTheWay l D ad cA A (sb σ B) i _ _ (by omega) (hO i (by omega))) rfl ⟨rfl, rfl⟩ ⟨(Nat.le_of_ble_eq_true rfl), (Nat.le_of_ble_eq_true rfl)⟩ ⟨Nat.le_refl _, Nat.le_refl _⟩ 1 rfl rfl rfl rfl (Nat.le_of_ble_eq_true rfl) dX1_drawInTheWay_26 (fun r σ1 hr => ?_)
        obtain ⟨rfl, rfl⟩ := hr
        refine ux_if_eq C 45 dX1_drawInTheWay_29 (by decide) (fun h5 => ?_) (fun h5 => ?_)
        · have h5 : pq_way σ (σ.1 15 t) (σ.1 16 t) i = false := (pq_b0 _).mp h5
          refine ux_iinc C (nI (i + 1)) [(5, _), (0, _), (1, _), (2, _), (3, _), (4, _)] dX1_drawInTheWay_45 0 rfl (pq_inc i) (by decide) rfl ?_
          refine ux_goto C 3 dX1_drawInTheWay_48 (by decide) ?_
          refine ih (i + 1) B (by omega) (by omega) (fun a b hb => ?_)
          rw [h3 a b hb]
          simp only [pq_fst, h5, Bool.false_and]
          cases pq_fst (fun r => pq_way σ (σ.1 15 t) (σ.1 16 t) r && decide (σ.1 11 r = nI b)) i <;> rfl
        · have h5 : pq_way σ (σ.1 15 t) (σ.1 16 t) i = true := (pq_bn0 _).mp h5
          obtain ⟨o, o1, o2⟩ : ∃ o, o ≤ 150 ∧ σ.1 11 i = nI o := (hO i (by omega)).resolve_left (fun e => by simp [pq_way, e] at h5)
          refine ux_aload C dX1_drawInTheWay_32 5 rfl ?_
          refine ux_iload_n C dX1_drawInTheWay_34 2 rfl ?_
          refine ux_aload_n C dX1_drawInTheWay_35 1 rfl ?_
          refine ux_get C flX1_drawInTheWay_9 1 rfl rfl rfl dX1_drawInTheWay_36 ?_
          refine ux_iload C dX1_drawInTheWay_39 0 rfl ?_
          refine ux_iald C 19 11 (i) rfl rfl (rfl) (by omega) (by decide) dX1_drawInTheWay_41 ?_
          refine ux_top (nI o) o2 ?_
          refine ux_callN C gkX1_drawInTheWay_47 (c_X4_join l D ad cA A (sb σ B) t o ht o1) rfl ⟨rfl, rfl⟩ ⟨(Nat.le_of_ble_eq_true rfl), (Nat.le_of_ble_eq_true rfl)⟩ ⟨Nat.le_refl _, Nat.le_refl _⟩ 4 rfl rfl rfl rfl (Nat.le_of_ble_eq_true rfl) dX1_drawInTheWay_42 (fun σ1 hr => ?_)
          obtain ⟨B2, rfl, hB⟩ := hr
          refine ux_iinc C (nI (i + 1)) [(5, _), (0, _), (1, _), (2, _), (3, _), (4, _)] dX1_drawInTheWay_45 0 rfl (pq_inc i) (by decide) rfl ?_
          refine ux_goto C 3 dX1_drawInTheWay_48 (by decide) ?_
          refine ih (i + 1) B2 (by omega) (by omega) (fun a b hb => ?_)
          have hB : pq_bit B2 a b = (pq_bit B a b || (decide (a = t) && decide (b = o))) := hB a b hb
          rw [hB, h3 a b hb]
          simp only [pq_fst, h5, Bool.true_and, o2]
          rw [show decide (nI o = nI b) = decide (b = o) from decide_eq_decide.mpr ⟨fun q => ((nI_eq (by omega) (by omega)).mp q).symm, fun q => by rw [q]⟩]
          cases pq_fst (fun r => pq_way σ (σ.1 15 t) (σ.1 16 t) r && decide (σ.1 11 r = nI b)) i <;> cases pq_bit σ.2.2 a b <;> cases decide (a = t) <;> cases decide (b = o) <;> rfl
  refine ux_iconst C (nI 0) dX1_drawInTheWay_0 (by decide) ?_
  refine ux_istore C [(5, _), (0, _), (1, _), (2, _), (3, _), (4, _)] dX1_drawInTheWay_1 (by decide) rfl ?_
  exact loop (σ.2.1 3 + 1) 0 σ.2.2 (by omega) (by omega) (fun a b hb => by simp [pq_fst])
end
section
theorem hiX7_leastInTheWay_7 : ∀ w ∈ wsX70, w ∈ wsX7_leastInTheWay := by decide +kernel
theorem flX7_leastInTheWay_10 : ux_F wsX7_leastInTheWay RX7 10 RX7 TX7 7 0 := ⟨hiX7_leastInTheWay_7, by decide, by decide +kernel⟩
theorem flX7_leastInTheWay_33 : ux_F wsX7_leastInTheWay RX7 33 RX7 TX7 7 3 := ⟨hiX7_leastInTheWay_7, by decide, by decide +kernel⟩
theorem hiX7_look_7 : ∀ w ∈ wsX70, w ∈ wsX7_look := by decide +kernel
theorem flX7_look_10 : ux_F wsX7_look RX7 10 RX7 TX7 7 0 := ⟨hiX7_look_7, by decide, by decide +kernel⟩
theorem flX7_look_26 : ux_F wsX7_look RX7 26 RX7 TX7 7 2 := ⟨hiX7_look_7, by decide, by decide +kernel⟩
theorem hiX7_valueSeen_7 : ∀ w ∈ wsX70, w ∈ wsX7_valueSeen := by decide +kernel
theorem flX7_valueSeen_19 : ux_F wsX7_valueSeen RX7 19 RX7 TX7 7 1 := ⟨hiX7_valueSeen_7, by decide, by decide +kernel⟩
theorem flX7_valueSeen_26 : ux_F wsX7_valueSeen RX7 26 RX7 TX7 7 2 := ⟨hiX7_valueSeen_7, by decide, by decide +kernel⟩
theorem gkX7_leastInTheWay_215 : ux_G wsX7_leastInTheWay RX7 215 RX0 yX0_trace wsX0_trace 1 := ⟨gX7_leastInTheWay_X0_trace, by decide +kernel⟩
theorem gkX7_leastInTheWay_218 : ux_G wsX7_leastInTheWay RX7 218 RX0 yX0_line wsX0_line 0 := ⟨gX7_leastInTheWay_X0_line, by decide +kernel⟩
theorem gkX7_leastInTheWay_222 : ux_G wsX7_leastInTheWay RX7 222 RX1 yX1_leastInTheWay wsX1_leastInTheWay 3 := ⟨gX7_leastInTheWay_X1_leastInTheWay, by decide +kernel⟩
theorem gkX7_look_215 : ux_G wsX7_look RX7 215 RX0 yX0_trace wsX0_trace 1 := ⟨gX7_look_X0_trace, by decide +kernel⟩
theorem gkX7_look_218 : ux_G wsX7_look RX7 218 RX0 yX0_line wsX0_line 0 := ⟨gX7_look_X0_line, by decide +kernel⟩
theorem gkX7_look_225 : ux_G wsX7_look RX7 225 RX6 yX6_findSeen wsX6_findSeen 1 := ⟨gX7_look_X6_findSeen, by decide +kernel⟩
theorem gkX7_valueSeen_153 : ux_G wsX7_valueSeen RX7 153 RX2 yX2_find wsX2_find 1 := ⟨gX7_valueSeen_X2_find, by decide +kernel⟩
theorem gkX7_valueSeen_181 : ux_G wsX7_valueSeen RX7 181 RX7 yX7_look wsX7_look 1 := ⟨gX7_valueSeen_X7_look, by decide +kernel⟩
theorem gkX7_valueSeen_187 : ux_G wsX7_valueSeen RX7 187 RX6 yX6_hasFound wsX6_hasFound 1 := ⟨gX7_valueSeen_X6_hasFound, by decide +kernel⟩
theorem gkX7_valueSeen_201 : ux_G wsX7_valueSeen RX7 201 RX6 yX6_valueFound wsX6_valueFound 1 := ⟨gX7_valueSeen_X6_valueFound, by decide +kernel⟩
set_option maxHeartbeats 4000000 in
set_option maxRecDepth 100000 in
theorem c_X7_leastInTheWay (l : Launch) (D : va_G) (ad : Nat → Nat) (cA : Nat → ClassId) (A : Nat → Prop) (σ : ST) (t : Nat) (x y : Int32) (hF : uF σ) (hH : uH σ) (ht : t ≤ σ.2.1 0) : ux_I l D vwCl (tyU cA) (wU ad cA) A yX7_leastInTheWay wsX7_leastInTheWay (ux_rm 2) [.ref (ad 7), .int (nI t), .int x, .int y] σ (fun r σ' => ∃ f, σ' = sa σ 2 f ∧ r = u_least σ t x y) := by
  refine ux_ofI (cc := cX7_leastInTheWay) (maxL := 4) (ret := (some .int)) (Ts := wsX7_leastInTheWay) (lv := [(0, .ref (ad 7)), (1, .int (nI t)), (2, .int x), (3, .int y)]) (by decide) rfl (fun _ h => h) (Nat.le_of_ble_eq_true rfl) rfl ?_
  intro p e s m below meth c C
  refine ux_aload_n C dX7_leastInTheWay_0 0 rfl ?_
  refine ux_get C flX7_leastInTheWay_10 7 rfl rfl rfl dX7_leastInTheWay_1 ?_
  refine ux_iload_n C dX7_leastInTheWay_4 1 rfl ?_
  refine ux_callN C gkX7_leastInTheWay_215 (c_X0_trace l D ad cA A σ (uQ σ) t ht hF.1 (uF_dn hF) (fun u h1 h2 => (hF.2 u h1 h2).1)) rfl ⟨rfl, rfl⟩ ⟨(Nat.le_of_ble_eq_true rfl), (Nat.le_of_ble_eq_true rfl)⟩ ⟨Nat.le_refl _, Nat.le_refl _⟩ 0 rfl rfl rfl rfl (Nat.le_of_ble_eq_true rfl) dX7_leastInTheWay_5 (fun σ1 hr => ?_)
  obtain ⟨f, rfl, hf⟩ := hr
  refine ux_aload_n C dX7_leastInTheWay_8 0 rfl ?_
  refine ux_get C flX7_leastInTheWay_33 7 rfl rfl rfl dX7_leastInTheWay_9 ?_
  refine ux_iload_n C dX7_leastInTheWay_12 2 rfl ?_
  refine ux_iload_n C dX7_leastInTheWay_13 3 rfl ?_
  refine ux_aload_n C dX7_leastInTheWay_14 0 rfl ?_
  refine ux_get C flX7_leastInTheWay_10 7 rfl rfl rfl dX7_leastInTheWay_15 ?_
  refine ux_callR C gkX7_leastInTheWay_218 (c_X0_line l D ad cA A (sa σ 2 f)) rfl ⟨rfl, rfl⟩ ⟨(Nat.le_of_ble_eq_true rfl), (Nat.le_of_ble_eq_true rfl)⟩ ⟨Nat.le_refl _, Nat.le_refl _⟩ 0 rfl rfl rfl rfl (Nat.le_of_ble_eq_true rfl) dX7_leastInTheWay_18 (fun σ1 hr => ?_)
  subst hr
  refine ux_callI C gkX7_leastInTheWay_222 (c_X1_leastInTheWay l D ad cA A (sa σ 2 f) x y hH.1 (fun r hr => (hH.2 r hr).imp id (fun ⟨o, o1, o2⟩ => ⟨o, Nat.le_trans o1 hF.1, o2⟩))) rfl ⟨rfl, rfl⟩ ⟨(Nat.le_of_ble_eq_true rfl), (Nat.le_of_ble_eq_true rfl)⟩ ⟨Nat.le_refl _, Nat.le_refl _⟩ 1 rfl rfl rfl rfl (Nat.le_of_ble_eq_true rfl) dX7_leastInTheWay_21 (fun r σ1 hr => ?_)
  obtain ⟨rfl, rfl⟩ := hr
  exact ux_iret C dX7_leastInTheWay_24 (⟨f, rfl, pq_lw_congr (fun r hr => u_way_eq hH hf hF.1 x y hr)⟩)
set_option maxHeartbeats 4000000 in
set_option maxRecDepth 100000 in
theorem c_X7_look (l : Launch) (D : va_G) (ad : Nat → Nat) (cA : Nat → ClassId) (A : Nat → Prop) (σ : ST) (t : Nat) (hF : uF σ) (hW : uW σ) (ht : t ≤ σ.2.1 0) : ux_N l D vwCl (tyU cA) (wU ad cA) A yX7_look wsX7_look (ux_rm 2) [.ref (ad 7), .int (nI t)] σ (fun σ' => ∃ f g, σ' = sa (sa σ 2 f) 9 g ∧ ∀ s, s < 512 → g s = pq_o (u_row σ t s)) := by
  refine ux_ofN (cc := cX7_look) (maxL := 2) (ret := none) (Ts := wsX7_look) (lv := [(0, .ref (ad 7)), (1, .int (nI t))]) (by decide) rfl (fun _ h => h) (Nat.le_of_ble_eq_true rfl) rfl ?_
  intro p e s m below meth c C
  refine ux_aload_n C dX7_look_0 0 rfl ?_
  refine ux_get C flX7_look_10 7 rfl rfl rfl dX7_look_1 ?_
  refine ux_iload_n C dX7_look_4 1 rfl ?_
  refine ux_callN C gkX7_look_215 (c_X0_trace l D ad cA A σ (uQ σ) t ht hF.1 (uF_dn hF) (fun u h1 h2 => (hF.2 u h1 h2).1)) rfl ⟨rfl, rfl⟩ ⟨(Nat.le_of_ble_eq_true rfl), (Nat.le_of_ble_eq_true rfl)⟩ ⟨Nat.le_refl _, Nat.le_refl _⟩ 0 rfl rfl rfl rfl (Nat.le_of_ble_eq_true rfl) dX7_look_5 (fun σ1 hr => ?_)
  obtain ⟨f, rfl, hf⟩ := hr
  refine ux_aload_n C dX7_look_8 0 rfl ?_
  refine ux_get C flX7_look_26 7 rfl rfl rfl dX7_look_9 ?_
  refine ux_aload_n C dX7_look_12 0 rfl ?_
  refine ux_get C flX7_look_10 7 rfl rfl rfl dX7_look_13 ?_
  refine ux_callR C gkX7_look_218 (c_X0_line l D ad cA A (sa σ 2 f)) rfl ⟨rfl, rfl⟩ ⟨(Nat.le_of_ble_eq_true rfl), (Nat.le_of_ble_eq_true rfl)⟩ ⟨Nat.le_refl _, Nat.le_refl _⟩ 0 rfl rfl rfl rfl (Nat.le_of_ble_eq_true rfl) dX7_look_16 (fun σ1 hr => ?_)
  subst hr
  refine ux_callN C gkX7_look_225 (c_X6_findSeen l D ad cA A (sa σ 2 f) hW.1 (fun r hr => (hW.2 r hr).1.imp id (fun ⟨o, o1, o2⟩ => ⟨o, Nat.le_trans o1 hF.1, o2⟩)) (fun r hr => (hW.2 r hr).2)) rfl ⟨rfl, rfl⟩ ⟨(Nat.le_of_ble_eq_true rfl), (Nat.le_of_ble_eq_true rfl)⟩ ⟨Nat.le_refl _, Nat.le_refl _⟩ 6 rfl rfl rfl rfl (Nat.le_of_ble_eq_true rfl) dX7_look_19 (fun σ1 hr => ?_)
  obtain ⟨g, rfl, hg⟩ := hr
  exact ux_vret C dX7_look_22 (⟨f, g, rfl, fun s hs => (hg s hs).trans (congrArg pq_o (pq_lst_congr (fun r hr => u_sees_eq hW hf hF.1 s hr)))⟩)
set_option maxHeartbeats 4000000 in
set_option maxRecDepth 100000 in
theorem c_X7_valueSeen (l : Launch) (D : va_G) (ad : Nat → Nat) (cA : Nat → ClassId) (A : Nat → Prop) (σ : ST) (t : Nat) (key : Int32) (hF : uF σ) (hW : uW σ) (ht : t ≤ σ.2.1 0) (hk : σ.2.1 1 ≤ 512) : ux_L l D vwCl (tyU cA) (wU ad cA) A yX7_valueSeen wsX7_valueSeen (ux_rm 3) [.ref (ad 7), .int (nI t), .int key] σ (fun r σ' => uEq σ σ' ∧ r = u_seen σ t key) := by
  refine ux_ofL (cc := cX7_valueSeen) (maxL := 4) (ret := (some .long)) (Ts := wsX7_valueSeen) (lv := [(0, .ref (ad 7)), (1, .int (nI t)), (2, .int key)]) (by decide) rfl (fun _ h => h) (Nat.le_of_ble_eq_true rfl) rfl ?_
  intro p e s m below meth c C
  refine ux_aload_n C dX7_valueSeen_0 0 rfl ?_
  refine ux_get C flX7_valueSeen_19 7 rfl rfl rfl dX7_valueSeen_1 ?_
  refine ux_iload_n C dX7_valueSeen_4 2 rfl ?_
  refine ux_callI C gkX7_valueSeen_153 (c_X2_find l D ad cA A σ key hk) rfl ⟨rfl, rfl⟩ ⟨(Nat.le_of_ble_eq_true rfl), (Nat.le_of_ble_eq_true rfl)⟩ ⟨Nat.le_refl _, Nat.le_refl _⟩ 2 rfl rfl rfl rfl (Nat.le_of_ble_eq_true rfl) dX7_valueSeen_5 (fun r σ1 hr => ?_)
  obtain ⟨hr, rfl⟩ := hr
  have hr : r = pq_o (u_find σ key) := hr
  cases hf : u_find σ key with
  | none =>
    rw [hf] at hr
    have hr : r = -1 := hr
    subst hr
    refine ux_istore_n C [(3, _), (0, _), (1, _), (2, _)] dX7_valueSeen_8 rfl (by decide) rfl ?_
    refine ux_iload_n C dX7_valueSeen_9 0 rfl ?_
    refine ux_iconst C ((-1 : Int32)) dX7_valueSeen_10 (by decide) ?_
    refine ux_icmp_ne C 18 dX7_valueSeen_11 (by decide) (fun h => ?_) (fun h => ?_)
    · exact absurd rfl h
    · refine ux_ldc2 C (1099511627776 : Int64) (by decide +kernel) dX7_valueSeen_14 ?_
      exact ux_lret C dX7_valueSeen_17 (⟨uEq.refl σ, by rw [u_seen, hf]⟩)
  | some s =>
    rw [hf] at hr
    have hr : r = nI s := hr
    subst hr
    have hs := u_find_lt hf
    refine ux_istore_n C [(3, _), (0, _), (1, _), (2, _)] dX7_valueSeen_8 rfl (by decide) rfl ?_
    refine ux_iload_n C dX7_valueSeen_9 0 rfl ?_
    refine ux_iconst C ((-1 : Int32)) dX7_valueSeen_10 (by decide) ?_
    refine ux_icmp_ne C 18 dX7_valueSeen_11 (by decide) (fun h => ?_) (fun h => ?_)
    · refine ux_aload_n C dX7_valueSeen_18 1 rfl ?_
      refine ux_iload_n C dX7_valueSeen_19 2 rfl ?_
      refine ux_callN C gkX7_valueSeen_181 (c_X7_look l D ad cA A σ t hF hW ht) rfl ⟨rfl, rfl⟩ ⟨(Nat.le_of_ble_eq_true rfl), (Nat.le_of_ble_eq_true rfl)⟩ ⟨Nat.le_refl _, Nat.le_refl _⟩ 7 rfl rfl rfl rfl (Nat.le_of_ble_eq_true rfl) dX7_valueSeen_20 (fun σ1 hr => ?_)
      obtain ⟨f, g, rfl, hg⟩ := hr
      refine ux_aload_n C dX7_valueSeen_23 1 rfl ?_
      refine ux_get C flX7_valueSeen_26 7 rfl rfl rfl dX7_valueSeen_24 ?_
      refine ux_iload_n C dX7_valueSeen_27 0 rfl ?_
      refine ux_callI C gkX7_valueSeen_187 (c_X6_hasFound l D ad cA A (sa (sa σ 2 f) 9 g) s (u_row σ t s) (by omega) (hg s (by omega)) (fun r hr => Nat.lt_of_lt_of_le (u_row_lt hr) hW.1)) rfl ⟨rfl, rfl⟩ ⟨(Nat.le_of_ble_eq_true rfl), (Nat.le_of_ble_eq_true rfl)⟩ ⟨Nat.le_refl _, Nat.le_refl _⟩ 6 rfl rfl rfl rfl (Nat.le_of_ble_eq_true rfl) dX7_valueSeen_28 (fun r σ1 hr => ?_)
      obtain ⟨rfl, rfl⟩ := hr
      have huv : u_seen σ t key = u_val σ (u_row σ t s) := by rw [u_seen, hf]
      have hE := ((uEq.refl σ).sa2 f).sa9 g
      refine ux_if_eq C 45 dX7_valueSeen_31 (by decide) (fun h2 => ?_) (fun h2 => ?_)
      · refine ux_ldc2 C (1099511627776 : Int64) (by decide +kernel) dX7_valueSeen_45 ?_
        refine ux_lret C dX7_valueSeen_48 ?_
        refine ⟨hE, ?_⟩
        rw [huv]
        cases hrw : u_row σ t s with
        | none => rfl
        | some q =>
          rw [hrw] at h2
          have h2 : ¬ σ.1 7 q = 0 := of_decide_eq_false ((pq_b0 _).mp h2)
          exact (if_neg h2).symm
      · refine ux_aload_n C dX7_valueSeen_34 1 rfl ?_
        refine ux_get C flX7_valueSeen_26 7 rfl rfl rfl dX7_valueSeen_35 ?_
        refine ux_iload_n C dX7_valueSeen_38 0 rfl ?_
        refine ux_callL C gkX7_valueSeen_201 (c_X6_valueFound l D ad cA A (sa (sa σ 2 f) 9 g) s (u_row σ t s) (by omega) (hg s (by omega)) (fun r hr => Nat.lt_of_lt_of_le (u_row_lt hr) hW.1)) rfl ⟨rfl, rfl⟩ ⟨(Nat.le_of_ble_eq_true rfl), (Nat.le_of_ble_eq_true rfl)⟩ ⟨Nat.le_refl _, Nat.le_refl _⟩ 6 rfl rfl rfl rfl (Nat.le_of_ble_eq_true rfl) dX7_valueSeen_39 (fun r σ1 hr => ?_)
        obtain ⟨rfl, rfl⟩ := hr
        refine ux_goto C 48 dX7_valueSeen_42 (by decide) ?_
        refine ux_lret C dX7_valueSeen_48 ?_
        refine ⟨hE, ?_⟩
        rw [huv]
        cases hrw : u_row σ t s with
        | none => rfl
        | some q =>
          rw [hrw] at h2
          have h2 : σ.1 7 q = 0 := of_decide_eq_true ((pq_bn0 _).mp h2)
          exact (if_pos h2).symm
    · exact absurd h (pq_nI_m1 (by omega))
end
section
theorem hiX1_handOver_1 : ∀ w ∈ wsX10, w ∈ wsX1_handOver := by decide +kernel
theorem flX1_handOver_21 : ux_F wsX1_handOver RX1 21 RX1 TX1 4 3 := ⟨hiX1_handOver_1, by decide, by decide +kernel⟩
theorem flX1_handOver_9 : ux_F wsX1_handOver RX1 9 RX1 TX1 4 0 := ⟨hiX1_handOver_1, by decide, by decide +kernel⟩
theorem flX1_handOver_15 : ux_F wsX1_handOver RX1 15 RX1 TX1 4 1 := ⟨hiX1_handOver_1, by decide, by decide +kernel⟩
theorem flX1_handOver_18 : ux_F wsX1_handOver RX1 18 RX1 TX1 4 2 := ⟨hiX1_handOver_1, by decide, by decide +kernel⟩
theorem hiX7_mustWait_7 : ∀ w ∈ wsX70, w ∈ wsX7_mustWait := by decide +kernel
theorem flX7_mustWait_47 : ux_F wsX7_mustWait RX7 47 RX7 TX7 7 5 := ⟨hiX7_mustWait_7, by decide, by decide +kernel⟩
theorem hiX7_open_7 : ∀ w ∈ wsX70, w ∈ wsX7_open := by decide +kernel
theorem flX7_open_10 : ux_F wsX7_open RX7 10 RX7 TX7 7 0 := ⟨hiX7_open_7, by decide, by decide +kernel⟩
theorem hiX7_mark_7 : ∀ w ∈ wsX70, w ∈ wsX7_mark := by decide +kernel
theorem flX7_mark_10 : ux_F wsX7_mark RX7 10 RX7 TX7 7 0 := ⟨hiX7_mark_7, by decide, by decide +kernel⟩
theorem flX7_mark_40 : ux_F wsX7_mark RX7 40 RX7 TX7 7 4 := ⟨hiX7_mark_7, by decide, by decide +kernel⟩
theorem hiX7_state_7 : ∀ w ∈ wsX70, w ∈ wsX7_state := by decide +kernel
theorem flX7_state_10 : ux_F wsX7_state RX7 10 RX7 TX7 7 0 := ⟨hiX7_state_7, by decide, by decide +kernel⟩
theorem hiX7_held_7 : ∀ w ∈ wsX70, w ∈ wsX7_held := by decide +kernel
theorem flX7_held_10 : ux_F wsX7_held RX7 10 RX7 TX7 7 0 := ⟨hiX7_held_7, by decide, by decide +kernel⟩
theorem flX7_held_33 : ux_F wsX7_held RX7 33 RX7 TX7 7 3 := ⟨hiX7_held_7, by decide, by decide +kernel⟩
theorem flX7_held_19 : ux_F wsX7_held RX7 19 RX7 TX7 7 1 := ⟨hiX7_held_7, by decide, by decide +kernel⟩
theorem hiX7_blocker_7 : ∀ w ∈ wsX70, w ∈ wsX7_blocker := by decide +kernel
theorem flX7_blocker_10 : ux_F wsX7_blocker RX7 10 RX7 TX7 7 0 := ⟨hiX7_blocker_7, by decide, by decide +kernel⟩
theorem flX7_blocker_19 : ux_F wsX7_blocker RX7 19 RX7 TX7 7 1 := ⟨hiX7_blocker_7, by decide, by decide +kernel⟩
theorem hiX7_waits_7 : ∀ w ∈ wsX70, w ∈ wsX7_waits := by decide +kernel
theorem flX7_waits_10 : ux_F wsX7_waits RX7 10 RX7 TX7 7 0 := ⟨hiX7_waits_7, by decide, by decide +kernel⟩
theorem flX7_waits_47 : ux_F wsX7_waits RX7 47 RX7 TX7 7 5 := ⟨hiX7_waits_7, by decide, by decide +kernel⟩
theorem gkX1_handOver_25 : ux_G wsX1_handOver RX1 25 RX1 yX1_find wsX1_find 2 := ⟨gX1_handOver_X1_find, by decide +kernel⟩
theorem gkX7_mustWait_158 : ux_G wsX7_mustWait RX7 158 RX7 yX7_leastInTheWay wsX7_leastInTheWay 3 := ⟨gX7_mustWait_X7_leastInTheWay, by decide +kernel⟩
theorem gkX7_mustWait_212 : ux_G wsX7_mustWait RX7 212 RX5 yX5_set wsX5_set 3 := ⟨gX7_mustWait_X5_set, by decide +kernel⟩
theorem gkX7_mustWait_209 : ux_G wsX7_mustWait RX7 209 RX5 yX5_clear wsX5_clear 1 := ⟨gX7_mustWait_X5_clear, by decide +kernel⟩
theorem gkX7_open_58 : ux_G wsX7_open RX7 58 RX0 yX0_canBeAsked wsX0_canBeAsked 1 := ⟨gX7_open_X0_canBeAsked, by decide +kernel⟩
theorem gkX7_open_62 : ux_G wsX7_open RX7 62 RX0 yX0_isFull wsX0_isFull 0 := ⟨gX7_open_X0_isFull, by decide +kernel⟩
theorem gkX7_open_66 : ux_G wsX7_open RX7 66 RX0 yX0_add wsX0_add 1 := ⟨gX7_open_X0_add, by decide +kernel⟩
theorem gkX7_mark_93 : ux_G wsX7_mark RX7 93 RX0 yX0_isActive wsX0_isActive 1 := ⟨gX7_mark_X0_isActive, by decide +kernel⟩
theorem gkX7_mark_96 : ux_G wsX7_mark RX7 96 RX3 yX3_isFull wsX3_isFull 0 := ⟨gX7_mark_X3_isFull, by decide +kernel⟩
theorem gkX7_mark_97 : ux_G wsX7_mark RX7 97 RX3 yX3_add wsX3_add 1 := ⟨gX7_mark_X3_add, by decide +kernel⟩
theorem gkX7_state_139 : ux_G wsX7_state RX7 139 RX0 yX0_exists wsX0_exists 1 := ⟨gX7_state_X0_exists, by decide +kernel⟩
theorem gkX7_state_142 : ux_G wsX7_state RX7 142 RX0 yX0_stateOf wsX0_stateOf 1 := ⟨gX7_state_X0_stateOf, by decide +kernel⟩
theorem gkX7_held_93 : ux_G wsX7_held RX7 93 RX0 yX0_isActive wsX0_isActive 1 := ⟨gX7_held_X0_isActive, by decide +kernel⟩
theorem gkX7_held_153 : ux_G wsX7_held RX7 153 RX2 yX2_find wsX2_find 1 := ⟨gX7_held_X2_find, by decide +kernel⟩
theorem gkX7_held_155 : ux_G wsX7_held RX7 155 RX1 yX1_kindOf wsX1_kindOf 2 := ⟨gX7_held_X1_kindOf, by decide +kernel⟩
theorem gkX7_blocker_93 : ux_G wsX7_blocker RX7 93 RX0 yX0_isActive wsX0_isActive 1 := ⟨gX7_blocker_X0_isActive, by decide +kernel⟩
theorem gkX7_blocker_153 : ux_G wsX7_blocker RX7 153 RX2 yX2_find wsX2_find 1 := ⟨gX7_blocker_X2_find, by decide +kernel⟩
theorem gkX7_blocker_158 : ux_G wsX7_blocker RX7 158 RX7 yX7_leastInTheWay wsX7_leastInTheWay 3 := ⟨gX7_blocker_X7_leastInTheWay, by decide +kernel⟩
theorem gkX7_waits_93 : ux_G wsX7_waits RX7 93 RX0 yX0_isActive wsX0_isActive 1 := ⟨gX7_waits_X0_isActive, by decide +kernel⟩
theorem gkX7_waits_162 : ux_G wsX7_waits RX7 162 RX5 yX5_has wsX5_has 1 := ⟨gX7_waits_X5_has, by decide +kernel⟩
theorem gkX7_waits_165 : ux_G wsX7_waits RX7 165 RX5 yX5_slotOf wsX5_slotOf 1 := ⟨gX7_waits_X5_slotOf, by decide +kernel⟩
theorem gkX7_waits_168 : ux_G wsX7_waits RX7 168 RX5 yX5_kindOf wsX5_kindOf 1 := ⟨gX7_waits_X5_kindOf, by decide +kernel⟩
theorem gkX7_waits_158 : ux_G wsX7_waits RX7 158 RX7 yX7_leastInTheWay wsX7_leastInTheWay 3 := ⟨gX7_waits_X7_leastInTheWay, by decide +kernel⟩
set_option maxHeartbeats 4000000 in
set_option maxRecDepth 100000 in
theorem c_X1_handOver (l : Launch) (D : va_G) (ad : Nat → Nat) (cA : Nat → ClassId) (A : Nat → Prop) (σ : ST) (a b : Int32) (hm : σ.2.1 3 ≤ 512) (hU : uU σ) (ha : ¬ a = -1) (hb : ¬ b = -1) (hab : ¬ a = b) : ux_N l D vwCl (tyU cA) (wU ad cA) A yX1_handOver wsX1_handOver (ux_rm 1) [.ref (ad 1), .int a, .int b] σ (fun σ' => σ' = u_hand σ a b) := by
  refine ux_ofN (cc := cX1_handOver) (maxL := 5) (ret := none) (Ts := wsX1_handOver) (lv := [(0, .ref (ad 1)), (1, .int a), (2, .int b)]) (by decide) rfl (fun _ h => h) (Nat.le_of_ble_eq_true rfl) rfl ?_
  intro p e s m below meth c C
  have loop : ∀ (k i : Nat), σ.2.1 3 + 1 ≤ i + k → i ≤ σ.2.1 3 → ux_V p l e (ux_rm 1) s m ([.ref (ad 1), .int a, .int b] : List Value).toArray below meth c (MQ below (va_Qv (fun σ' => σ' = u_hand σ a b) (fun σ' t => va_P D vwCl (wU ad cA σ') t.heap) A) ([.ref (ad 1), .int a, .int b] : List Value).toArray s 0 0 A) 5 D vwCl (wU ad cA) A 0 0 (sa (sa σ 11 (pq_msk (u_hm σ a b) b (σ.1 11) i)) 13 (u_kd σ a b i)) 2 [(3, .int (nI i)), (0, .ref (ad 1)), (1, .int a), (2, .int b)] [] := by
    intro k
    induction k with
    | zero => intro i h1 h2; omega
    | succ k ih =>
      intro i h1 h2
      refine ux_iload_n C dX1_handOver_2 0 rfl ?_
      refine ux_aload_n C dX1_handOver_3 1 rfl ?_
      refine ux_get C flX1_handOver_21 1 rfl rfl rfl dX1_handOver_4 ?_
      refine ux_icmp_ge C 78 dX1_handOver_7 (by decide) (fun hc => ?_) (fun hc => ?_)
      · have hc : nI (σ.2.1 3) ≤ nI i := hc
        have hc := (nI_leI (by omega) (by omega)).mp hc
        have e : i = σ.2.1 3 := by omega
        subst e
        exact ux_vret C dX1_handOver_78 (rfl)
      · have hc : ¬ nI (σ.2.1 3) ≤ nI i := hc
        have hc := mt (nI_leI (by omega) (by omega)).mpr hc
        have hih := ih (i + 1) (by omega) (by omega)
        refine ux_aload_n C dX1_handOver_10 1 rfl ?_
        refine ux_get C flX1_handOver_9 1 rfl rfl rfl dX1_handOver_11 ?_
        refine ux_iload_n C dX1_handOver_14 0 rfl ?_
        refine ux_iald C 19 11 (i) rfl rfl (rfl) (by omega) (by decide) dX1_handOver_15 ?_
        refine ux_top _ (congrFun ((sa_ne _ _ (by decide)).trans (sa_eq _ _ _)) _) ?_
        refine ux_top _ (pq_msk_at _ _ _ _) ?_
        refine ux_iload_n C dX1_handOver_16 2 rfl ?_
        refine ux_icmp_ne C 72 dX1_handOver_17 (by decide) (fun h4 => ?_) (fun h4 => ?_)
        · rw [← pq_msk_f (i := i) (by simp [u_hm, h4]), ← u_kd_f (fun r h5 h6 h7 => h4 h7.1)] at hih
          refine ux_iinc C (nI (i + 1)) [(3, _), (0, _), (1, _), (2, _)] dX1_handOver_72 0 rfl (pq_inc i) (by decide) rfl ?_
          refine ux_goto C 2 dX1_handOver_75 (by decide) ?_
          exact hih
        · have hf := u_hand_find (b := b) hU ha (show i < σ.2.1 3 by omega) h4
          refine ux_aload_n C dX1_handOver_20 1 rfl ?_
          refine ux_iload_n C dX1_handOver_21 3 rfl ?_
          refine ux_aload_n C dX1_handOver_22 1 rfl ?_
          refine ux_get C flX1_handOver_15 1 rfl rfl rfl dX1_handOver_23 ?_
          refine ux_iload_n C dX1_handOver_26 0 rfl ?_
          refine ux_iald C 20 12 (i) rfl rfl (rfl) (by omega) (by decide) dX1_handOver_27 ?_
          refine ux_callI C gkX1_handOver_25 (c_X1_find l D ad cA A (sa (sa σ 11 (pq_msk (u_hm σ a b) b (σ.1 11) i)) 13 (u_kd σ a b i)) b (σ.1 12 i) hm) rfl ⟨rfl, rfl⟩ ⟨(Nat.le_of_ble_eq_true rfl), (Nat.le_of_ble_eq_true rfl)⟩ ⟨Nat.le_refl _, Nat.le_refl _⟩ 1 rfl rfl rfl rfl (Nat.le_of_ble_eq_true rfl) dX1_handOver_28 (fun r σ1 hr => ?_)
          obtain ⟨hr, rfl⟩ := hr
          have hr : r = pq_o (u_hrow σ b (σ.1 12 i)) := hr.trans (congrArg pq_o hf)
          cases ho : u_hrow σ b (σ.1 12 i) with
          | none =>
            rw [ho] at hr
            have hr : r = -1 := hr
            subst hr
            rw [← pq_msk_t (i := i) (by simp [u_hm, h4, ho]), ← u_kd_f (fun r h5 h6 h7 => by
              have h8 := pq_fst_none.mp ho r h5
              simp [h6, h7.2] at h8)] at hih
            refine ux_istore C [(4, _), (3, _), (0, _), (1, _), (2, _)] dX1_handOver_31 (by decide) rfl ?_
            refine ux_iload C dX1_handOver_33 0 rfl ?_
            refine ux_iconst C ((-1 : Int32)) dX1_handOver_35 (by decide) ?_
            refine ux_icmp_ne C 49 dX1_handOver_36 (by decide) (fun h6 => ?_) (fun h6 => ?_)
            · exact absurd rfl h6
            · refine ux_aload_n C dX1_handOver_39 2 rfl ?_
              refine ux_get C flX1_handOver_9 1 rfl rfl rfl dX1_handOver_40 ?_
              refine ux_iload_n C dX1_handOver_43 1 rfl ?_
              refine ux_iload_n C dX1_handOver_44 4 rfl ?_
              refine ux_iast C 19 11 (i) rfl rfl (rfl) (by omega) (by decide) dX1_handOver_45 _ (awU_11 _ _ _ _) ?_
              refine ux_goto C 72 dX1_handOver_46 (by decide) ?_
              refine ux_iinc C (nI (i + 1)) [(3, _), (4, _), (0, _), (1, _), (2, _)] dX1_handOver_72 1 rfl (pq_inc i) (by decide) rfl ?_
              refine ux_goto C 2 dX1_handOver_75 (by decide) ?_
              refine ux_sub [(3, _), (0, _), (1, _), (2, _)] [0, 2, 3, 4] rfl ?_
              refine ux_at ?_ hih
              exact ux_swap σ _ _ _
          | some o =>
            rw [ho] at hr
            have hr : r = nI o := hr
            subst hr
            obtain ⟨o1, o2, o3⟩ := pq_fst_some.mp ho
            rw [Bool.and_eq_true, decide_eq_true_eq, decide_eq_true_eq] at o2
            rw [← pq_msk_f (i := i) (by simp [u_hm, ho]), ← u_kd_t hU ha hb (show i < σ.2.1 3 by omega) h4 o1 o2.1 o2.2] at hih
            refine ux_istore C [(4, _), (3, _), (0, _), (1, _), (2, _)] dX1_handOver_31 (by decide) rfl ?_
            refine ux_iload C dX1_handOver_33 0 rfl ?_
            refine ux_iconst C ((-1 : Int32)) dX1_handOver_35 (by decide) ?_
            refine ux_icmp_ne C 49 dX1_handOver_36 (by decide) (fun h6 => ?_) (fun h6 => ?_)
            · refine ux_aload_n C dX1_handOver_49 2 rfl ?_
              refine ux_get C flX1_handOver_18 1 rfl rfl rfl dX1_handOver_50 ?_
              refine ux_iload C dX1_handOver_53 0 rfl ?_
              refine ux_aload_n C dX1_handOver_55 2 rfl ?_
              refine ux_get C flX1_handOver_18 1 rfl rfl rfl dX1_handOver_56 ?_
              refine ux_iload C dX1_handOver_59 0 rfl ?_
              refine ux_iald C 21 13 (o) rfl rfl (rfl) (by omega) (by decide) dX1_handOver_61 ?_
              refine ux_top _ (congrFun (sa_eq _ _ _) _) ?_
              refine ux_top _ (u_kd_at hU ha (show i < σ.2.1 3 by omega) h4 o2.2) ?_
              refine ux_aload_n C dX1_handOver_62 2 rfl ?_
              refine ux_get C flX1_handOver_18 1 rfl rfl rfl dX1_handOver_63 ?_
              refine ux_iload_n C dX1_handOver_66 1 rfl ?_
              refine ux_iald C 21 13 (i) rfl rfl (rfl) (by omega) (by decide) dX1_handOver_67 ?_
              refine ux_top _ (congrFun (sa_eq _ _ _) _) ?_
              refine ux_top _ (u_kd_at hU ha (show i < σ.2.1 3 by omega) h4 rfl) ?_
              refine ux_mmax C (by decide +kernel) (by decide +kernel) (by decide +kernel) (List.mem_of_getElem? (i := 8) rfl) (Nat.le_of_ble_eq_true rfl) (Nat.le_of_ble_eq_true rfl) ⟨Nat.le_refl _, Nat.le_refl _⟩ dX1_handOver_68 ?_
              refine ux_iast C 21 13 (o) rfl rfl (rfl) (by omega) (by decide) dX1_handOver_71 _ (awU_13 _ _ _ _) ?_
              refine ux_iinc C (nI (i + 1)) [(3, _), (4, _), (0, _), (1, _), (2, _)] dX1_handOver_72 1 rfl (pq_inc i) (by decide) rfl ?_
              refine ux_goto C 2 dX1_handOver_75 (by decide) ?_
              refine ux_sub [(3, _), (0, _), (1, _), (2, _)] [0, 2, 3, 4] rfl ?_
              refine ux_at (sa_sa _ _ _ _) ?_
              exact hih
            · exact absurd h6 (pq_nI_m1 (by omega))
  refine ux_iconst C (nI 0) dX1_handOver_0 (by decide) ?_
  refine ux_istore_n C [(3, _), (0, _), (1, _), (2, _)] dX1_handOver_1 rfl (by decide) rfl ?_
  have hl := loop (σ.2.1 3 + 1) 0 (by omega) (by omega)
  rw [pq_msk_id (i := 0) (fun j hj => by omega), u_kd_0] at hl
  rw [show sa (sa σ 11 (σ.1 11)) 13 (σ.1 13) = σ by rw [sa_self, sa_self]] at hl
  exact hl
set_option maxHeartbeats 4000000 in
set_option maxRecDepth 100000 in
theorem c_X7_mustWait (l : Launch) (D : va_G) (ad : Nat → Nat) (cA : Nat → ClassId) (A : Nat → Prop) (σ : ST) (t : Nat) (x y : Int32) (hF : uF σ) (hH : uH σ) (ht : t ≤ σ.2.1 0) : ux_I l D vwCl (tyU cA) (wU ad cA) A yX7_mustWait wsX7_mustWait (ux_rm 3) [.ref (ad 7), .int (nI t), .int x, .int y] σ (fun r σ' => (u_least σ t x y = 0 ∧ r = 0 ∧ uEq (u_calm σ t) σ') ∨ (¬ u_least σ t x y = 0 ∧ r = 1 ∧ uEq (u_wish σ t x y) σ')) := by
  refine ux_ofI (cc := cX7_mustWait) (maxL := 4) (ret := (some .boolean)) (Ts := wsX7_mustWait) (lv := [(0, .ref (ad 7)), (1, .int (nI t)), (2, .int x), (3, .int y)]) (by decide) rfl (fun _ h => h) (Nat.le_of_ble_eq_true rfl) rfl ?_
  intro p e s m below meth c C
  have h150 := Nat.le_trans ht hF.1
  refine ux_aload_n C dX7_mustWait_0 0 rfl ?_
  refine ux_iload_n C dX7_mustWait_1 1 rfl ?_
  refine ux_iload_n C dX7_mustWait_2 2 rfl ?_
  refine ux_iload_n C dX7_mustWait_3 3 rfl ?_
  refine ux_callI C gkX7_mustWait_158 (c_X7_leastInTheWay l D ad cA A σ t x y hF hH ht) rfl ⟨rfl, rfl⟩ ⟨(Nat.le_of_ble_eq_true rfl), (Nat.le_of_ble_eq_true rfl)⟩ ⟨Nat.le_refl _, Nat.le_refl _⟩ 7 rfl rfl rfl rfl (Nat.le_of_ble_eq_true rfl) dX7_mustWait_4 (fun r σ1 hr => ?_)
  obtain ⟨f, rfl, rfl⟩ := hr
  refine ux_if_ne C 20 dX7_mustWait_7 (by decide) (fun h => ?_) (fun h => ?_)
  · refine ux_aload_n C dX7_mustWait_20 0 rfl ?_
    refine ux_get C flX7_mustWait_47 7 rfl rfl rfl dX7_mustWait_21 ?_
    refine ux_iload_n C dX7_mustWait_24 1 rfl ?_
    refine ux_iload_n C dX7_mustWait_25 2 rfl ?_
    refine ux_iload_n C dX7_mustWait_26 3 rfl ?_
    refine ux_callN C gkX7_mustWait_212 (c_X5_set l D ad cA A (sa σ 2 f) t x y h150) rfl ⟨rfl, rfl⟩ ⟨(Nat.le_of_ble_eq_true rfl), (Nat.le_of_ble_eq_true rfl)⟩ ⟨Nat.le_refl _, Nat.le_refl _⟩ 5 rfl rfl rfl rfl (Nat.le_of_ble_eq_true rfl) dX7_mustWait_27 (fun σ1 hr => ?_)
    subst hr
    refine ux_iconst C ((1 : Int32)) dX7_mustWait_30 (by decide) ?_
    exact ux_zret C dX7_mustWait_31 rfl (Or.inr ⟨h, rfl, ((uEq.refl σ).sa2 f).wish t x y⟩)
  · refine ux_aload_n C dX7_mustWait_10 0 rfl ?_
    refine ux_get C flX7_mustWait_47 7 rfl rfl rfl dX7_mustWait_11 ?_
    refine ux_iload_n C dX7_mustWait_14 1 rfl ?_
    refine ux_callN C gkX7_mustWait_209 (c_X5_clear l D ad cA A (sa σ 2 f) t h150) rfl ⟨rfl, rfl⟩ ⟨(Nat.le_of_ble_eq_true rfl), (Nat.le_of_ble_eq_true rfl)⟩ ⟨Nat.le_refl _, Nat.le_refl _⟩ 5 rfl rfl rfl rfl (Nat.le_of_ble_eq_true rfl) dX7_mustWait_15 (fun σ1 hr => ?_)
    subst hr
    refine ux_iconst C ((0 : Int32)) dX7_mustWait_18 (by decide) ?_
    exact ux_zret C dX7_mustWait_19 rfl (Or.inl ⟨h, rfl, ((uEq.refl σ).sa2 f).calm t⟩)
set_option maxHeartbeats 4000000 in
set_option maxRecDepth 100000 in
theorem c_X7_open (l : Launch) (D : va_G) (ad : Nat → Nat) (cA : Nat → ClassId) (A : Nat → Prop) (σ : ST) (t : Int32) (hF : uF σ) : ux_I l D vwCl (tyU cA) (wU ad cA) A yX7_open wsX7_open (ux_rm 3) [.ref (ad 7), .int t] σ (fun r σ' => r = (u_open σ t).1 ∧ uEq (u_open σ t).2 σ') := by
  refine ux_ofI (cc := cX7_open) (maxL := 2) (ret := (some .int)) (Ts := wsX7_open) (lv := [(0, .ref (ad 7)), (1, .int t)]) (by decide) rfl (fun _ h => h) (Nat.le_of_ble_eq_true rfl) rfl ?_
  intro p e s m below meth c C
  refine ux_aload_n C dX7_open_0 0 rfl ?_
  refine ux_get C flX7_open_10 7 rfl rfl rfl dX7_open_1 ?_
  refine ux_iload_n C dX7_open_4 1 rfl ?_
  refine ux_callI C gkX7_open_58 (c_X0_canBeAsked l D ad cA A σ t hF.1) rfl ⟨rfl, rfl⟩ ⟨(Nat.le_of_ble_eq_true rfl), (Nat.le_of_ble_eq_true rfl)⟩ ⟨Nat.le_refl _, Nat.le_refl _⟩ 0 rfl rfl rfl rfl (Nat.le_of_ble_eq_true rfl) dX7_open_5 (fun r σ1 hr => ?_)
  obtain ⟨rfl, rfl⟩ := hr
  refine ux_if_eq C 21 dX7_open_8 (by decide) (fun h => ?_) (fun h => ?_)
  · have h : (decide (t = 0) || u_act σ t) = false := (pq_b0 _).mp h
    have hu : u_open σ t = (-1, σ) := if_neg (by rw [h]; simp)
    refine ux_iconst C ((-1 : Int32)) dX7_open_21 (by decide) ?_
    exact ux_iret C dX7_open_22 (by rw [hu]; exact ⟨rfl, uEq.refl σ⟩)
  · have h : (decide (t = 0) || u_act σ t) = true := (pq_bn0 _).mp h
    refine ux_aload_n C dX7_open_11 0 rfl ?_
    refine ux_get C flX7_open_10 7 rfl rfl rfl dX7_open_12 ?_
    refine ux_callI C gkX7_open_62 (c_X0_isFull l D ad cA A σ hF.1) rfl ⟨rfl, rfl⟩ ⟨(Nat.le_of_ble_eq_true rfl), (Nat.le_of_ble_eq_true rfl)⟩ ⟨Nat.le_refl _, Nat.le_refl _⟩ 0 rfl rfl rfl rfl (Nat.le_of_ble_eq_true rfl) dX7_open_15 (fun r σ1 hr => ?_)
    obtain ⟨rfl, rfl⟩ := hr
    refine ux_if_eq C 23 dX7_open_18 (by decide) (fun h2 => ?_) (fun h2 => ?_)
    · have h2 := of_decide_eq_false ((pq_b0 _).mp h2)
      have hlt : σ.2.1 0 < 150 := Nat.lt_of_le_of_ne hF.1 h2
      refine ux_aload_n C dX7_open_23 0 rfl ?_
      refine ux_get C flX7_open_10 7 rfl rfl rfl dX7_open_24 ?_
      refine ux_iload_n C dX7_open_27 1 rfl ?_
      refine ux_callI C gkX7_open_66 (c_X0_add l D ad cA A σ t hlt) rfl ⟨rfl, rfl⟩ ⟨(Nat.le_of_ble_eq_true rfl), (Nat.le_of_ble_eq_true rfl)⟩ ⟨Nat.le_refl _, Nat.le_refl _⟩ 0 rfl rfl rfl rfl (Nat.le_of_ble_eq_true rfl) dX7_open_28 (fun r σ1 hr => ?_)
      obtain ⟨rfl, rfl⟩ := hr
      have hu : u_open σ t = (nI (σ.2.1 0 + 1), sa (sa (sf σ 0 (σ.2.1 0 + 1)) 0 (upd (σ.1 0) (σ.2.1 0 + 1) t)) 1 (upd (σ.1 1) (σ.2.1 0 + 1) 0)) := if_pos (by rw [h, decide_eq_false h2]; rfl)
      exact ux_iret C dX7_open_31 (by rw [hu]; exact ⟨rfl, uEq.refl _⟩)
    · have h2 := of_decide_eq_true ((pq_bn0 _).mp h2)
      have hu : u_open σ t = (-1, σ) := if_neg (by rw [h, decide_eq_true h2]; simp)
      refine ux_iconst C ((-1 : Int32)) dX7_open_21 (by decide) ?_
      exact ux_iret C dX7_open_22 (by rw [hu]; exact ⟨rfl, uEq.refl σ⟩)
set_option maxHeartbeats 4000000 in
set_option maxRecDepth 100000 in
theorem c_X7_mark (l : Launch) (D : va_G) (ad : Nat → Nat) (cA : Nat → ClassId) (A : Nat → Prop) (σ : ST) (t : Int32) (hF : uF σ) (hm : σ.2.1 4 < 512) : ux_I l D vwCl (tyU cA) (wU ad cA) A yX7_mark wsX7_mark (ux_rm 2) [.ref (ad 7), .int t] σ (fun r σ' => r = (u_mark σ t).1 ∧ uEq (u_mark σ t).2 σ') := by
  refine ux_ofI (cc := cX7_mark) (maxL := 2) (ret := (some .int)) (Ts := wsX7_mark) (lv := [(0, .ref (ad 7)), (1, .int t)]) (by decide) rfl (fun _ h => h) (Nat.le_of_ble_eq_true rfl) rfl ?_
  intro p e s m below meth c C
  refine ux_aload_n C dX7_mark_0 0 rfl ?_
  refine ux_get C flX7_mark_10 7 rfl rfl rfl dX7_mark_1 ?_
  refine ux_iload_n C dX7_mark_4 1 rfl ?_
  refine ux_callI C gkX7_mark_93 (c_X0_isActive l D ad cA A σ t hF.1) rfl ⟨rfl, rfl⟩ ⟨(Nat.le_of_ble_eq_true rfl), (Nat.le_of_ble_eq_true rfl)⟩ ⟨Nat.le_refl _, Nat.le_refl _⟩ 0 rfl rfl rfl rfl (Nat.le_of_ble_eq_true rfl) dX7_mark_5 (fun r σ1 hr => ?_)
  obtain ⟨rfl, rfl⟩ := hr
  refine ux_if_eq C 21 dX7_mark_8 (by decide) (fun h => ?_) (fun h => ?_)
  · have h : u_act σ t = false := (pq_b0 _).mp h
    have hu : u_mark σ t = (-1, σ) := if_neg (by rw [h]; decide)
    refine ux_iconst C ((-1 : Int32)) dX7_mark_21 (by decide) ?_
    exact ux_iret C dX7_mark_22 (by rw [hu]; exact ⟨rfl, uEq.refl σ⟩)
  · have h : u_act σ t = true := (pq_bn0 _).mp h
    refine ux_aload_n C dX7_mark_11 0 rfl ?_
    refine ux_get C flX7_mark_40 7 rfl rfl rfl dX7_mark_12 ?_
    refine ux_callI C gkX7_mark_96 (c_X3_isFull l D ad cA A σ (Nat.le_of_lt hm)) rfl ⟨rfl, rfl⟩ ⟨(Nat.le_of_ble_eq_true rfl), (Nat.le_of_ble_eq_true rfl)⟩ ⟨Nat.le_refl _, Nat.le_refl _⟩ 3 rfl rfl rfl rfl (Nat.le_of_ble_eq_true rfl) dX7_mark_15 (fun r σ1 hr => ?_)
    obtain ⟨rfl, rfl⟩ := hr
    refine ux_if_eq C 23 dX7_mark_18 (by decide) (fun h2 => ?_) (fun h2 => ?_)
    · refine ux_aload_n C dX7_mark_23 0 rfl ?_
      refine ux_get C flX7_mark_40 7 rfl rfl rfl dX7_mark_24 ?_
      refine ux_iload_n C dX7_mark_27 1 rfl ?_
      refine ux_callI C gkX7_mark_97 (c_X3_add l D ad cA A σ t hm) rfl ⟨rfl, rfl⟩ ⟨(Nat.le_of_ble_eq_true rfl), (Nat.le_of_ble_eq_true rfl)⟩ ⟨Nat.le_refl _, Nat.le_refl _⟩ 3 rfl rfl rfl rfl (Nat.le_of_ble_eq_true rfl) dX7_mark_28 (fun r σ1 hr => ?_)
      obtain ⟨rfl, rfl⟩ := hr
      exact ux_iret C dX7_mark_31 (by rw [show u_mark σ t = _ from if_pos h]; exact ⟨rfl, uEq.refl _⟩)
    · exact absurd (of_decide_eq_true ((pq_bn0 _).mp h2)) (by omega)
set_option maxHeartbeats 4000000 in
set_option maxRecDepth 100000 in
theorem c_X7_state (l : Launch) (D : va_G) (ad : Nat → Nat) (cA : Nat → ClassId) (A : Nat → Prop) (σ : ST) (t : Int32) (hF : uF σ) : ux_I l D vwCl (tyU cA) (wU ad cA) A yX7_state wsX7_state (ux_rm 1) [.ref (ad 7), .int t] σ (fun r σ' => r = u_state σ t ∧ uEq σ σ') := by
  refine ux_ofI (cc := cX7_state) (maxL := 2) (ret := (some .int)) (Ts := wsX7_state) (lv := [(0, .ref (ad 7)), (1, .int t)]) (by decide) rfl (fun _ h => h) (Nat.le_of_ble_eq_true rfl) rfl ?_
  intro p e s m below meth c C
  refine ux_aload_n C dX7_state_0 0 rfl ?_
  refine ux_get C flX7_state_10 7 rfl rfl rfl dX7_state_1 ?_
  refine ux_iload_n C dX7_state_4 1 rfl ?_
  refine ux_callI C gkX7_state_139 (c_X0_exists l D ad cA A σ t) rfl ⟨rfl, rfl⟩ ⟨(Nat.le_of_ble_eq_true rfl), (Nat.le_of_ble_eq_true rfl)⟩ ⟨Nat.le_refl _, Nat.le_refl _⟩ 0 rfl rfl rfl rfl (Nat.le_of_ble_eq_true rfl) dX7_state_5 (fun r σ1 hr => ?_)
  obtain ⟨rfl, rfl⟩ := hr
  refine ux_if_eq C 22 dX7_state_8 (by decide) (fun h => ?_) (fun h => ?_)
  · refine ux_iconst C ((-1 : Int32)) dX7_state_22 (by decide) ?_
    exact ux_iret C dX7_state_23 (⟨by rw [u_state, (pq_b0 _).mp h]; rfl, uEq.refl σ⟩)
  · have h := (pq_bn0 _).mp h
    obtain ⟨k, k1, k2, rfl⟩ := (pq_ex_iff (Nat.lt_of_le_of_lt hF.1 (by decide))).mp h
    refine ux_aload_n C dX7_state_11 0 rfl ?_
    refine ux_get C flX7_state_10 7 rfl rfl rfl dX7_state_12 ?_
    refine ux_iload_n C dX7_state_15 1 rfl ?_
    refine ux_callI C gkX7_state_142 (c_X0_stateOf l D ad cA A σ k (Nat.le_trans k2 hF.1)) rfl ⟨rfl, rfl⟩ ⟨(Nat.le_of_ble_eq_true rfl), (Nat.le_of_ble_eq_true rfl)⟩ ⟨Nat.le_refl _, Nat.le_refl _⟩ 0 rfl rfl rfl rfl (Nat.le_of_ble_eq_true rfl) dX7_state_16 (fun r σ1 hr => ?_)
    obtain ⟨rfl, rfl⟩ := hr
    refine ux_goto C 23 dX7_state_19 (by decide) ?_
    exact ux_iret C dX7_state_23 (⟨by rw [u_state, if_pos h, nI_clamp (Nat.lt_of_le_of_lt (Nat.le_trans k2 hF.1) (by decide))], uEq.refl σ⟩)
set_option maxHeartbeats 4000000 in
set_option maxRecDepth 100000 in
theorem c_X7_held (l : Launch) (D : va_G) (ad : Nat → Nat) (cA : Nat → ClassId) (A : Nat → Prop) (σ : ST) (t key : Int32) (hF : uF σ) (hk : σ.2.1 1 ≤ 512) (hh : σ.2.1 3 ≤ 512) : ux_I l D vwCl (tyU cA) (wU ad cA) A yX7_held wsX7_held (ux_rm 2) [.ref (ad 7), .int t, .int key] σ (fun r σ' => r = u_held σ t key ∧ uEq σ σ') := by
  refine ux_ofI (cc := cX7_held) (maxL := 3) (ret := (some .int)) (Ts := wsX7_held) (lv := [(0, .ref (ad 7)), (1, .int t), (2, .int key)]) (by decide) rfl (fun _ h => h) (Nat.le_of_ble_eq_true rfl) rfl ?_
  intro p e s m below meth c C
  refine ux_aload_n C dX7_held_0 0 rfl ?_
  refine ux_get C flX7_held_10 7 rfl rfl rfl dX7_held_1 ?_
  refine ux_iload_n C dX7_held_4 1 rfl ?_
  refine ux_callI C gkX7_held_93 (c_X0_isActive l D ad cA A σ t hF.1) rfl ⟨rfl, rfl⟩ ⟨(Nat.le_of_ble_eq_true rfl), (Nat.le_of_ble_eq_true rfl)⟩ ⟨Nat.le_refl _, Nat.le_refl _⟩ 0 rfl rfl rfl rfl (Nat.le_of_ble_eq_true rfl) dX7_held_5 (fun r σ1 hr => ?_)
  obtain ⟨rfl, rfl⟩ := hr
  refine ux_if_ne C 13 dX7_held_8 (by decide) (fun h => ?_) (fun h => ?_)
  · have h : u_act σ t = true := (pq_bn0 _).mp h
    refine ux_aload_n C dX7_held_13 0 rfl ?_
    refine ux_get C flX7_held_33 7 rfl rfl rfl dX7_held_14 ?_
    refine ux_iload_n C dX7_held_17 1 rfl ?_
    refine ux_aload_n C dX7_held_18 0 rfl ?_
    refine ux_get C flX7_held_19 7 rfl rfl rfl dX7_held_19 ?_
    refine ux_iload_n C dX7_held_22 2 rfl ?_
    refine ux_callI C gkX7_held_153 (c_X2_find l D ad cA A σ key hk) rfl ⟨rfl, rfl⟩ ⟨(Nat.le_of_ble_eq_true rfl), (Nat.le_of_ble_eq_true rfl)⟩ ⟨Nat.le_refl _, Nat.le_refl _⟩ 2 rfl rfl rfl rfl (Nat.le_of_ble_eq_true rfl) dX7_held_23 (fun r σ1 hr => ?_)
    obtain ⟨rfl, rfl⟩ := hr
    refine ux_callI C gkX7_held_155 (c_X1_kindOf l D ad cA A σ t _ hh) rfl ⟨rfl, rfl⟩ ⟨(Nat.le_of_ble_eq_true rfl), (Nat.le_of_ble_eq_true rfl)⟩ ⟨Nat.le_refl _, Nat.le_refl _⟩ 1 rfl rfl rfl rfl (Nat.le_of_ble_eq_true rfl) dX7_held_26 (fun r σ1 hr => ?_)
    obtain ⟨rfl, rfl⟩ := hr
    exact ux_iret C dX7_held_29 (⟨(if_pos h).symm, uEq.refl σ⟩)
  · have h : u_act σ t = false := (pq_b0 _).mp h
    refine ux_iconst C ((-1 : Int32)) dX7_held_11 (by decide) ?_
    exact ux_iret C dX7_held_12 (⟨(if_neg (by rw [h]; decide)).symm, uEq.refl σ⟩)
set_option maxHeartbeats 4000000 in
set_option maxRecDepth 100000 in
theorem c_X7_blocker (l : Launch) (D : va_G) (ad : Nat → Nat) (cA : Nat → ClassId) (A : Nat → Prop) (σ : ST) (t key : Int32) (b : Bool) (hF : uF σ) (hH : uH σ) (hk : σ.2.1 1 ≤ 512) : ux_I l D vwCl (tyU cA) (wU ad cA) A yX7_blocker wsX7_blocker (ux_rm 3) [.ref (ad 7), .int t, .int key, .int (pq_b b)] σ (fun r σ' => r = u_blocker σ t key b ∧ uEq σ σ') := by
  refine ux_ofI (cc := cX7_blocker) (maxL := 4) (ret := (some .int)) (Ts := wsX7_blocker) (lv := [(0, .ref (ad 7)), (1, .int t), (2, .int key), (3, .int (pq_b b))]) (by decide) rfl (fun _ h => h) (Nat.le_of_ble_eq_true rfl) rfl ?_
  intro p e s m below meth c C
  refine ux_aload_n C dX7_blocker_0 0 rfl ?_
  refine ux_get C flX7_blocker_10 7 rfl rfl rfl dX7_blocker_1 ?_
  refine ux_iload_n C dX7_blocker_4 1 rfl ?_
  refine ux_callI C gkX7_blocker_93 (c_X0_isActive l D ad cA A σ t hF.1) rfl ⟨rfl, rfl⟩ ⟨(Nat.le_of_ble_eq_true rfl), (Nat.le_of_ble_eq_true rfl)⟩ ⟨Nat.le_refl _, Nat.le_refl _⟩ 0 rfl rfl rfl rfl (Nat.le_of_ble_eq_true rfl) dX7_blocker_5 (fun r σ1 hr => ?_)
  obtain ⟨rfl, rfl⟩ := hr
  refine ux_if_ne C 13 dX7_blocker_8 (by decide) (fun h => ?_) (fun h => ?_)
  · have h : u_act σ t = true := (pq_bn0 _).mp h
    obtain ⟨k, k1, k2, rfl, k3⟩ := (u_act_iff hF).mp h
    have hcl := nI_clamp (Nat.lt_of_le_of_lt (Nat.le_trans k2 hF.1) (show 150 < 2 ^ 31 by decide))
    have hu : u_blocker σ (nI k) key b = u_least σ k (pq_o (u_find σ key)) (if b = true then 2 else 1) := by rw [u_blocker, if_pos h, hcl]
    refine ux_aload_n C dX7_blocker_13 0 rfl ?_
    refine ux_iload_n C dX7_blocker_14 1 rfl ?_
    refine ux_aload_n C dX7_blocker_15 0 rfl ?_
    refine ux_get C flX7_blocker_19 7 rfl rfl rfl dX7_blocker_16 ?_
    refine ux_iload_n C dX7_blocker_19 2 rfl ?_
    refine ux_callI C gkX7_blocker_153 (c_X2_find l D ad cA A σ key hk) rfl ⟨rfl, rfl⟩ ⟨(Nat.le_of_ble_eq_true rfl), (Nat.le_of_ble_eq_true rfl)⟩ ⟨Nat.le_refl _, Nat.le_refl _⟩ 2 rfl rfl rfl rfl (Nat.le_of_ble_eq_true rfl) dX7_blocker_20 (fun r σ1 hr => ?_)
    obtain ⟨rfl, rfl⟩ := hr
    refine ux_iload_n C dX7_blocker_23 3 rfl ?_
    refine ux_if_eq C 31 dX7_blocker_24 (by decide) (fun h2 => ?_) (fun h2 => ?_)
    · have h2 := (pq_b0 _).mp h2
      subst h2
      refine ux_iconst C ((1 : Int32)) dX7_blocker_31 (by decide) ?_
      refine ux_callI C gkX7_blocker_158 (c_X7_leastInTheWay l D ad cA A σ k _ _ hF hH k2) rfl ⟨rfl, rfl⟩ ⟨(Nat.le_of_ble_eq_true rfl), (Nat.le_of_ble_eq_true rfl)⟩ ⟨Nat.le_refl _, Nat.le_refl _⟩ 7 rfl rfl rfl rfl (Nat.le_of_ble_eq_true rfl) dX7_blocker_32 (fun r σ1 hr => ?_)
      obtain ⟨f, rfl, rfl⟩ := hr
      exact ux_iret C dX7_blocker_35 (⟨hu.symm, (uEq.refl σ).sa2 f⟩)
    · have h2 := (pq_bn0 _).mp h2
      subst h2
      refine ux_iconst C ((2 : Int32)) dX7_blocker_27 (by decide) ?_
      refine ux_goto C 32 dX7_blocker_28 (by decide) ?_
      refine ux_callI C gkX7_blocker_158 (c_X7_leastInTheWay l D ad cA A σ k _ _ hF hH k2) rfl ⟨rfl, rfl⟩ ⟨(Nat.le_of_ble_eq_true rfl), (Nat.le_of_ble_eq_true rfl)⟩ ⟨Nat.le_refl _, Nat.le_refl _⟩ 7 rfl rfl rfl rfl (Nat.le_of_ble_eq_true rfl) dX7_blocker_32 (fun r σ1 hr => ?_)
      obtain ⟨f, rfl, rfl⟩ := hr
      exact ux_iret C dX7_blocker_35 (⟨hu.symm, (uEq.refl σ).sa2 f⟩)
  · have h : u_act σ t = false := (pq_b0 _).mp h
    refine ux_iconst C ((-1 : Int32)) dX7_blocker_11 (by decide) ?_
    exact ux_iret C dX7_blocker_12 (⟨(if_neg (by rw [h]; decide)).symm, uEq.refl σ⟩)
set_option maxHeartbeats 4000000 in
set_option maxRecDepth 100000 in
theorem c_X7_waits (l : Launch) (D : va_G) (ad : Nat → Nat) (cA : Nat → ClassId) (A : Nat → Prop) (σ : ST) (t : Int32) (hF : uF σ) (hH : uH σ) : ux_I l D vwCl (tyU cA) (wU ad cA) A yX7_waits wsX7_waits (ux_rm 3) [.ref (ad 7), .int t] σ (fun r σ' => r = u_waits σ t ∧ uEq σ σ') := by
  refine ux_ofI (cc := cX7_waits) (maxL := 2) (ret := (some .int)) (Ts := wsX7_waits) (lv := [(0, .ref (ad 7)), (1, .int t)]) (by decide) rfl (fun _ h => h) (Nat.le_of_ble_eq_true rfl) rfl ?_
  intro p e s m below meth c C
  refine ux_aload_n C dX7_waits_0 0 rfl ?_
  refine ux_get C flX7_waits_10 7 rfl rfl rfl dX7_waits_1 ?_
  refine ux_iload_n C dX7_waits_4 1 rfl ?_
  refine ux_callI C gkX7_waits_93 (c_X0_isActive l D ad cA A σ t hF.1) rfl ⟨rfl, rfl⟩ ⟨(Nat.le_of_ble_eq_true rfl), (Nat.le_of_ble_eq_true rfl)⟩ ⟨Nat.le_refl _, Nat.le_refl _⟩ 0 rfl rfl rfl rfl (Nat.le_of_ble_eq_true rfl) dX7_waits_5 (fun r σ1 hr => ?_)
  obtain ⟨rfl, rfl⟩ := hr
  refine ux_if_ne C 13 dX7_waits_8 (by decide) (fun h => ?_) (fun h => ?_)
  · have h : u_act σ t = true := (pq_bn0 _).mp h
    obtain ⟨k, k1, k2, rfl, k3⟩ := (u_act_iff hF).mp h
    have h150 := Nat.le_trans k2 hF.1
    have hcl := nI_clamp (Nat.lt_of_le_of_lt h150 (show 150 < 2 ^ 31 by decide))
    have hu : u_waits σ (nI k) = if σ.1 16 k = 0 then 0 else u_least σ k (σ.1 15 k) (σ.1 16 k) := by rw [u_waits, if_pos h, hcl]
    refine ux_aload_n C dX7_waits_13 0 rfl ?_
    refine ux_get C flX7_waits_47 7 rfl rfl rfl dX7_waits_14 ?_
    refine ux_iload_n C dX7_waits_17 1 rfl ?_
    refine ux_callI C gkX7_waits_162 (c_X5_has l D ad cA A σ k h150) rfl ⟨rfl, rfl⟩ ⟨(Nat.le_of_ble_eq_true rfl), (Nat.le_of_ble_eq_true rfl)⟩ ⟨Nat.le_refl _, Nat.le_refl _⟩ 5 rfl rfl rfl rfl (Nat.le_of_ble_eq_true rfl) dX7_waits_18 (fun r σ1 hr => ?_)
    obtain ⟨rfl, rfl⟩ := hr
    refine ux_if_eq C 48 dX7_waits_21 (by decide) (fun h2 => ?_) (fun h2 => ?_)
    · have h2 := (pq_b0 _).mp h2
      have h2 : σ.1 16 k = 0 := by simpa using h2
      refine ux_iconst C ((0 : Int32)) dX7_waits_48 (by decide) ?_
      exact ux_iret C dX7_waits_49 (⟨by rw [hu, if_pos h2], uEq.refl σ⟩)
    · have h2 := (pq_bn0 _).mp h2
      have h2 : ¬ σ.1 16 k = 0 := by simpa using h2
      refine ux_aload_n C dX7_waits_24 0 rfl ?_
      refine ux_iload_n C dX7_waits_25 1 rfl ?_
      refine ux_aload_n C dX7_waits_26 0 rfl ?_
      refine ux_get C flX7_waits_47 7 rfl rfl rfl dX7_waits_27 ?_
      refine ux_iload_n C dX7_waits_30 1 rfl ?_
      refine ux_callI C gkX7_waits_165 (c_X5_slotOf l D ad cA A σ k h150) rfl ⟨rfl, rfl⟩ ⟨(Nat.le_of_ble_eq_true rfl), (Nat.le_of_ble_eq_true rfl)⟩ ⟨Nat.le_refl _, Nat.le_refl _⟩ 5 rfl rfl rfl rfl (Nat.le_of_ble_eq_true rfl) dX7_waits_31 (fun r σ1 hr => ?_)
      obtain ⟨rfl, rfl⟩ := hr
      refine ux_aload_n C dX7_waits_34 0 rfl ?_
      refine ux_get C flX7_waits_47 7 rfl rfl rfl dX7_waits_35 ?_
      refine ux_iload_n C dX7_waits_38 1 rfl ?_
      refine ux_callI C gkX7_waits_168 (c_X5_kindOf l D ad cA A σ k h150) rfl ⟨rfl, rfl⟩ ⟨(Nat.le_of_ble_eq_true rfl), (Nat.le_of_ble_eq_true rfl)⟩ ⟨Nat.le_refl _, Nat.le_refl _⟩ 5 rfl rfl rfl rfl (Nat.le_of_ble_eq_true rfl) dX7_waits_39 (fun r σ1 hr => ?_)
      obtain ⟨rfl, rfl⟩ := hr
      refine ux_callI C gkX7_waits_158 (c_X7_leastInTheWay l D ad cA A σ k _ _ hF hH k2) rfl ⟨rfl, rfl⟩ ⟨(Nat.le_of_ble_eq_true rfl), (Nat.le_of_ble_eq_true rfl)⟩ ⟨Nat.le_refl _, Nat.le_refl _⟩ 7 rfl rfl rfl rfl (Nat.le_of_ble_eq_true rfl) dX7_waits_42 (fun r σ1 hr => ?_)
      obtain ⟨f, rfl, rfl⟩ := hr
      refine ux_goto C 49 dX7_waits_45 (by decide) ?_
      exact ux_iret C dX7_waits_49 (⟨by rw [hu, if_neg h2], (uEq.refl σ).sa2 f⟩)
  · have h : u_act σ t = false := (pq_b0 _).mp h
    refine ux_iconst C ((-1 : Int32)) dX7_waits_11 (by decide) ?_
    exact ux_iret C dX7_waits_12 (⟨(if_neg (by rw [h]; decide)).symm, uEq.refl σ⟩)
end
section
theorem hiX7_get_7 : ∀ w ∈ wsX70, w ∈ wsX7_get := by decide +kernel
theorem flX7_get_10 : ux_F wsX7_get RX7 10 RX7 TX7 7 0 := ⟨hiX7_get_7, by decide, by decide +kernel⟩
theorem flX7_get_19 : ux_F wsX7_get RX7 19 RX7 TX7 7 1 := ⟨hiX7_get_7, by decide, by decide +kernel⟩
theorem flX7_get_33 : ux_F wsX7_get RX7 33 RX7 TX7 7 3 := ⟨hiX7_get_7, by decide, by decide +kernel⟩
theorem hiX7_change_7 : ∀ w ∈ wsX70, w ∈ wsX7_change := by decide +kernel
theorem flX7_change_10 : ux_F wsX7_change RX7 10 RX7 TX7 7 0 := ⟨hiX7_change_7, by decide, by decide +kernel⟩
theorem flX7_change_19 : ux_F wsX7_change RX7 19 RX7 TX7 7 1 := ⟨hiX7_change_7, by decide, by decide +kernel⟩
theorem flX7_change_33 : ux_F wsX7_change RX7 33 RX7 TX7 7 3 := ⟨hiX7_change_7, by decide, by decide +kernel⟩
theorem flX7_change_26 : ux_F wsX7_change RX7 26 RX7 TX7 7 2 := ⟨hiX7_change_7, by decide, by decide +kernel⟩
theorem flX7_change_40 : ux_F wsX7_change RX7 40 RX7 TX7 7 4 := ⟨hiX7_change_7, by decide, by decide +kernel⟩
theorem hiX7_canEndOrGoBack_7 : ∀ w ∈ wsX70, w ∈ wsX7_canEndOrGoBack := by decide +kernel
theorem flX7_canEndOrGoBack_10 : ux_F wsX7_canEndOrGoBack RX7 10 RX7 TX7 7 0 := ⟨hiX7_canEndOrGoBack_7, by decide, by decide +kernel⟩
theorem hiX7_end_7 : ∀ w ∈ wsX70, w ∈ wsX7_end := by decide +kernel
theorem flX7_end_10 : ux_F wsX7_end RX7 10 RX7 TX7 7 0 := ⟨hiX7_end_7, by decide, by decide +kernel⟩
theorem flX7_end_26 : ux_F wsX7_end RX7 26 RX7 TX7 7 2 := ⟨hiX7_end_7, by decide, by decide +kernel⟩
theorem flX7_end_33 : ux_F wsX7_end RX7 33 RX7 TX7 7 3 := ⟨hiX7_end_7, by decide, by decide +kernel⟩
theorem flX7_end_40 : ux_F wsX7_end RX7 40 RX7 TX7 7 4 := ⟨hiX7_end_7, by decide, by decide +kernel⟩
theorem flX7_end_47 : ux_F wsX7_end RX7 47 RX7 TX7 7 5 := ⟨hiX7_end_7, by decide, by decide +kernel⟩
theorem gkX7_get_58 : ux_G wsX7_get RX7 58 RX0 yX0_canBeAsked wsX0_canBeAsked 1 := ⟨gX7_get_X0_canBeAsked, by decide +kernel⟩
theorem gkX7_get_85 : ux_G wsX7_get RX7 85 RX7 yX7_valueSeen wsX7_valueSeen 2 := ⟨gX7_get_X7_valueSeen, by decide +kernel⟩
theorem gkX7_get_72 : ux_G wsX7_get RX7 72 RX2 yX2_findOrAdd wsX2_findOrAdd 1 := ⟨gX7_get_X2_findOrAdd, by decide +kernel⟩
theorem gkX7_get_75 : ux_G wsX7_get RX7 75 RX1 yX1_isFull wsX1_isFull 0 := ⟨gX7_get_X1_isFull, by decide +kernel⟩
theorem gkX7_get_76 : ux_G wsX7_get RX7 76 RX7 yX7_mustWait wsX7_mustWait 3 := ⟨gX7_get_X7_mustWait, by decide +kernel⟩
theorem gkX7_get_82 : ux_G wsX7_get RX7 82 RX1 yX1_add wsX1_add 3 := ⟨gX7_get_X1_add, by decide +kernel⟩
theorem gkX7_change_93 : ux_G wsX7_change RX7 93 RX0 yX0_isActive wsX0_isActive 1 := ⟨gX7_change_X0_isActive, by decide +kernel⟩
theorem gkX7_change_72 : ux_G wsX7_change RX7 72 RX2 yX2_findOrAdd wsX2_findOrAdd 1 := ⟨gX7_change_X2_findOrAdd, by decide +kernel⟩
theorem gkX7_change_75 : ux_G wsX7_change RX7 75 RX1 yX1_isFull wsX1_isFull 0 := ⟨gX7_change_X1_isFull, by decide +kernel⟩
theorem gkX7_change_205 : ux_G wsX7_change RX7 205 RX6 yX6_isFull wsX6_isFull 0 := ⟨gX7_change_X6_isFull, by decide +kernel⟩
theorem gkX7_change_76 : ux_G wsX7_change RX7 76 RX7 yX7_mustWait wsX7_mustWait 3 := ⟨gX7_change_X7_mustWait, by decide +kernel⟩
theorem gkX7_change_85 : ux_G wsX7_change RX7 85 RX7 yX7_valueSeen wsX7_valueSeen 2 := ⟨gX7_change_X7_valueSeen, by decide +kernel⟩
theorem gkX7_change_82 : ux_G wsX7_change RX7 82 RX1 yX1_add wsX1_add 3 := ⟨gX7_change_X1_add, by decide +kernel⟩
theorem gkX7_change_121 : ux_G wsX7_change RX7 121 RX3 yX3_now wsX3_now 0 := ⟨gX7_change_X3_now, by decide +kernel⟩
theorem gkX7_change_206 : ux_G wsX7_change RX7 206 RX6 yX6_add wsX6_add 5 := ⟨gX7_change_X6_add, by decide +kernel⟩
theorem gkX7_put_89 : ux_G wsX7_put RX7 89 RX7 yX7_change wsX7_change 4 := ⟨gX7_put_X7_change, by decide +kernel⟩
theorem gkX7_take_89 : ux_G wsX7_take RX7 89 RX7 yX7_change wsX7_change 4 := ⟨gX7_take_X7_change, by decide +kernel⟩
theorem gkX7_canEndOrGoBack_93 : ux_G wsX7_canEndOrGoBack RX7 93 RX0 yX0_isActive wsX0_isActive 1 := ⟨gX7_canEndOrGoBack_X0_isActive, by decide +kernel⟩
theorem gkX7_canEndOrGoBack_145 : ux_G wsX7_canEndOrGoBack RX7 145 RX0 yX0_activeChildrenOf wsX0_activeChildrenOf 1 := ⟨gX7_canEndOrGoBack_X0_activeChildrenOf, by decide +kernel⟩
theorem gkX7_end_229 : ux_G wsX7_end RX7 229 RX0 yX0_end wsX0_end 2 := ⟨gX7_end_X0_end, by decide +kernel⟩
theorem gkX7_end_230 : ux_G wsX7_end RX7 230 RX6 yX6_drop wsX6_drop 1 := ⟨gX7_end_X6_drop, by decide +kernel⟩
theorem gkX7_end_233 : ux_G wsX7_end RX7 233 RX1 yX1_drop wsX1_drop 1 := ⟨gX7_end_X1_drop, by decide +kernel⟩
theorem gkX7_end_234 : ux_G wsX7_end RX7 234 RX3 yX3_drop wsX3_drop 1 := ⟨gX7_end_X3_drop, by decide +kernel⟩
theorem gkX7_end_209 : ux_G wsX7_end RX7 209 RX5 yX5_clear wsX5_clear 1 := ⟨gX7_end_X5_clear, by decide +kernel⟩
set_option maxHeartbeats 4000000 in
set_option maxRecDepth 100000 in
theorem c_X7_get (l : Launch) (D : va_G) (ad : Nat → Nat) (cA : Nat → ClassId) (A : Nat → Prop) (σ : ST) (t key : Int32) (hF : uF σ) (hH : uH σ) (hW : uW σ) (hk : σ.2.1 1 < 512) (hh : σ.2.1 3 < 512) : ux_L l D vwCl (tyU cA) (wU ad cA) A yX7_get wsX7_get (ux_rm 4) [.ref (ad 7), .int t, .int key] σ (fun r σ' => r = (u_get σ t key).1 ∧ uEq (u_get σ t key).2 σ') := by
  refine ux_ofL (cc := cX7_get) (maxL := 4) (ret := (some .long)) (Ts := wsX7_get) (lv := [(0, .ref (ad 7)), (1, .int t), (2, .int key)]) (by decide) rfl (fun _ h => h) (Nat.le_of_ble_eq_true rfl) rfl ?_
  intro p e s m below meth c C
  refine ux_aload_n C dX7_get_0 0 rfl ?_
  refine ux_get C flX7_get_10 7 rfl rfl rfl dX7_get_1 ?_
  refine ux_iload_n C dX7_get_4 1 rfl ?_
  refine ux_callI C gkX7_get_58 (c_X0_canBeAsked l D ad cA A σ t hF.1) rfl ⟨rfl, rfl⟩ ⟨(Nat.le_of_ble_eq_true rfl), (Nat.le_of_ble_eq_true rfl)⟩ ⟨Nat.le_refl _, Nat.le_refl _⟩ 0 rfl rfl rfl rfl (Nat.le_of_ble_eq_true rfl) dX7_get_5 (fun r σ1 hr => ?_)
  obtain ⟨rfl, rfl⟩ := hr
  refine ux_if_ne C 15 dX7_get_8 (by decide) (fun h => ?_) (fun h => ?_)
  · have h : (decide (t = 0) || u_act σ t) = true := (pq_bn0 _).mp h
    refine ux_iload_n C dX7_get_15 1 rfl ?_
    refine ux_if_eq C 71 dX7_get_16 (by decide) (fun h0 => ?_) (fun h0 => ?_)
    · subst h0
      have hu : u_get σ 0 key = (u_seen σ 0 key, σ) := if_pos rfl
      refine ux_aload_n C dX7_get_71 0 rfl ?_
      refine ux_iload_n C dX7_get_72 1 rfl ?_
      refine ux_iload_n C dX7_get_73 2 rfl ?_
      refine ux_callL C gkX7_get_85 (c_X7_valueSeen l D ad cA A σ 0 key hF hW (Nat.zero_le _) (Nat.le_of_lt hk)) rfl ⟨rfl, rfl⟩ ⟨(Nat.le_of_ble_eq_true rfl), (Nat.le_of_ble_eq_true rfl)⟩ ⟨Nat.le_refl _, Nat.le_refl _⟩ 7 rfl rfl rfl rfl (Nat.le_of_ble_eq_true rfl) dX7_get_74 (fun r σ1 hr => ?_)
      obtain ⟨hE, rfl⟩ := hr
      exact ux_lret C dX7_get_77 (by rw [hu]; exact ⟨rfl, hE⟩)
    · have ha : u_act σ t = true := by rw [decide_eq_false h0] at h; simpa using h
      obtain ⟨k, k1, k2, rfl, k3⟩ := (u_act_iff hF).mp ha
      have hcl := nI_clamp (Nat.lt_of_le_of_lt (Nat.le_trans k2 hF.1) (show 150 < 2 ^ 31 by decide))
      have hu : u_get σ (nI k) key = (if u_least (u_reg σ key).1 k (nI (u_reg σ key).2) 1 = 0 then
        (u_seen (u_hold (u_calm (u_reg σ key).1 k) (nI k) (nI (u_reg σ key).2) 1) k key, u_hold (u_calm (u_reg σ key).1 k) (nI k) (nI (u_reg σ key).2) 1)
        else (2199023255552, u_wish (u_reg σ key).1 k (nI (u_reg σ key).2) 1)) := by rw [u_get, if_neg h0, if_pos ha, hcl]
      refine ux_aload_n C dX7_get_19 0 rfl ?_
      refine ux_get C flX7_get_19 7 rfl rfl rfl dX7_get_20 ?_
      refine ux_iload_n C dX7_get_23 2 rfl ?_
      refine ux_callI C gkX7_get_72 (c_X2_findOrAdd l D ad cA A σ key hk) rfl ⟨rfl, rfl⟩ ⟨(Nat.le_of_ble_eq_true rfl), (Nat.le_of_ble_eq_true rfl)⟩ ⟨Nat.le_refl _, Nat.le_refl _⟩ 2 rfl rfl rfl rfl (Nat.le_of_ble_eq_true rfl) dX7_get_24 (fun r σ1 hr => ?_)
      obtain ⟨rfl, rfl⟩ := u_reg_of hr
      have hs := u_reg_k σ key
      have hF1 := u_reg_F (key := key) hF
      have hH1 := u_reg_H (key := key) hH
      have hW1 := u_reg_W (key := key) hW
      have hc0 := u_reg_c σ key 0 (by decide)
      have hc3 := u_reg_c σ key 3 (by decide)
      refine ux_istore_n C [(3, _), (0, _), (1, _), (2, _)] dX7_get_27 rfl (by decide) rfl ?_
      refine ux_iload_n C dX7_get_28 0 rfl ?_
      refine ux_iconst C ((-1 : Int32)) dX7_get_29 (by decide) ?_
      refine ux_icmp_eq C 43 dX7_get_30 (by decide) (fun h1 => ?_) (fun h1 => ?_)
      · exact absurd h1 (pq_nI_m1 (by omega))
      · refine ux_aload_n C dX7_get_33 1 rfl ?_
        refine ux_get C flX7_get_33 7 rfl rfl rfl dX7_get_34 ?_
        refine ux_callI C gkX7_get_75 (c_X1_isFull l D ad cA A (u_reg σ key).1 (by omega)) rfl ⟨rfl, rfl⟩ ⟨(Nat.le_of_ble_eq_true rfl), (Nat.le_of_ble_eq_true rfl)⟩ ⟨Nat.le_refl _, Nat.le_refl _⟩ 1 rfl rfl rfl rfl (Nat.le_of_ble_eq_true rfl) dX7_get_37 (fun r σ1 hr => ?_)
        obtain ⟨rfl, rfl⟩ := hr
        refine ux_if_eq C 47 dX7_get_40 (by decide) (fun h2 => ?_) (fun h2 => ?_)
        · refine ux_aload_n C dX7_get_47 1 rfl ?_
          refine ux_iload_n C dX7_get_48 2 rfl ?_
          refine ux_iload_n C dX7_get_49 0 rfl ?_
          refine ux_iconst C ((1 : Int32)) dX7_get_50 (by decide) ?_
          refine ux_callI C gkX7_get_76 (c_X7_mustWait l D ad cA A (u_reg σ key).1 k (nI (u_reg σ key).2) 1 hF1 hH1 (by omega)) rfl ⟨rfl, rfl⟩ ⟨(Nat.le_of_ble_eq_true rfl), (Nat.le_of_ble_eq_true rfl)⟩ ⟨Nat.le_refl _, Nat.le_refl _⟩ 7 rfl rfl rfl rfl (Nat.le_of_ble_eq_true rfl) dX7_get_51 (fun r σ1 hr => ?_)
          rcases hr with ⟨hl, rfl, hE⟩ | ⟨hl, rfl, hE⟩
          · rw [if_pos hl] at hu
            have hh1 : σ1.2.1 3 < 512 := by
              rw [hE.1]
              show (u_reg σ key).1.2.1 3 < 512
              omega
            refine ux_if_eq C 61 dX7_get_54 (by decide) (fun h3 => ?_) (fun h3 => ?_)
            · refine ux_aload_n C dX7_get_61 1 rfl ?_
              refine ux_get C flX7_get_33 7 rfl rfl rfl dX7_get_62 ?_
              refine ux_iload_n C dX7_get_65 2 rfl ?_
              refine ux_iload_n C dX7_get_66 0 rfl ?_
              refine ux_iconst C ((1 : Int32)) dX7_get_67 (by decide) ?_
              refine ux_callN C gkX7_get_82 (c_X1_add l D ad cA A σ1 (nI k) (nI (u_reg σ key).2) 1 hh1) rfl ⟨rfl, rfl⟩ ⟨(Nat.le_of_ble_eq_true rfl), (Nat.le_of_ble_eq_true rfl)⟩ ⟨Nat.le_refl _, Nat.le_refl _⟩ 1 rfl rfl rfl rfl (Nat.le_of_ble_eq_true rfl) dX7_get_68 (fun σ2 hr => ?_)
              have hr := u_hold_of hr
              subst hr
              have hE2 := hE.hold (nI k) (nI (u_reg σ key).2) 1
              have hF2 := hE2.F (u_hold_F (show uF (u_calm (u_reg σ key).1 k) from hF1))
              have hW2 := hE2.W (u_hold_W (show uW (u_calm (u_reg σ key).1 k) from hW1))
              refine ux_aload_n C dX7_get_71 1 rfl ?_
              refine ux_iload_n C dX7_get_72 2 rfl ?_
              refine ux_iload_n C dX7_get_73 3 rfl ?_
              refine ux_callL C gkX7_get_85 (c_X7_valueSeen l D ad cA A _ k key hF2 hW2 (by rw [hE2.1, u_hold_c _ _ _ _ 0 (by decide)]; show k ≤ (u_reg σ key).1.2.1 0; omega) (by rw [hE2.1, u_hold_c _ _ _ _ 1 (by decide)]; show (u_reg σ key).1.2.1 1 ≤ 512; omega)) rfl ⟨rfl, rfl⟩ ⟨(Nat.le_of_ble_eq_true rfl), (Nat.le_of_ble_eq_true rfl)⟩ ⟨Nat.le_refl _, Nat.le_refl _⟩ 7 rfl rfl rfl rfl (Nat.le_of_ble_eq_true rfl) dX7_get_74 (fun r σ2 hr => ?_)
              obtain ⟨hE3, rfl⟩ := hr
              exact ux_lret C dX7_get_77 (by rw [hu]; exact ⟨by rw [hE2.seen], hE2.trans hE3⟩)
            · exact absurd rfl h3
          · rw [if_neg hl] at hu
            refine ux_if_eq C 61 dX7_get_54 (by decide) (fun h3 => ?_) (fun h3 => ?_)
            · exact absurd h3 (by decide)
            · refine ux_ldc2 C (2199023255552 : Int64) (by decide +kernel) dX7_get_57 ?_
              exact ux_lret C dX7_get_60 (by rw [hu]; exact ⟨rfl, hE⟩)
        · exact absurd (of_decide_eq_true ((pq_bn0 _).mp h2)) (by omega)
  · have h : (decide (t = 0) || u_act σ t) = false := (pq_b0 _).mp h
    have hu : u_get σ t key = (4398046511104, σ) := by
      rw [Bool.or_eq_false_iff] at h
      rw [u_get, if_neg (of_decide_eq_false h.1), if_neg (by rw [h.2]; decide)]
    refine ux_ldc2 C (4398046511104 : Int64) (by decide +kernel) dX7_get_11 ?_
    exact ux_lret C dX7_get_14 (by rw [hu]; exact ⟨rfl, uEq.refl σ⟩)
set_option maxHeartbeats 4000000 in
set_option maxRecDepth 100000 in
theorem c_X7_change (l : Launch) (D : va_G) (ad : Nat → Nat) (cA : Nat → ClassId) (A : Nat → Prop) (σ : ST) (t key v : Int32) (b : Bool) (hF : uF σ) (hH : uH σ) (hW : uW σ) (hk : σ.2.1 1 < 512) (hh : σ.2.1 3 < 512) (hw : σ.2.1 2 < 512) : ux_I l D vwCl (tyU cA) (wU ad cA) A yX7_change wsX7_change (ux_rm 4) [.ref (ad 7), .int t, .int key, .int v, .int (pq_b b)] σ (fun r σ' => r = (u_change σ t key v b).1 ∧ uEq (u_change σ t key v b).2 σ') := by
  refine ux_ofI (cc := cX7_change) (maxL := 7) (ret := (some .int)) (Ts := wsX7_change) (lv := [(0, .ref (ad 7)), (1, .int t), (2, .int key), (3, .int v), (4, .int (pq_b b))]) (by decide) rfl (fun _ h => h) (Nat.le_of_ble_eq_true rfl) rfl ?_
  intro p e s m below meth c C
  refine ux_aload_n C dX7_change_0 0 rfl ?_
  refine ux_get C flX7_change_10 7 rfl rfl rfl dX7_change_1 ?_
  refine ux_iload_n C dX7_change_4 1 rfl ?_
  refine ux_callI C gkX7_change_93 (c_X0_isActive l D ad cA A σ t hF.1) rfl ⟨rfl, rfl⟩ ⟨(Nat.le_of_ble_eq_true rfl), (Nat.le_of_ble_eq_true rfl)⟩ ⟨Nat.le_refl _, Nat.le_refl _⟩ 0 rfl rfl rfl rfl (Nat.le_of_ble_eq_true rfl) dX7_change_5 (fun r σ1 hr => ?_)
  obtain ⟨rfl, rfl⟩ := hr
  refine ux_if_ne C 13 dX7_change_8 (by decide) (fun h => ?_) (fun h => ?_)
  · have ha : u_act σ t = true := (pq_bn0 _).mp h
    obtain ⟨k, k1, k2, rfl, k3⟩ := (u_act_iff hF).mp ha
    have hcl := nI_clamp (Nat.lt_of_le_of_lt (Nat.le_trans k2 hF.1) (show 150 < 2 ^ 31 by decide))
    have hu : u_change σ (nI k) key v b = (if u_least (u_reg σ key).1 k (nI (u_reg σ key).2) 2 = 0 then
      (if (!decide (u_seen (u_calm (u_reg σ key).1 k) k key = 1099511627776)) = b then 1 else 0, u_write (u_hold (u_calm (u_reg σ key).1 k) (nI k) (nI (u_reg σ key).2) 2) (nI k) (nI (u_reg σ key).2) v b (nI (σ.2.1 4)))
      else (-2, u_wish (u_reg σ key).1 k (nI (u_reg σ key).2) 2)) := by rw [u_change, if_pos ha, hcl]
    refine ux_aload_n C dX7_change_13 0 rfl ?_
    refine ux_get C flX7_change_19 7 rfl rfl rfl dX7_change_14 ?_
    refine ux_iload_n C dX7_change_17 2 rfl ?_
    refine ux_callI C gkX7_change_72 (c_X2_findOrAdd l D ad cA A σ key hk) rfl ⟨rfl, rfl⟩ ⟨(Nat.le_of_ble_eq_true rfl), (Nat.le_of_ble_eq_true rfl)⟩ ⟨Nat.le_refl _, Nat.le_refl _⟩ 2 rfl rfl rfl rfl (Nat.le_of_ble_eq_true rfl) dX7_change_18 (fun r σ1 hr => ?_)
    obtain ⟨rfl, rfl⟩ := u_reg_of hr
    have hs := u_reg_k σ key
    have hF1 := u_reg_F (key := key) hF
    have hH1 := u_reg_H (key := key) hH
    have hW1 := u_reg_W (key := key) hW
    have hc0 := u_reg_c σ key 0 (by decide)
    have hc2 := u_reg_c σ key 2 (by decide)
    have hc3 := u_reg_c σ key 3 (by decide)
    have hc4 := u_reg_c σ key 4 (by decide)
    refine ux_istore C [(5, _), (0, _), (1, _), (2, _), (3, _), (4, _)] dX7_change_21 (by decide) rfl ?_
    refine ux_iload C dX7_change_23 0 rfl ?_
    refine ux_iconst C ((-1 : Int32)) dX7_change_25 (by decide) ?_
    refine ux_icmp_eq C 49 dX7_change_26 (by decide) (fun h1 => ?_) (fun h1 => ?_)
    · exact absurd h1 (pq_nI_m1 (by omega))
    · refine ux_aload_n C dX7_change_29 1 rfl ?_
      refine ux_get C flX7_change_33 7 rfl rfl rfl dX7_change_30 ?_
      refine ux_callI C gkX7_change_75 (c_X1_isFull l D ad cA A (u_reg σ key).1 (by omega)) rfl ⟨rfl, rfl⟩ ⟨(Nat.le_of_ble_eq_true rfl), (Nat.le_of_ble_eq_true rfl)⟩ ⟨Nat.le_refl _, Nat.le_refl _⟩ 1 rfl rfl rfl rfl (Nat.le_of_ble_eq_true rfl) dX7_change_33 (fun r σ1 hr => ?_)
      obtain ⟨rfl, rfl⟩ := hr
      refine ux_if_ne C 49 dX7_change_36 (by decide) (fun h2 => ?_) (fun h2 => ?_)
      · exact absurd (of_decide_eq_true ((pq_bn0 _).mp h2)) (by omega)
      · refine ux_aload_n C dX7_change_39 1 rfl ?_
        refine ux_get C flX7_change_26 7 rfl rfl rfl dX7_change_40 ?_
        refine ux_callI C gkX7_change_205 (c_X6_isFull l D ad cA A (u_reg σ key).1 (by omega)) rfl ⟨rfl, rfl⟩ ⟨(Nat.le_of_ble_eq_true rfl), (Nat.le_of_ble_eq_true rfl)⟩ ⟨Nat.le_refl _, Nat.le_refl _⟩ 6 rfl rfl rfl rfl (Nat.le_of_ble_eq_true rfl) dX7_change_43 (fun r σ1 hr => ?_)
        obtain ⟨rfl, rfl⟩ := hr
        refine ux_if_eq C 51 dX7_change_46 (by decide) (fun h2 => ?_) (fun h2 => ?_)
        · refine ux_aload_n C dX7_change_51 1 rfl ?_
          refine ux_iload_n C dX7_change_52 2 rfl ?_
          refine ux_iload C dX7_change_53 0 rfl ?_
          refine ux_iconst C ((2 : Int32)) dX7_change_55 (by decide) ?_
          refine ux_callI C gkX7_change_76 (c_X7_mustWait l D ad cA A (u_reg σ key).1 k (nI (u_reg σ key).2) 2 hF1 hH1 (by omega)) rfl ⟨rfl, rfl⟩ ⟨(Nat.le_of_ble_eq_true rfl), (Nat.le_of_ble_eq_true rfl)⟩ ⟨Nat.le_refl _, Nat.le_refl _⟩ 7 rfl rfl rfl rfl (Nat.le_of_ble_eq_true rfl) dX7_change_56 (fun r σ1 hr => ?_)
          rcases hr with ⟨hl, rfl, hE⟩ | ⟨hl, rfl, hE⟩
          · rw [if_pos hl] at hu
            have hF2 := hE.F (show uF (u_calm (u_reg σ key).1 k) from hF1)
            have hW2 := hE.W (show uW (u_calm (u_reg σ key).1 k) from hW1)
            have e0 : σ1.2.1 0 = σ.2.1 0 := by rw [hE.1]; exact hc0
            have e1 : σ1.2.1 1 = (u_reg σ key).1.2.1 1 := by rw [hE.1]; rfl
            have e2 : σ1.2.1 2 = σ.2.1 2 := by rw [hE.1]; exact hc2
            have e3 : σ1.2.1 3 = σ.2.1 3 := by rw [hE.1]; exact hc3
            have e4 : σ1.2.1 4 = σ.2.1 4 := by rw [hE.1]; exact hc4
            refine ux_if_eq C 65 dX7_change_59 (by decide) (fun h3 => ?_) (fun h3 => ?_)
            · refine ux_aload_n C dX7_change_65 1 rfl ?_
              refine ux_iload_n C dX7_change_66 2 rfl ?_
              refine ux_iload_n C dX7_change_67 3 rfl ?_
              refine ux_callL C gkX7_change_85 (c_X7_valueSeen l D ad cA A σ1 k key hF2 hW2 (by omega) (by omega)) rfl ⟨rfl, rfl⟩ ⟨(Nat.le_of_ble_eq_true rfl), (Nat.le_of_ble_eq_true rfl)⟩ ⟨Nat.le_refl _, Nat.le_refl _⟩ 7 rfl rfl rfl rfl (Nat.le_of_ble_eq_true rfl) dX7_change_68 (fun r σ2 hr => ?_)
              obtain ⟨hE3, rfl⟩ := hr
              have hE4 := hE.trans hE3
              have d2 : σ2.2.1 2 = σ.2.1 2 := by rw [hE3.1]; exact e2
              have d3 : σ2.2.1 3 = σ.2.1 3 := by rw [hE3.1]; exact e3
              have d4 : σ2.2.1 4 = σ.2.1 4 := by rw [hE3.1]; exact e4
              have rest : ∀ saw : Bool, saw = (!decide (u_seen (u_calm (u_reg σ key).1 k) k key = 1099511627776)) → ux_V p l e (ux_rm 4) s m ([.ref (ad 7), .int (nI k), .int key, .int v, .int (pq_b b)] : List Value).toArray below meth c (MQ below (va_Qi (fun r σ' => r = (u_change σ (nI k) key v b).1 ∧ uEq (u_change σ (nI k) key v b).2 σ') (fun σ' tt => va_P D vwCl (wU ad cA σ') tt.heap) A) ([.ref (ad 7), .int (nI k), .int key, .int v, .int (pq_b b)] : List Value).toArray s 0 0 A) 7 D vwCl (wU ad cA) A 0 0 σ2 83 [(5, .int (nI (u_reg σ key).2)), (0, .ref (ad 7)), (1, .int (nI k)), (2, .int key), (3, .int v), (4, .int (pq_b b))] [.int (pq_b saw)] := by
                intro saw hsaw
                refine ux_istore C [(6, _), (5, _), (0, _), (1, _), (2, _), (3, _), (4, _)] dX7_change_83 (by decide) rfl ?_
                refine ux_aload_n C dX7_change_85 2 rfl ?_
                refine ux_get C flX7_change_33 7 rfl rfl rfl dX7_change_86 ?_
                refine ux_iload_n C dX7_change_89 3 rfl ?_
                refine ux_iload C dX7_change_90 1 rfl ?_
                refine ux_iconst C ((2 : Int32)) dX7_change_92 (by decide) ?_
                refine ux_callN C gkX7_change_82 (c_X1_add l D ad cA A σ2 (nI k) (nI (u_reg σ key).2) 2 (by omega)) rfl ⟨rfl, rfl⟩ ⟨(Nat.le_of_ble_eq_true rfl), (Nat.le_of_ble_eq_true rfl)⟩ ⟨Nat.le_refl _, Nat.le_refl _⟩ 1 rfl rfl rfl rfl (Nat.le_of_ble_eq_true rfl) dX7_change_93 (fun σ3 hr => ?_)
                have hr := u_hold_of hr
                subst hr
                have hE5 := hE4.hold (nI k) (nI (u_reg σ key).2) 2
                have f2 : (u_hold σ2 (nI k) (nI (u_reg σ key).2) 2).2.1 2 = σ.2.1 2 := (u_hold_c _ _ _ _ 2 (by decide)).trans d2
                have f4 : (u_hold σ2 (nI k) (nI (u_reg σ key).2) 2).2.1 4 = σ.2.1 4 := (u_hold_c _ _ _ _ 4 (by decide)).trans d4
                refine ux_aload_n C dX7_change_96 2 rfl ?_
                refine ux_get C flX7_change_26 7 rfl rfl rfl dX7_change_97 ?_
                refine ux_iload_n C dX7_change_100 3 rfl ?_
                refine ux_iload C dX7_change_101 1 rfl ?_
                refine ux_iload_n C dX7_change_103 5 rfl ?_
                refine ux_iload C dX7_change_104 6 rfl ?_
                refine ux_aload_n C dX7_change_106 2 rfl ?_
                refine ux_get C flX7_change_40 7 rfl rfl rfl dX7_change_107 ?_
                refine ux_callI C gkX7_change_121 (c_X3_now l D ad cA A _) rfl ⟨rfl, rfl⟩ ⟨(Nat.le_of_ble_eq_true rfl), (Nat.le_of_ble_eq_true rfl)⟩ ⟨Nat.le_refl _, Nat.le_refl _⟩ 3 rfl rfl rfl rfl (Nat.le_of_ble_eq_true rfl) dX7_change_110 (fun r σ3 hr => ?_)
                obtain ⟨rfl, rfl⟩ := hr
                refine ux_callN C gkX7_change_206 (c_X6_add l D ad cA A (u_hold σ2 (nI k) (nI (u_reg σ key).2) 2) (nI k) (nI (u_reg σ key).2) v b _ (by omega)) rfl ⟨rfl, rfl⟩ ⟨(Nat.le_of_ble_eq_true rfl), (Nat.le_of_ble_eq_true rfl)⟩ ⟨Nat.le_refl _, Nat.le_refl _⟩ 6 rfl rfl rfl rfl (Nat.le_of_ble_eq_true rfl) dX7_change_113 (fun σ3 hr => ?_)
                have hE6 := hE5.write (nI k) (nI (u_reg σ key).2) v b (nI ((u_hold σ2 (nI k) (nI (u_reg σ key).2) 2).2.1 4))
                rw [f4] at hE6 hr
                have hr : σ3 = u_write (u_hold σ2 (nI k) (nI (u_reg σ key).2) 2) (nI k) (nI (u_reg σ key).2) v b (nI (σ.2.1 4)) := hr
                subst hr
                refine ux_iload C dX7_change_116 0 rfl ?_
                refine ux_iload C dX7_change_118 6 rfl ?_
                refine ux_icmp_ne C 127 dX7_change_120 (by decide) (fun h7 => ?_) (fun h7 => ?_)
                · refine ux_iconst C ((0 : Int32)) dX7_change_127 (by decide) ?_
                  exact ux_iret C dX7_change_128 (by rw [hu]; exact ⟨by rw [if_neg]; rw [← hsaw]; exact fun e => h7 (by rw [e]), hE6⟩)
                · refine ux_iconst C ((1 : Int32)) dX7_change_123 (by decide) ?_
                  refine ux_goto C 128 dX7_change_124 (by decide) ?_
                  exact ux_iret C dX7_change_128 (by rw [hu]; exact ⟨by rw [if_pos]; rw [← hsaw]; exact (pq_b_inj _ _).mp h7, hE6⟩)
              refine ux_ldc2 C (1099511627776 : Int64) (by decide +kernel) dX7_change_71 ?_
              refine ux_lcmp C dX7_change_74 ?_
              refine ux_if_eq C 82 dX7_change_75 (by decide) (fun h6 => ?_) (fun h6 => ?_)
              · have h6 := pq_cmp_zero.mp h6
                rw [hE.seen] at h6
                refine ux_iconst C (pq_b false) dX7_change_82 (by decide) ?_
                exact rest false (by rw [decide_eq_true h6]; rfl)
              · have h6 := mt pq_cmp_zero.mpr h6
                rw [hE.seen] at h6
                refine ux_iconst C (pq_b true) dX7_change_78 (by decide) ?_
                refine ux_goto C 83 dX7_change_79 (by decide) ?_
                exact rest true (by rw [decide_eq_false h6]; rfl)
            · exact absurd rfl h3
          · rw [if_neg hl] at hu
            refine ux_if_eq C 65 dX7_change_59 (by decide) (fun h3 => ?_) (fun h3 => ?_)
            · exact absurd h3 (by decide)
            · refine ux_bipush C ((-2 : Int32)) dX7_change_62 (by decide) ?_
              exact ux_iret C dX7_change_64 (by rw [hu]; exact ⟨rfl, hE⟩)
        · exact absurd (of_decide_eq_true ((pq_bn0 _).mp h2)) (by omega)
  · have h : u_act σ t = false := (pq_b0 _).mp h
    have hu : u_change σ t key v b = (-1, σ) := if_neg (by rw [h]; decide)
    refine ux_iconst C ((-1 : Int32)) dX7_change_11 (by decide) ?_
    exact ux_iret C dX7_change_12 (by rw [hu]; exact ⟨rfl, uEq.refl σ⟩)
set_option maxHeartbeats 4000000 in
set_option maxRecDepth 100000 in
theorem c_X7_put (l : Launch) (D : va_G) (ad : Nat → Nat) (cA : Nat → ClassId) (A : Nat → Prop) (σ : ST) (t key v : Int32) (hF : uF σ) (hH : uH σ) (hW : uW σ) (hk : σ.2.1 1 < 512) (hh : σ.2.1 3 < 512) (hw : σ.2.1 2 < 512) : ux_I l D vwCl (tyU cA) (wU ad cA) A yX7_put wsX7_put (ux_rm 5) [.ref (ad 7), .int t, .int key, .int v] σ (fun r σ' => r = (u_change σ t key v false).1 ∧ uEq (u_change σ t key v false).2 σ') := by
  refine ux_ofI (cc := cX7_put) (maxL := 4) (ret := (some .int)) (Ts := wsX7_put) (lv := [(0, .ref (ad 7)), (1, .int t), (2, .int key), (3, .int v)]) (by decide) rfl (fun _ h => h) (Nat.le_of_ble_eq_true rfl) rfl ?_
  intro p e s m below meth c C
  refine ux_aload_n C dX7_put_0 0 rfl ?_
  refine ux_iload_n C dX7_put_1 1 rfl ?_
  refine ux_iload_n C dX7_put_2 2 rfl ?_
  refine ux_iload_n C dX7_put_3 3 rfl ?_
  refine ux_iconst C (pq_b false) dX7_put_4 (by decide) ?_
  refine ux_callI C gkX7_put_89 (c_X7_change l D ad cA A σ t key v false hF hH hW hk hh hw) rfl ⟨rfl, rfl⟩ ⟨(Nat.le_of_ble_eq_true rfl), (Nat.le_of_ble_eq_true rfl)⟩ ⟨Nat.le_refl _, Nat.le_refl _⟩ 7 rfl rfl rfl rfl (Nat.le_of_ble_eq_true rfl) dX7_put_5 (fun r σ1 hr => ?_)
  exact ux_iret C dX7_put_8 (hr)
set_option maxHeartbeats 4000000 in
set_option maxRecDepth 100000 in
theorem c_X7_take (l : Launch) (D : va_G) (ad : Nat → Nat) (cA : Nat → ClassId) (A : Nat → Prop) (σ : ST) (t key : Int32) (hF : uF σ) (hH : uH σ) (hW : uW σ) (hk : σ.2.1 1 < 512) (hh : σ.2.1 3 < 512) (hw : σ.2.1 2 < 512) : ux_I l D vwCl (tyU cA) (wU ad cA) A yX7_take wsX7_take (ux_rm 5) [.ref (ad 7), .int t, .int key] σ (fun r σ' => r = (u_change σ t key 0 true).1 ∧ uEq (u_change σ t key 0 true).2 σ') := by
  refine ux_ofI (cc := cX7_take) (maxL := 3) (ret := (some .int)) (Ts := wsX7_take) (lv := [(0, .ref (ad 7)), (1, .int t), (2, .int key)]) (by decide) rfl (fun _ h => h) (Nat.le_of_ble_eq_true rfl) rfl ?_
  intro p e s m below meth c C
  refine ux_aload_n C dX7_take_0 0 rfl ?_
  refine ux_iload_n C dX7_take_1 1 rfl ?_
  refine ux_iload_n C dX7_take_2 2 rfl ?_
  refine ux_iconst C ((0 : Int32)) dX7_take_3 (by decide) ?_
  refine ux_iconst C (pq_b true) dX7_take_4 (by decide) ?_
  refine ux_callI C gkX7_take_89 (c_X7_change l D ad cA A σ t key 0 true hF hH hW hk hh hw) rfl ⟨rfl, rfl⟩ ⟨(Nat.le_of_ble_eq_true rfl), (Nat.le_of_ble_eq_true rfl)⟩ ⟨Nat.le_refl _, Nat.le_refl _⟩ 7 rfl rfl rfl rfl (Nat.le_of_ble_eq_true rfl) dX7_take_5 (fun r σ1 hr => ?_)
  exact ux_iret C dX7_take_8 (hr)
set_option maxHeartbeats 4000000 in
set_option maxRecDepth 100000 in
theorem c_X7_canEndOrGoBack (l : Launch) (D : va_G) (ad : Nat → Nat) (cA : Nat → ClassId) (A : Nat → Prop) (σ : ST) (t : Int32) (hF : uF σ) : ux_I l D vwCl (tyU cA) (wU ad cA) A yX7_canEndOrGoBack wsX7_canEndOrGoBack (ux_rm 2) [.ref (ad 7), .int t] σ (fun r σ' => r = pq_b (u_can σ t) ∧ σ = σ') := by
  refine ux_ofI (cc := cX7_canEndOrGoBack) (maxL := 2) (ret := (some .boolean)) (Ts := wsX7_canEndOrGoBack) (lv := [(0, .ref (ad 7)), (1, .int t)]) (by decide) rfl (fun _ h => h) (Nat.le_of_ble_eq_true rfl) rfl ?_
  intro p e s m below meth c C
  refine ux_aload_n C dX7_canEndOrGoBack_0 0 rfl ?_
  refine ux_get C flX7_canEndOrGoBack_10 7 rfl rfl rfl dX7_canEndOrGoBack_1 ?_
  refine ux_iload_n C dX7_canEndOrGoBack_4 1 rfl ?_
  refine ux_callI C gkX7_canEndOrGoBack_93 (c_X0_isActive l D ad cA A σ t hF.1) rfl ⟨rfl, rfl⟩ ⟨(Nat.le_of_ble_eq_true rfl), (Nat.le_of_ble_eq_true rfl)⟩ ⟨Nat.le_refl _, Nat.le_refl _⟩ 0 rfl rfl rfl rfl (Nat.le_of_ble_eq_true rfl) dX7_canEndOrGoBack_5 (fun r σ1 hr => ?_)
  obtain ⟨rfl, rfl⟩ := hr
  refine ux_if_eq C 26 dX7_canEndOrGoBack_8 (by decide) (fun h => ?_) (fun h => ?_)
  · have h : u_act σ t = false := (pq_b0 _).mp h
    refine ux_iconst C ((0 : Int32)) dX7_canEndOrGoBack_26 (by decide) ?_
    exact ux_zret C dX7_canEndOrGoBack_27 rfl (⟨by rw [u_can, h]; rfl, rfl⟩)
  · have ha : u_act σ t = true := (pq_bn0 _).mp h
    obtain ⟨k, k1, k2, rfl, k3⟩ := (u_act_iff hF).mp ha
    have hcl := nI_clamp (Nat.lt_of_le_of_lt (Nat.le_trans k2 hF.1) (show 150 < 2 ^ 31 by decide))
    have hle : u_kids σ k ≤ σ.2.1 0 + 1 := pq_cnt_le _ _
    have hF0 := hF.1
    refine ux_aload_n C dX7_canEndOrGoBack_11 0 rfl ?_
    refine ux_get C flX7_canEndOrGoBack_10 7 rfl rfl rfl dX7_canEndOrGoBack_12 ?_
    refine ux_iload_n C dX7_canEndOrGoBack_15 1 rfl ?_
    refine ux_callI C gkX7_canEndOrGoBack_145 (c_X0_activeChildrenOf l D ad cA A σ k k2 hF.1) rfl ⟨rfl, rfl⟩ ⟨(Nat.le_of_ble_eq_true rfl), (Nat.le_of_ble_eq_true rfl)⟩ ⟨Nat.le_refl _, Nat.le_refl _⟩ 0 rfl rfl rfl rfl (Nat.le_of_ble_eq_true rfl) dX7_canEndOrGoBack_16 (fun r σ1 hr => ?_)
    obtain ⟨rfl, rfl⟩ := hr
    refine ux_if_ne C 26 dX7_canEndOrGoBack_19 (by decide) (fun h2 => ?_) (fun h2 => ?_)
    · have h2 : ¬ u_kids σ k = 0 := fun e => h2 (show nI (u_kids σ k) = 0 by rw [e]; rfl)
      refine ux_iconst C ((0 : Int32)) dX7_canEndOrGoBack_26 (by decide) ?_
      exact ux_zret C dX7_canEndOrGoBack_27 rfl (⟨by rw [u_can, hcl, decide_eq_false h2]; simp [pq_b], rfl⟩)
    · have h2 : u_kids σ k = 0 := (nI_eq (b := 0) (by omega) (by omega)).mp h2
      refine ux_iconst C ((1 : Int32)) dX7_canEndOrGoBack_22 (by decide) ?_
      refine ux_goto C 27 dX7_canEndOrGoBack_23 (by decide) ?_
      exact ux_zret C dX7_canEndOrGoBack_27 rfl (⟨by rw [u_can, hcl, decide_eq_true h2, ha]; rfl, rfl⟩)
set_option maxHeartbeats 4000000 in
set_option maxRecDepth 100000 in
theorem c_X7_end (l : Launch) (D : va_G) (ad : Nat → Nat) (cA : Nat → ClassId) (A : Nat → Prop) (σ : ST) (k : Nat) (x : Int32) (hk : k ≤ 150) (hw : σ.2.1 2 ≤ 512) (hh : σ.2.1 3 ≤ 512) (hm : σ.2.1 4 ≤ 512) : ux_N l D vwCl (tyU cA) (wU ad cA) A yX7_end wsX7_end (ux_rm 2) [.ref (ad 7), .int (nI k), .int x] σ (fun σ' => σ' = u_end σ k x) := by
  refine ux_ofN (cc := cX7_end) (maxL := 3) (ret := none) (Ts := wsX7_end) (lv := [(0, .ref (ad 7)), (1, .int (nI k)), (2, .int x)]) (by decide) rfl (fun _ h => h) (Nat.le_of_ble_eq_true rfl) rfl ?_
  intro p e s m below meth c C
  refine ux_aload_n C dX7_end_0 0 rfl ?_
  refine ux_get C flX7_end_10 7 rfl rfl rfl dX7_end_1 ?_
  refine ux_iload_n C dX7_end_4 1 rfl ?_
  refine ux_iload_n C dX7_end_5 2 rfl ?_
  refine ux_callN C gkX7_end_229 (c_X0_end l D ad cA A σ k x hk) rfl ⟨rfl, rfl⟩ ⟨(Nat.le_of_ble_eq_true rfl), (Nat.le_of_ble_eq_true rfl)⟩ ⟨Nat.le_refl _, Nat.le_refl _⟩ 0 rfl rfl rfl rfl (Nat.le_of_ble_eq_true rfl) dX7_end_6 (fun σ1 hr => ?_)
  subst hr
  refine ux_aload_n C dX7_end_9 0 rfl ?_
  refine ux_get C flX7_end_26 7 rfl rfl rfl dX7_end_10 ?_
  refine ux_iload_n C dX7_end_13 1 rfl ?_
  refine ux_callN C gkX7_end_230 (c_X6_drop l D ad cA A _ (nI k) hw) rfl ⟨rfl, rfl⟩ ⟨(Nat.le_of_ble_eq_true rfl), (Nat.le_of_ble_eq_true rfl)⟩ ⟨Nat.le_refl _, Nat.le_refl _⟩ 6 rfl rfl rfl rfl (Nat.le_of_ble_eq_true rfl) dX7_end_14 (fun σ1 hr => ?_)
  subst hr
  refine ux_aload_n C dX7_end_17 0 rfl ?_
  refine ux_get C flX7_end_33 7 rfl rfl rfl dX7_end_18 ?_
  refine ux_iload_n C dX7_end_21 1 rfl ?_
  refine ux_callN C gkX7_end_233 (c_X1_drop l D ad cA A _ (nI k) hh) rfl ⟨rfl, rfl⟩ ⟨(Nat.le_of_ble_eq_true rfl), (Nat.le_of_ble_eq_true rfl)⟩ ⟨Nat.le_refl _, Nat.le_refl _⟩ 1 rfl rfl rfl rfl (Nat.le_of_ble_eq_true rfl) dX7_end_22 (fun σ1 hr => ?_)
  subst hr
  refine ux_aload_n C dX7_end_25 0 rfl ?_
  refine ux_get C flX7_end_40 7 rfl rfl rfl dX7_end_26 ?_
  refine ux_iload_n C dX7_end_29 1 rfl ?_
  refine ux_callN C gkX7_end_234 (c_X3_drop l D ad cA A _ (nI k) hm) rfl ⟨rfl, rfl⟩ ⟨(Nat.le_of_ble_eq_true rfl), (Nat.le_of_ble_eq_true rfl)⟩ ⟨Nat.le_refl _, Nat.le_refl _⟩ 3 rfl rfl rfl rfl (Nat.le_of_ble_eq_true rfl) dX7_end_30 (fun σ1 hr => ?_)
  subst hr
  refine ux_aload_n C dX7_end_33 0 rfl ?_
  refine ux_get C flX7_end_47 7 rfl rfl rfl dX7_end_34 ?_
  refine ux_iload_n C dX7_end_37 1 rfl ?_
  refine ux_callN C gkX7_end_209 (c_X5_clear l D ad cA A _ k hk) rfl ⟨rfl, rfl⟩ ⟨(Nat.le_of_ble_eq_true rfl), (Nat.le_of_ble_eq_true rfl)⟩ ⟨Nat.le_refl _, Nat.le_refl _⟩ 5 rfl rfl rfl rfl (Nat.le_of_ble_eq_true rfl) dX7_end_38 (fun σ1 hr => ?_)
  subst hr
  exact ux_vret C dX7_end_41 (rfl)
end
