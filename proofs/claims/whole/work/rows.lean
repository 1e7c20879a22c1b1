section
-- ===== PART A: goes FIRST, ahead of the names: the tables' words, and 'selects' of the private methods out of them =====
/-- a private method of a class that the tables say can be made, by its rows of tables_1 -/
def lw_okq (q : MethodName × Nat) : Prop := (q.1.cls ≠ "java/lang/invoke/MethodHandle" ∧ q.1.cls ≠ "java/lang/invoke/VarHandle") ∧ Cond.instantiable q.1.cls q.2 ∈ tables_1 ∧ Cond.privateMethod q.1 ∈ tables_1 ∧ Cond.instanceMethod q.1 ∈ tables_1
theorem lw_p0 : lw_okq (⟨"UnitRoom", "deviceOf", "(I)LUnitRoom$Device;"⟩, 6) := ⟨⟨by decide +kernel, by decide +kernel⟩, List.mem_of_getElem? (i := 19) (by decide +kernel), List.mem_of_getElem? (i := 244) (by decide +kernel), List.mem_of_getElem? (i := 245) (by decide +kernel)⟩
theorem lw_p1 : lw_okq (⟨"UnitRoom", "faultOf", "(LUnitRoom$Device;III)I"⟩, 6) := ⟨⟨by decide +kernel, by decide +kernel⟩, List.mem_of_getElem? (i := 19) (by decide +kernel), List.mem_of_getElem? (i := 248) (by decide +kernel), List.mem_of_getElem? (i := 249) (by decide +kernel)⟩
theorem lw_p2 : lw_okq (⟨"UnitRoom", "goOnTo", "(J)V"⟩, 6) := ⟨⟨by decide +kernel, by decide +kernel⟩, List.mem_of_getElem? (i := 19) (by decide +kernel), List.mem_of_getElem? (i := 270) (by decide +kernel), List.mem_of_getElem? (i := 271) (by decide +kernel)⟩
theorem lw_p3 : lw_okq (⟨"UnitRoom", "nextDone", "()LUnitRoom$Device;"⟩, 6) := ⟨⟨by decide +kernel, by decide +kernel⟩, List.mem_of_getElem? (i := 19) (by decide +kernel), List.mem_of_getElem? (i := 274) (by decide +kernel), List.mem_of_getElem? (i := 275) (by decide +kernel)⟩
theorem lw_p4 : lw_okq (⟨"UnitRoom$Tape", "positionAfter", "(I)I"⟩, 9) := ⟨⟨by decide +kernel, by decide +kernel⟩, List.mem_of_getElem? (i := 106) (by decide +kernel), List.mem_of_getElem? (i := 354) (by decide +kernel), List.mem_of_getElem? (i := 355) (by decide +kernel)⟩
theorem lw_p5 : lw_okq (⟨"UnitRoom$Writer", "lineOf", "(ILUnitRoom$Memory;)[B"⟩, 10) := ⟨⟨by decide +kernel, by decide +kernel⟩, List.mem_of_getElem? (i := 146) (by decide +kernel), List.mem_of_getElem? (i := 375) (by decide +kernel), List.mem_of_getElem? (i := 376) (by decide +kernel)⟩
theorem lw_p6 : lw_okq (⟨"UnitRoom$Writer", "lengthWithoutBlanks", "(ILUnitRoom$Memory;)I"⟩, 10) := ⟨⟨by decide +kernel, by decide +kernel⟩, List.mem_of_getElem? (i := 146) (by decide +kernel), List.mem_of_getElem? (i := 379) (by decide +kernel), List.mem_of_getElem? (i := 380) (by decide +kernel)⟩
theorem lw_p7 : lw_okq (⟨"UnitRoomModel", "fault", "(IIII)I"⟩, 18) := ⟨⟨by decide +kernel, by decide +kernel⟩, List.mem_of_getElem? (i := 570) (by decide +kernel), List.mem_of_getElem? (i := 673) (by decide +kernel), List.mem_of_getElem? (i := 674) (by decide +kernel)⟩
theorem lw_p8 : lw_okq (⟨"UnitRoomModel", "goOn", "(J)V"⟩, 18) := ⟨⟨by decide +kernel, by decide +kernel⟩, List.mem_of_getElem? (i := 570) (by decide +kernel), List.mem_of_getElem? (i := 683) (by decide +kernel), List.mem_of_getElem? (i := 684) (by decide +kernel)⟩
theorem lw_p9 : lw_okq (⟨"UnitRoomModel", "isAhead", "(II)Z"⟩, 18) := ⟨⟨by decide +kernel, by decide +kernel⟩, List.mem_of_getElem? (i := 570) (by decide +kernel), List.mem_of_getElem? (i := 687) (by decide +kernel), List.mem_of_getElem? (i := 688) (by decide +kernel)⟩
theorem lw_p10 : lw_okq (⟨"UnitRoomModel", "control", "(II)V"⟩, 18) := ⟨⟨by decide +kernel, by decide +kernel⟩, List.mem_of_getElem? (i := 570) (by decide +kernel), List.mem_of_getElem? (i := 694) (by decide +kernel), List.mem_of_getElem? (i := 695) (by decide +kernel)⟩
theorem lw_p11 : lw_okq (⟨"UnitRoomModel", "feedForm", "()V"⟩, 18) := ⟨⟨by decide +kernel, by decide +kernel⟩, List.mem_of_getElem? (i := 570) (by decide +kernel), List.mem_of_getElem? (i := 699) (by decide +kernel), List.mem_of_getElem? (i := 700) (by decide +kernel)⟩
theorem lw_p12 : lw_okq (⟨"UnitRoomModel", "useBlock", "(IIII)V"⟩, 18) := ⟨⟨by decide +kernel, by decide +kernel⟩, List.mem_of_getElem? (i := 570) (by decide +kernel), List.mem_of_getElem? (i := 703) (by decide +kernel), List.mem_of_getElem? (i := 704) (by decide +kernel)⟩
theorem lw_p13 : lw_okq (⟨"UnitRoomModel", "readCard", "()V"⟩, 18) := ⟨⟨by decide +kernel, by decide +kernel⟩, List.mem_of_getElem? (i := 570) (by decide +kernel), List.mem_of_getElem? (i := 707) (by decide +kernel), List.mem_of_getElem? (i := 708) (by decide +kernel)⟩
theorem lw_p14 : lw_okq (⟨"UnitRoomModel", "code", "(I)I"⟩, 18) := ⟨⟨by decide +kernel, by decide +kernel⟩, List.mem_of_getElem? (i := 570) (by decide +kernel), List.mem_of_getElem? (i := 711) (by decide +kernel), List.mem_of_getElem? (i := 712) (by decide +kernel)⟩
theorem lw_p15 : lw_okq (⟨"UnitRoomModel", "writeLine", "(II)V"⟩, 18) := ⟨⟨by decide +kernel, by decide +kernel⟩, List.mem_of_getElem? (i := 570) (by decide +kernel), List.mem_of_getElem? (i := 715) (by decide +kernel), List.mem_of_getElem? (i := 716) (by decide +kernel)⟩
def lw_privs_1 : List (MethodName × Nat) := [(⟨"UnitRoom", "deviceOf", "(I)LUnitRoom$Device;"⟩, 6), (⟨"UnitRoom", "faultOf", "(LUnitRoom$Device;III)I"⟩, 6), (⟨"UnitRoom", "goOnTo", "(J)V"⟩, 6), (⟨"UnitRoom", "nextDone", "()LUnitRoom$Device;"⟩, 6), (⟨"UnitRoom$Tape", "positionAfter", "(I)I"⟩, 9), (⟨"UnitRoom$Writer", "lineOf", "(ILUnitRoom$Memory;)[B"⟩, 10), (⟨"UnitRoom$Writer", "lengthWithoutBlanks", "(ILUnitRoom$Memory;)I"⟩, 10), (⟨"UnitRoomModel", "fault", "(IIII)I"⟩, 18), (⟨"UnitRoomModel", "goOn", "(J)V"⟩, 18), (⟨"UnitRoomModel", "isAhead", "(II)Z"⟩, 18), (⟨"UnitRoomModel", "control", "(II)V"⟩, 18), (⟨"UnitRoomModel", "feedForm", "()V"⟩, 18), (⟨"UnitRoomModel", "useBlock", "(IIII)V"⟩, 18), (⟨"UnitRoomModel", "readCard", "()V"⟩, 18), (⟨"UnitRoomModel", "code", "(I)I"⟩, 18), (⟨"UnitRoomModel", "writeLine", "(II)V"⟩, 18)]
theorem lw_r1 : ∀ q ∈ lw_privs_1, lw_okq q := List.forall_mem_cons.mpr ⟨lw_p0, List.forall_mem_cons.mpr ⟨lw_p1, List.forall_mem_cons.mpr ⟨lw_p2, List.forall_mem_cons.mpr ⟨lw_p3, List.forall_mem_cons.mpr ⟨lw_p4, List.forall_mem_cons.mpr ⟨lw_p5, List.forall_mem_cons.mpr ⟨lw_p6, List.forall_mem_cons.mpr ⟨lw_p7, List.forall_mem_cons.mpr ⟨lw_p8, List.forall_mem_cons.mpr ⟨lw_p9, List.forall_mem_cons.mpr ⟨lw_p10, List.forall_mem_cons.mpr ⟨lw_p11, List.forall_mem_cons.mpr ⟨lw_p12, List.forall_mem_cons.mpr ⟨lw_p13, List.forall_mem_cons.mpr ⟨lw_p14, List.forall_mem_cons.mpr ⟨lw_p15, fun _ h => absurd h List.not_mem_nil⟩⟩⟩⟩⟩⟩⟩⟩⟩⟩⟩⟩⟩⟩⟩⟩
theorem lw_p16 : lw_okq (⟨"UnitRoomModel", "letterOf", "(I)I"⟩, 18) := ⟨⟨by decide +kernel, by decide +kernel⟩, List.mem_of_getElem? (i := 570) (by decide +kernel), List.mem_of_getElem? (i := 719) (by decide +kernel), List.mem_of_getElem? (i := 720) (by decide +kernel)⟩
def lw_privs_2 : List (MethodName × Nat) := [(⟨"UnitRoomModel", "letterOf", "(I)I"⟩, 18)]
theorem lw_r2 : ∀ q ∈ lw_privs_2, lw_okq q := List.forall_mem_cons.mpr ⟨lw_p16, fun _ h => absurd h List.not_mem_nil⟩
def lw_privs : List (MethodName × Nat) := lw_privs_1 ++ (lw_privs_2)
def lw_tbl : List Cond := k2_sels lw_privs ++ tables_1
theorem lw_privs_ok : ∀ q ∈ lw_privs, lw_okq q := by
  show ∀ q ∈ lw_privs_1 ++ (lw_privs_2), lw_okq q
  exact List.forall_mem_append.mpr ⟨lw_r1, lw_r2⟩
/-- all words of the tables that stay as they are -/
def ur_G : List Cond := lw_tbl.filter goodWord
theorem ur_mem {w : Cond} (i : Nat) (h : lw_tbl[i]? = some w) (hg : goodWord w = true) : w ∈ ur_G := List.mem_filter.mpr ⟨List.mem_of_getElem? h, hg⟩
theorem ur_good {ws : List Cond} (h : ∀ w ∈ ws, w ∈ ur_G) : GoodIn ur_G ws := fun w hw => ⟨h w hw, good_of_word (List.mem_filter.mp (h w hw)).2⟩
theorem ur_in {ws : List Cond} (h : ws.all (fun w => decide (w ∈ lw_tbl) && goodWord w) = true) : ∀ w ∈ ws, w ∈ ur_G := fun w hw => by
  have q := List.all_eq_true.mp h w hw
  simp only [Bool.and_eq_true, decide_eq_true_eq] at q
  exact List.mem_filter.mpr q
def TU : u_T := fun k => match k with
  | 0 => ("UnitRoom", "memory", "LUnitRoom$Memory;", true)
  | 1 => ("UnitRoom", "input", "LUnitRoom$InputTape;", true)
  | 2 => ("UnitRoom", "reader", "LUnitRoom$Reader;", true)
  | 3 => ("UnitRoom", "devices", "[LUnitRoom$Device;", true)
  | 4 => ("UnitRoom", "now", "J", false)
  | _ => ("UnitRoom", "begun", "I", false)
def tyU : Nat → FieldType := fun k => match k with
  | 0 => .object "UnitRoom$Memory"
  | 1 => .object "UnitRoom$InputTape"
  | 2 => .object "UnitRoom$Reader"
  | 3 => .array (.object "UnitRoom$Device")
  | 4 => .long
  | _ => .int
theorem nmU : ∀ a, a < 6 → ∀ b, b < 6 → a ≠ b → (TU a).2.1 ≠ (TU b).2.1 := by decide +kernel
theorem tyU_ok : ∀ k, k < 6 → parseFieldDescriptor (TU k).2.2.1 = some (tyU k) := by decide +kernel
theorem inU : ∀ w ∈ u_ws "UnitRoom" TU 6, w ∈ ur_G := ur_in (by decide +kernel)
def TM : u_T := fun k => match k with
  | _ => ("UnitRoom$Memory", "cells", "[I", true)
def tyM : Nat → FieldType := fun k => match k with
  | _ => .array .int
theorem nmM : ∀ a, a < 1 → ∀ b, b < 1 → a ≠ b → (TM a).2.1 ≠ (TM b).2.1 := by decide +kernel
theorem tyM_ok : ∀ k, k < 1 → parseFieldDescriptor (TM k).2.2.1 = some (tyM k) := by decide +kernel
theorem inM : ∀ w ∈ u_ws "UnitRoom$Memory" TM 1, w ∈ ur_G := ur_in (by decide +kernel)
def TN : u_T := fun k => match k with
  | 0 => ("UnitRoom$InputTape", "bytes", "[B", true)
  | _ => ("UnitRoom$InputTape", "length", "I", false)
def tyN : Nat → FieldType := fun k => match k with
  | 0 => .array .byte
  | _ => .int
theorem nmN : ∀ a, a < 2 → ∀ b, b < 2 → a ≠ b → (TN a).2.1 ≠ (TN b).2.1 := by decide +kernel
theorem tyN_ok : ∀ k, k < 2 → parseFieldDescriptor (TN k).2.2.1 = some (tyN k) := by decide +kernel
theorem inN : ∀ w ∈ u_ws "UnitRoom$InputTape" TN 2, w ∈ ur_G := ur_in (by decide +kernel)
def TT : u_T := fun k => match k with
  | 0 => ("UnitRoom$Device", "words", "I", true)
  | 1 => ("UnitRoom$Device", "brought", "[I", true)
  | 2 => ("UnitRoom$Device", "duration", "I", true)
  | 3 => ("UnitRoom$Device", "freeAt", "J", false)
  | 4 => ("UnitRoom$Device", "bringing", "Z", false)
  | 5 => ("UnitRoom$Device", "turn", "I", false)
  | 6 => ("UnitRoom$Device", "target", "I", false)
  | 7 => ("UnitRoom$Tape", "position", "I", false)
  | _ => ("UnitRoom$BlockDevice", "blocks", "[[I", true)
def tyT : Nat → FieldType := fun k => match k with
  | 0 => .int
  | 1 => .array .int
  | 2 => .int
  | 3 => .long
  | 4 => .boolean
  | 5 => .int
  | 6 => .int
  | 7 => .int
  | _ => .array (.array .int)
theorem nmT : ∀ a, a < 9 → ∀ b, b < 9 → a ≠ b → (TT a).2.1 ≠ (TT b).2.1 := by decide +kernel
theorem tyT_ok : ∀ k, k < 9 → parseFieldDescriptor (TT k).2.2.1 = some (tyT k) := by decide +kernel
theorem inT : ∀ w ∈ u_ws "UnitRoom$Tape" TT 9, w ∈ ur_G := ur_in (by decide +kernel)
def TK : u_T := fun k => match k with
  | 0 => ("UnitRoom$Device", "words", "I", true)
  | 1 => ("UnitRoom$Device", "brought", "[I", true)
  | 2 => ("UnitRoom$Device", "duration", "I", true)
  | 3 => ("UnitRoom$Device", "freeAt", "J", false)
  | 4 => ("UnitRoom$Device", "bringing", "Z", false)
  | 5 => ("UnitRoom$Device", "turn", "I", false)
  | 6 => ("UnitRoom$Device", "target", "I", false)
  | _ => ("UnitRoom$BlockDevice", "blocks", "[[I", true)
def tyK : Nat → FieldType := fun k => match k with
  | 0 => .int
  | 1 => .array .int
  | 2 => .int
  | 3 => .long
  | 4 => .boolean
  | 5 => .int
  | 6 => .int
  | _ => .array (.array .int)
theorem nmK : ∀ a, a < 8 → ∀ b, b < 8 → a ≠ b → (TK a).2.1 ≠ (TK b).2.1 := by decide +kernel
theorem tyK_ok : ∀ k, k < 8 → parseFieldDescriptor (TK k).2.2.1 = some (tyK k) := by decide +kernel
theorem inK : ∀ w ∈ u_ws "UnitRoom$Disk" TK 8, w ∈ ur_G := ur_in (by decide +kernel)
def TR : u_T := fun k => match k with
  | 0 => ("UnitRoom$Device", "words", "I", true)
  | 1 => ("UnitRoom$Device", "brought", "[I", true)
  | 2 => ("UnitRoom$Device", "duration", "I", true)
  | 3 => ("UnitRoom$Device", "freeAt", "J", false)
  | 4 => ("UnitRoom$Device", "bringing", "Z", false)
  | 5 => ("UnitRoom$Device", "turn", "I", false)
  | 6 => ("UnitRoom$Device", "target", "I", false)
  | 7 => ("UnitRoom$Reader", "cards", "[I", true)
  | 8 => ("UnitRoom$Reader", "first", "I", false)
  | _ => ("UnitRoom$Reader", "left", "I", false)
def tyR : Nat → FieldType := fun k => match k with
  | 0 => .int
  | 1 => .array .int
  | 2 => .int
  | 3 => .long
  | 4 => .boolean
  | 5 => .int
  | 6 => .int
  | 7 => .array .int
  | 8 => .int
  | _ => .int
theorem nmR : ∀ a, a < 10 → ∀ b, b < 10 → a ≠ b → (TR a).2.1 ≠ (TR b).2.1 := by decide +kernel
theorem tyR_ok : ∀ k, k < 10 → parseFieldDescriptor (TR k).2.2.1 = some (tyR k) := by decide +kernel
theorem inR : ∀ w ∈ u_ws "UnitRoom$Reader" TR 10, w ∈ ur_G := ur_in (by decide +kernel)
def TW : u_T := fun k => match k with
  | 0 => ("UnitRoom$Device", "words", "I", true)
  | 1 => ("UnitRoom$Device", "brought", "[I", true)
  | 2 => ("UnitRoom$Device", "duration", "I", true)
  | 3 => ("UnitRoom$Device", "freeAt", "J", false)
  | 4 => ("UnitRoom$Device", "bringing", "Z", false)
  | 5 => ("UnitRoom$Device", "turn", "I", false)
  | 6 => ("UnitRoom$Device", "target", "I", false)
  | 7 => ("UnitRoom$Writer", "lines", "[[B", true)
  | 8 => ("UnitRoom$Writer", "hasPages", "Z", true)
  | _ => ("UnitRoom$Writer", "written", "I", false)
def tyW : Nat → FieldType := fun k => match k with
  | 0 => .int
  | 1 => .array .int
  | 2 => .int
  | 3 => .long
  | 4 => .boolean
  | 5 => .int
  | 6 => .int
  | 7 => .array (.array .byte)
  | 8 => .boolean
  | _ => .int
theorem nmW : ∀ a, a < 10 → ∀ b, b < 10 → a ≠ b → (TW a).2.1 ≠ (TW b).2.1 := by decide +kernel
theorem tyW_ok : ∀ k, k < 10 → parseFieldDescriptor (TW k).2.2.1 = some (tyW k) := by decide +kernel
theorem inW : ∀ w ∈ u_ws "UnitRoom$Writer" TW 10, w ∈ ur_G := ur_in (by decide +kernel)
def TF : u_T := fun k => match k with
  | 0 => ("UnitRoomModel", "memory", "[I", true)
  | 1 => ("UnitRoomModel", "blocks", "[I", true)
  | 2 => ("UnitRoomModel", "stands", "[I", true)
  | 3 => ("UnitRoomModel", "time", "J", false)
  | 4 => ("UnitRoomModel", "free", "[J", true)
  | 5 => ("UnitRoomModel", "comes", "[Z", true)
  | 6 => ("UnitRoomModel", "goals", "[I", true)
  | 7 => ("UnitRoomModel", "numbers", "[I", true)
  | 8 => ("UnitRoomModel", "operations", "I", false)
  | 9 => ("UnitRoomModel", "brought", "[I", true)
  | 10 => ("UnitRoomModel", "cards", "I", false)
  | 11 => ("UnitRoomModel", "cardBytes", "[I", true)
  | 12 => ("UnitRoomModel", "lines", "[I", true)
  | 13 => ("UnitRoomModel", "lengths", "[I", true)
  | 14 => ("UnitRoomModel", "letters", "[B", true)
  | 15 => ("UnitRoomModel", "tape", "[I", true)
  | 16 => ("UnitRoomModel", "tapeSize", "I", false)
  | _ => ("UnitRoomModel", "alphabet", "[I", true)
def tyF : Nat → FieldType := fun k => match k with
  | 0 => .array .int
  | 1 => .array .int
  | 2 => .array .int
  | 3 => .long
  | 4 => .array .long
  | 5 => .array .boolean
  | 6 => .array .int
  | 7 => .array .int
  | 8 => .int
  | 9 => .array .int
  | 10 => .int
  | 11 => .array .int
  | 12 => .array .int
  | 13 => .array .int
  | 14 => .array .byte
  | 15 => .array .int
  | 16 => .int
  | _ => .array .int
theorem nmF : ∀ a, a < 18 → ∀ b, b < 18 → a ≠ b → (TF a).2.1 ≠ (TF b).2.1 := by decide +kernel
theorem tyF_ok : ∀ k, k < 18 → parseFieldDescriptor (TF k).2.2.1 = some (tyF k) := by decide +kernel
theorem inF : ∀ w ∈ u_ws "UnitRoomModel" TF 18, w ∈ ur_G := ur_in (by decide +kernel)
abbrev vwCl : List vw_C := [("UnitRoom", TU, 6), ("UnitRoom$Memory", TM, 1), ("UnitRoom$InputTape", TN, 2), ("UnitRoom$Tape", TT, 9), ("UnitRoom$Disk", TK, 8), ("UnitRoom$Reader", TR, 10), ("UnitRoom$Writer", TW, 10), ("UnitRoomModel", TF, 18)]
abbrev yU_init : MethodName := ⟨"UnitRoom", "<init>", "()V"⟩
abbrev cU_init : ByteArray := prog_1_method_1_code
abbrev wsU_init : List Cond := .code yU_init cU_init 2 none :: ur_G
abbrev yM_init : MethodName := ⟨"UnitRoom$Memory", "<init>", "()V"⟩
abbrev cM_init : ByteArray := prog_6_method_1_code
abbrev wsM_init : List Cond := .code yM_init cM_init 1 none :: ur_G
abbrev yN_init : MethodName := ⟨"UnitRoom$InputTape", "<init>", "()V"⟩
abbrev cN_init : ByteArray := prog_5_method_1_code
abbrev wsN_init : List Cond := .code yN_init cN_init 1 none :: ur_G
abbrev yR_init : MethodName := ⟨"UnitRoom$Reader", "<init>", "()V"⟩
abbrev cR_init : ByteArray := prog_7_method_1_code
abbrev wsR_init : List Cond := .code yR_init cR_init 1 none :: ur_G
abbrev yD_init : MethodName := ⟨"UnitRoom$Device", "<init>", "(II)V"⟩
abbrev cD_init : ByteArray := prog_3_method_1_code
abbrev wsD_init : List Cond := .code yD_init cD_init 3 none :: ur_G
abbrev yT_init : MethodName := ⟨"UnitRoom$Tape", "<init>", "()V"⟩
abbrev cT_init : ByteArray := prog_8_method_1_code
abbrev wsT_init : List Cond := .code yT_init cT_init 1 none :: ur_G
abbrev yB_init : MethodName := ⟨"UnitRoom$BlockDevice", "<init>", "(I)V"⟩
abbrev cB_init : ByteArray := prog_2_method_1_code
abbrev wsB_init : List Cond := .code yB_init cB_init 2 none :: ur_G
abbrev yK_init : MethodName := ⟨"UnitRoom$Disk", "<init>", "()V"⟩
abbrev cK_init : ByteArray := prog_4_method_1_code
abbrev wsK_init : List Cond := .code yK_init cK_init 1 none :: ur_G
abbrev yW_init : MethodName := ⟨"UnitRoom$Writer", "<init>", "(IIZ)V"⟩
abbrev cW_init : ByteArray := prog_9_method_1_code
abbrev wsW_init : List Cond := .code yW_init cW_init 4 none :: ur_G
abbrev yU_feed : MethodName := ⟨"UnitRoom", "feed", "(IIIII)Z"⟩
abbrev cU_feed : ByteArray := prog_1_method_2_code
abbrev wsU_feed : List Cond := .code yU_feed cU_feed 6 (some .boolean) :: ur_G
abbrev yN_hasRoom : MethodName := ⟨"UnitRoom$InputTape", "hasRoom", "()Z"⟩
abbrev cN_hasRoom : ByteArray := prog_5_method_2_code
abbrev wsN_hasRoom : List Cond := .code yN_hasRoom cN_hasRoom 1 (some .boolean) :: ur_G
abbrev yN_append : MethodName := ⟨"UnitRoom$InputTape", "append", "(I)V"⟩
abbrev cN_append : ByteArray := prog_5_method_3_code
abbrev wsN_append : List Cond := .code yN_append cN_append 3 none :: ur_G
abbrev yU_end : MethodName := ⟨"UnitRoom", "end", "(I)Z"⟩
abbrev cU_end : ByteArray := prog_1_method_3_code
abbrev wsU_end : List Cond := .code yU_end cU_end 2 (some .boolean) :: ur_G
abbrev yN_cut : MethodName := ⟨"UnitRoom$InputTape", "cut", "(I)Z"⟩
abbrev cN_cut : ByteArray := prog_5_method_4_code
abbrev wsN_cut : List Cond := .code yN_cut cN_cut 2 (some .boolean) :: ur_G
abbrev yU_set : MethodName := ⟨"UnitRoom", "set", "(IIZ)Z"⟩
abbrev cU_set : ByteArray := prog_1_method_4_code
abbrev wsU_set : List Cond := .code yU_set cU_set 4 (some .boolean) :: ur_G
abbrev yM_holds : MethodName := ⟨"UnitRoom$Memory", "holds", "(II)Z"⟩
abbrev cM_holds : ByteArray := prog_6_method_2_code
abbrev wsM_holds : List Cond := .code yM_holds cM_holds 3 (some .boolean) :: ur_G
abbrev yM_put : MethodName := ⟨"UnitRoom$Memory", "put", "(II)V"⟩
abbrev cM_put : ByteArray := prog_6_method_4_code
abbrev wsM_put : List Cond := .code yM_put cM_put 3 none :: ur_G
abbrev yU_fill : MethodName := ⟨"UnitRoom", "fill", "(III)Z"⟩
abbrev cU_fill : ByteArray := prog_1_method_5_code
abbrev wsU_fill : List Cond := .code yU_fill cU_fill 5 (some .boolean) :: ur_G
abbrev yU_word : MethodName := ⟨"UnitRoom", "word", "(I)I"⟩
abbrev cU_word : ByteArray := prog_1_method_6_code
abbrev wsU_word : List Cond := .code yU_word cU_word 2 (some .int) :: ur_G
abbrev yM_at : MethodName := ⟨"UnitRoom$Memory", "at", "(I)I"⟩
abbrev cM_at : ByteArray := prog_6_method_3_code
abbrev wsM_at : List Cond := .code yM_at cM_at 2 (some .int) :: ur_G
abbrev yU_operate : MethodName := ⟨"UnitRoom", "operate", "(IIII)I"⟩
abbrev cU_operate : ByteArray := prog_1_method_7_code
abbrev wsU_operate : List Cond := .code yU_operate cU_operate 7 (some .int) :: ur_G
abbrev yU_deviceOf : MethodName := ⟨"UnitRoom", "deviceOf", "(I)LUnitRoom$Device;"⟩
abbrev cU_deviceOf : ByteArray := prog_1_method_14_code
abbrev wsU_deviceOf : List Cond := .code yU_deviceOf cU_deviceOf 2 (some (.object "UnitRoom$Device")) :: ur_G
abbrev yU_faultOf : MethodName := ⟨"UnitRoom", "faultOf", "(LUnitRoom$Device;III)I"⟩
abbrev cU_faultOf : ByteArray := prog_1_method_15_code
abbrev wsU_faultOf : List Cond := .code yU_faultOf cU_faultOf 6 (some .int) :: ur_G
abbrev yK_faultOf : MethodName := ⟨"UnitRoom$Disk", "faultOf", "(III)I"⟩
abbrev cK_faultOf : ByteArray := prog_4_method_2_code
abbrev wsK_faultOf : List Cond := .code yK_faultOf cK_faultOf 4 (some .int) :: ur_G
abbrev yR_faultOf : MethodName := ⟨"UnitRoom$Reader", "faultOf", "(III)I"⟩
abbrev cR_faultOf : ByteArray := prog_7_method_4_code
abbrev wsR_faultOf : List Cond := .code yR_faultOf cR_faultOf 4 (some .int) :: ur_G
abbrev yT_faultOf : MethodName := ⟨"UnitRoom$Tape", "faultOf", "(III)I"⟩
abbrev cT_faultOf : ByteArray := prog_8_method_2_code
abbrev wsT_faultOf : List Cond := .code yT_faultOf cT_faultOf 4 (some .int) :: ur_G
abbrev yW_faultOf : MethodName := ⟨"UnitRoom$Writer", "faultOf", "(III)I"⟩
abbrev cW_faultOf : ByteArray := prog_9_method_3_code
abbrev wsW_faultOf : List Cond := .code yW_faultOf cW_faultOf 5 (some .int) :: ur_G
abbrev yU_goOnTo : MethodName := ⟨"UnitRoom", "goOnTo", "(J)V"⟩
abbrev cU_goOnTo : ByteArray := prog_1_method_16_code
abbrev wsU_goOnTo : List Cond := .code yU_goOnTo cU_goOnTo 5 none :: ur_G
abbrev yU_nextDone : MethodName := ⟨"UnitRoom", "nextDone", "()LUnitRoom$Device;"⟩
abbrev cU_nextDone : ByteArray := prog_1_method_17_code
abbrev wsU_nextDone : List Cond := .code yU_nextDone cU_nextDone 4 (some (.object "UnitRoom$Device")) :: ur_G
abbrev yD_isDoneAheadOf : MethodName := ⟨"UnitRoom$Device", "isDoneAheadOf", "(LUnitRoom$Device;)Z"⟩
abbrev cD_isDoneAheadOf : ByteArray := prog_3_method_8_code
abbrev wsD_isDoneAheadOf : List Cond := .code yD_isDoneAheadOf cD_isDoneAheadOf 2 (some .boolean) :: ur_G
abbrev yD_deliver : MethodName := ⟨"UnitRoom$Device", "deliver", "(LUnitRoom$Memory;)V"⟩
abbrev cD_deliver : ByteArray := prog_3_method_7_code
abbrev wsD_deliver : List Cond := .code yD_deliver cD_deliver 2 none :: ur_G
abbrev yM_takeFrom : MethodName := ⟨"UnitRoom$Memory", "takeFrom", "([II)V"⟩
abbrev cM_takeFrom : ByteArray := prog_6_method_6_code
abbrev wsM_takeFrom : List Cond := .code yM_takeFrom cM_takeFrom 3 none :: ur_G
abbrev yD_begin : MethodName := ⟨"UnitRoom$Device", "begin", "(JI)V"⟩
abbrev cD_begin : ByteArray := prog_3_method_5_code
abbrev wsD_begin : List Cond := .code yD_begin cD_begin 4 none :: ur_G
abbrev yK_work : MethodName := ⟨"UnitRoom$Disk", "work", "(IIILUnitRoom$Memory;)V"⟩
abbrev cK_work : ByteArray := prog_4_method_3_code
abbrev wsK_work : List Cond := .code yK_work cK_work 5 none :: ur_G
abbrev yB_readBlock : MethodName := ⟨"UnitRoom$BlockDevice", "readBlock", "(II)V"⟩
abbrev cB_readBlock : ByteArray := prog_2_method_3_code
abbrev wsB_readBlock : List Cond := .code yB_readBlock cB_readBlock 4 none :: ur_G
abbrev yB_wordAt : MethodName := ⟨"UnitRoom$BlockDevice", "wordAt", "(II)I"⟩
abbrev cB_wordAt : ByteArray := prog_2_method_2_code
abbrev wsB_wordAt : List Cond := .code yB_wordAt cB_wordAt 4 (some .int) :: ur_G
abbrev yD_bringTo : MethodName := ⟨"UnitRoom$Device", "bringTo", "(I)V"⟩
abbrev cD_bringTo : ByteArray := prog_3_method_6_code
abbrev wsD_bringTo : List Cond := .code yD_bringTo cD_bringTo 2 none :: ur_G
abbrev yB_writeBlock : MethodName := ⟨"UnitRoom$BlockDevice", "writeBlock", "(IILUnitRoom$Memory;)V"⟩
abbrev cB_writeBlock : ByteArray := prog_2_method_4_code
abbrev wsB_writeBlock : List Cond := .code yB_writeBlock cB_writeBlock 5 none :: ur_G
abbrev yM_copyInto : MethodName := ⟨"UnitRoom$Memory", "copyInto", "([II)V"⟩
abbrev cM_copyInto : ByteArray := prog_6_method_5_code
abbrev wsM_copyInto : List Cond := .code yM_copyInto cM_copyInto 3 none :: ur_G
abbrev yR_work : MethodName := ⟨"UnitRoom$Reader", "work", "(IIILUnitRoom$Memory;)V"⟩
abbrev cR_work : ByteArray := prog_7_method_5_code
abbrev wsR_work : List Cond := .code yR_work cR_work 7 none :: ur_G
abbrev yT_work : MethodName := ⟨"UnitRoom$Tape", "work", "(IIILUnitRoom$Memory;)V"⟩
abbrev cT_work : ByteArray := prog_8_method_3_code
abbrev wsT_work : List Cond := .code yT_work cT_work 5 none :: ur_G
abbrev yT_positionAfter : MethodName := ⟨"UnitRoom$Tape", "positionAfter", "(I)I"⟩
abbrev cT_positionAfter : ByteArray := prog_8_method_5_code
abbrev wsT_positionAfter : List Cond := .code yT_positionAfter cT_positionAfter 4 (some .int) :: ur_G
abbrev yW_work : MethodName := ⟨"UnitRoom$Writer", "work", "(IIILUnitRoom$Memory;)V"⟩
abbrev cW_work : ByteArray := prog_9_method_4_code
abbrev wsW_work : List Cond := .code yW_work cW_work 5 none :: ur_G
abbrev yW_formFeedLine : MethodName := ⟨"UnitRoom$Writer", "formFeedLine", "()[B"⟩
abbrev cW_formFeedLine : ByteArray := prog_9_method_6_code
abbrev wsW_formFeedLine : List Cond := .code yW_formFeedLine cW_formFeedLine 1 (some (.array .byte)) :: ur_G
abbrev yW_lineOf : MethodName := ⟨"UnitRoom$Writer", "lineOf", "(ILUnitRoom$Memory;)[B"⟩
abbrev cW_lineOf : ByteArray := prog_9_method_7_code
abbrev wsW_lineOf : List Cond := .code yW_lineOf cW_lineOf 5 (some (.array .byte)) :: ur_G
abbrev yW_lengthWithoutBlanks : MethodName := ⟨"UnitRoom$Writer", "lengthWithoutBlanks", "(ILUnitRoom$Memory;)I"⟩
abbrev cW_lengthWithoutBlanks : ByteArray := prog_9_method_8_code
abbrev wsW_lengthWithoutBlanks : List Cond := .code yW_lengthWithoutBlanks cW_lengthWithoutBlanks 4 (some .int) :: ur_G
abbrev yM_byteAt : MethodName := ⟨"UnitRoom$Memory", "byteAt", "(II)I"⟩
abbrev cM_byteAt : ByteArray := prog_6_method_7_code
abbrev wsM_byteAt : List Cond := .code yM_byteAt cM_byteAt 6 (some .int) :: ur_G
abbrev yU_letterOf : MethodName := ⟨"UnitRoom", "letterOf", "(I)C"⟩
abbrev cU_letterOf : ByteArray := prog_1_method_18_code
abbrev wsU_letterOf : List Cond := .code yU_letterOf cU_letterOf 1 (some .char) :: ur_G
abbrev yS_length : MethodName := ⟨"java/lang/String", "length", "()I"⟩
abbrev cS_length : ByteArray := prog_14_method_54_code
abbrev wsS_length : List Cond := .code yS_length cS_length 1 (some .int) :: ur_G
abbrev yS_coder : MethodName := ⟨"java/lang/String", "coder", "()B"⟩
abbrev cS_coder : ByteArray := prog_14_method_152_code
abbrev wsS_coder : List Cond := .code yS_coder cS_coder 1 (some .byte) :: ur_G
abbrev yS_charAt : MethodName := ⟨"java/lang/String", "charAt", "(I)C"⟩
abbrev cS_charAt : ByteArray := prog_14_method_56_code
abbrev wsS_charAt : List Cond := .code yS_charAt cS_charAt 2 (some .char) :: ur_G
abbrev yS_isLatin1 : MethodName := ⟨"java/lang/String", "isLatin1", "()Z"⟩
abbrev cS_isLatin1 : ByteArray := prog_14_method_154_code
abbrev wsS_isLatin1 : List Cond := .code yS_isLatin1 cS_isLatin1 1 (some .boolean) :: ur_G
abbrev yZ_charAt : MethodName := ⟨"java/lang/StringLatin1", "charAt", "([BI)C"⟩
abbrev cZ_charAt : ByteArray := prog_15_method_2_code
abbrev wsZ_charAt : List Cond := .code yZ_charAt cZ_charAt 2 (some .char) :: ur_G
abbrev yS_checkIndex : MethodName := ⟨"java/lang/String", "checkIndex", "(II)V"⟩
abbrev cS_checkIndex : ByteArray := prog_14_method_155_code
abbrev wsS_checkIndex : List Cond := .code yS_checkIndex cS_checkIndex 2 none :: ur_G
abbrev yP_checkIndex : MethodName := ⟨"jdk/internal/util/Preconditions", "checkIndex", "(IILjava/util/function/BiFunction;)I"⟩
abbrev cP_checkIndex : ByteArray := prog_18_method_11_code
abbrev wsP_checkIndex : List Cond := .code yP_checkIndex cP_checkIndex 3 (some .int) :: ur_G
abbrev yU_isBusy : MethodName := ⟨"UnitRoom", "isBusy", "(I)Z"⟩
abbrev cU_isBusy : ByteArray := prog_1_method_8_code
abbrev wsU_isBusy : List Cond := .code yU_isBusy cU_isBusy 3 (some .boolean) :: ur_G
abbrev yU_pass : MethodName := ⟨"UnitRoom", "pass", "(I)J"⟩
abbrev cU_pass : ByteArray := prog_1_method_9_code
abbrev wsU_pass : List Cond := .code yU_pass cU_pass 2 (some .long) :: ur_G
abbrev yU_card : MethodName := ⟨"UnitRoom", "card", "()I"⟩
abbrev cU_card : ByteArray := prog_1_method_10_code
abbrev wsU_card : List Cond := .code yU_card cU_card 2 (some .int) :: ur_G
abbrev yR_hasRoom : MethodName := ⟨"UnitRoom$Reader", "hasRoom", "()Z"⟩
abbrev cR_hasRoom : ByteArray := prog_7_method_2_code
abbrev wsR_hasRoom : List Cond := .code yR_hasRoom cR_hasRoom 1 (some .boolean) :: ur_G
abbrev yR_accept : MethodName := ⟨"UnitRoom$Reader", "accept", "(LUnitRoom$InputTape;)V"⟩
abbrev cR_accept : ByteArray := prog_7_method_3_code
abbrev wsR_accept : List Cond := .code yR_accept cR_accept 4 none :: ur_G
abbrev yR_wordOf : MethodName := ⟨"UnitRoom$Reader", "wordOf", "(LUnitRoom$InputTape;I)I"⟩
abbrev cR_wordOf : ByteArray := prog_7_method_7_code
abbrev wsR_wordOf : List Cond := .code yR_wordOf cR_wordOf 4 (some .int) :: ur_G
abbrev yN_codeAt : MethodName := ⟨"UnitRoom$InputTape", "codeAt", "(I)I"⟩
abbrev cN_codeAt : ByteArray := prog_5_method_5_code
abbrev wsN_codeAt : List Cond := .code yN_codeAt cN_codeAt 2 (some .int) :: ur_G
abbrev yU_codeOf : MethodName := ⟨"UnitRoom", "codeOf", "(I)I"⟩
abbrev cU_codeOf : ByteArray := prog_1_method_19_code
abbrev wsU_codeOf : List Cond := .code yU_codeOf cU_codeOf 2 (some .int) :: ur_G
abbrev yS_indexOf : MethodName := ⟨"java/lang/String", "indexOf", "(I)I"⟩
abbrev cS_indexOf : ByteArray := prog_14_method_79_code
abbrev wsS_indexOf : List Cond := .code yS_indexOf cS_indexOf 2 (some .int) :: ur_G
abbrev yS_indexOf2 : MethodName := ⟨"java/lang/String", "indexOf", "(II)I"⟩
abbrev cS_indexOf2 : ByteArray := prog_14_method_80_code
abbrev wsS_indexOf2 : List Cond := .code yS_indexOf2 cS_indexOf2 3 (some .int) :: ur_G
abbrev yZ_indexOf : MethodName := ⟨"java/lang/StringLatin1", "indexOf", "([BIII)I"⟩
abbrev cZ_indexOf : ByteArray := prog_15_method_22_code
abbrev wsZ_indexOf : List Cond := .code yZ_indexOf cZ_indexOf 4 (some .int) :: ur_G
abbrev yZ_canEncode : MethodName := ⟨"java/lang/StringLatin1", "canEncode", "(I)Z"⟩
abbrev cZ_canEncode : ByteArray := prog_15_method_4_code
abbrev wsZ_canEncode : List Cond := .code yZ_canEncode cZ_canEncode 1 (some .boolean) :: ur_G
abbrev yZ_indexOfChar : MethodName := ⟨"java/lang/StringLatin1", "indexOfChar", "([BIII)I"⟩
abbrev cZ_indexOfChar : ByteArray := prog_15_method_23_code
abbrev wsZ_indexOfChar : List Cond := .code yZ_indexOfChar cZ_indexOfChar 6 (some .int) :: ur_G
abbrev yS_checkBoundsBeginEnd : MethodName := ⟨"java/lang/String", "checkBoundsBeginEnd", "(III)V"⟩
abbrev cS_checkBoundsBeginEnd : ByteArray := prog_14_method_158_code
abbrev wsS_checkBoundsBeginEnd : List Cond := .code yS_checkBoundsBeginEnd cS_checkBoundsBeginEnd 3 none :: ur_G
abbrev yP_checkFromToIndex : MethodName := ⟨"jdk/internal/util/Preconditions", "checkFromToIndex", "(IIILjava/util/function/BiFunction;)I"⟩
abbrev cP_checkFromToIndex : ByteArray := prog_18_method_12_code
abbrev wsP_checkFromToIndex : List Cond := .code yP_checkFromToIndex cP_checkFromToIndex 4 (some .int) :: ur_G
abbrev yR_tell : MethodName := ⟨"UnitRoom$Reader", "tell", "()I"⟩
abbrev cR_tell : ByteArray := prog_7_method_6_code
abbrev wsR_tell : List Cond := .code yR_tell cR_tell 1 (some .int) :: ur_G
abbrev yU_unit : MethodName := ⟨"UnitRoom", "unit", "(I)I"⟩
abbrev cU_unit : ByteArray := prog_1_method_11_code
abbrev wsU_unit : List Cond := .code yU_unit cU_unit 3 (some .int) :: ur_G
abbrev yK_tell : MethodName := ⟨"UnitRoom$Disk", "tell", "()I"⟩
abbrev cK_tell : ByteArray := prog_4_method_4_code
abbrev wsK_tell : List Cond := .code yK_tell cK_tell 1 (some .int) :: ur_G
abbrev yT_tell : MethodName := ⟨"UnitRoom$Tape", "tell", "()I"⟩
abbrev cT_tell : ByteArray := prog_8_method_4_code
abbrev wsT_tell : List Cond := .code yT_tell cT_tell 1 (some .int) :: ur_G
abbrev yW_tell : MethodName := ⟨"UnitRoom$Writer", "tell", "()I"⟩
abbrev cW_tell : ByteArray := prog_9_method_5_code
abbrev wsW_tell : List Cond := .code yW_tell cW_tell 1 (some .int) :: ur_G
abbrev yU_letter : MethodName := ⟨"UnitRoom", "letter", "(III)I"⟩
abbrev cU_letter : ByteArray := prog_1_method_12_code
abbrev wsU_letter : List Cond := .code yU_letter cU_letter 6 (some .int) :: ur_G
abbrev yW_letterAt : MethodName := ⟨"UnitRoom$Writer", "letterAt", "(II)I"⟩
abbrev cW_letterAt : ByteArray := prog_9_method_2_code
abbrev wsW_letterAt : List Cond := .code yW_letterAt cW_letterAt 4 (some .int) :: ur_G
abbrev yU_block : MethodName := ⟨"UnitRoom", "block", "(III)I"⟩
abbrev cU_block : ByteArray := prog_1_method_13_code
abbrev wsU_block : List Cond := .code yU_block cU_block 6 (some .int) :: ur_G
abbrev yF_init : MethodName := ⟨"UnitRoomModel", "<init>", "()V"⟩
abbrev cF_init : ByteArray := prog_11_method_1_code
abbrev wsF_init : List Cond := .code yF_init cF_init 1 none :: ur_G
abbrev yF_feed : MethodName := ⟨"UnitRoomModel", "feed", "(IIIII)Z"⟩
abbrev cF_feed : ByteArray := prog_11_method_5_code
abbrev wsF_feed : List Cond := .code yF_feed cF_feed 8 (some .boolean) :: ur_G
abbrev yF_end : MethodName := ⟨"UnitRoomModel", "end", "(I)Z"⟩
abbrev cF_end : ByteArray := prog_11_method_6_code
abbrev wsF_end : List Cond := .code yF_end cF_end 2 (some .boolean) :: ur_G
abbrev yF_in : MethodName := ⟨"UnitRoomModel", "in", "(III)Z"⟩
abbrev cF_in : ByteArray := prog_11_method_3_code
abbrev wsF_in : List Cond := .code yF_in cF_in 3 (some .boolean) :: ur_G
abbrev yF_set : MethodName := ⟨"UnitRoomModel", "set", "(IIZ)Z"⟩
abbrev cF_set : ByteArray := prog_11_method_7_code
abbrev wsF_set : List Cond := .code yF_set cF_set 5 (some .boolean) :: ur_G
abbrev yF_fill : MethodName := ⟨"UnitRoomModel", "fill", "(III)Z"⟩
abbrev cF_fill : ByteArray := prog_11_method_8_code
abbrev wsF_fill : List Cond := .code yF_fill cF_fill 5 (some .boolean) :: ur_G
abbrev yF_word : MethodName := ⟨"UnitRoomModel", "word", "(I)I"⟩
abbrev cF_word : ByteArray := prog_11_method_9_code
abbrev wsF_word : List Cond := .code yF_word cF_word 2 (some .int) :: ur_G
abbrev yF_told : MethodName := ⟨"UnitRoomModel", "told", "(I)I"⟩
abbrev cF_told : ByteArray := prog_11_method_4_code
abbrev wsF_told : List Cond := .code yF_told cF_told 2 (some .int) :: ur_G
abbrev yF_operate : MethodName := ⟨"UnitRoomModel", "operate", "(IIII)I"⟩
abbrev cF_operate : ByteArray := prog_11_method_24_code
abbrev wsF_operate : List Cond := .code yF_operate cF_operate 7 (some .int) :: ur_G
abbrev yF_placeOf : MethodName := ⟨"UnitRoomModel", "placeOf", "(I)I"⟩
abbrev cF_placeOf : ByteArray := prog_11_method_10_code
abbrev wsF_placeOf : List Cond := .code yF_placeOf cF_placeOf 1 (some .int) :: ur_G
abbrev yF_fault : MethodName := ⟨"UnitRoomModel", "fault", "(IIII)I"⟩
abbrev cF_fault : ByteArray := prog_11_method_14_code
abbrev wsF_fault : List Cond := .code yF_fault cF_fault 7 (some .int) :: ur_G
abbrev yF_wordsOf : MethodName := ⟨"UnitRoomModel", "wordsOf", "(I)I"⟩
abbrev cF_wordsOf : ByteArray := prog_11_method_11_code
abbrev wsF_wordsOf : List Cond := .code yF_wordsOf cF_wordsOf 1 (some .int) :: ur_G
abbrev yF_can : MethodName := ⟨"UnitRoomModel", "can", "(III)Z"⟩
abbrev cF_can : ByteArray := prog_11_method_13_code
abbrev wsF_can : List Cond := .code yF_can cF_can 3 (some .boolean) :: ur_G
abbrev yF_goOn : MethodName := ⟨"UnitRoomModel", "goOn", "(J)V"⟩
abbrev cF_goOn : ByteArray := prog_11_method_16_code
abbrev wsF_goOn : List Cond := .code yF_goOn cF_goOn 6 none :: ur_G
abbrev yF_isAhead : MethodName := ⟨"UnitRoomModel", "isAhead", "(II)Z"⟩
abbrev cF_isAhead : ByteArray := prog_11_method_15_code
abbrev wsF_isAhead : List Cond := .code yF_isAhead cF_isAhead 3 (some .boolean) :: ur_G
abbrev yF_timeOf : MethodName := ⟨"UnitRoomModel", "timeOf", "(I)I"⟩
abbrev cF_timeOf : ByteArray := prog_11_method_12_code
abbrev wsF_timeOf : List Cond := .code yF_timeOf cF_timeOf 1 (some .int) :: ur_G
abbrev yF_control : MethodName := ⟨"UnitRoomModel", "control", "(II)V"⟩
abbrev cF_control : ByteArray := prog_11_method_23_code
abbrev wsF_control : List Cond := .code yF_control cF_control 5 none :: ur_G
abbrev yF_feedForm : MethodName := ⟨"UnitRoomModel", "feedForm", "()V"⟩
abbrev cF_feedForm : ByteArray := prog_11_method_21_code
abbrev wsF_feedForm : List Cond := .code yF_feedForm cF_feedForm 2 none :: ur_G
abbrev yF_useBlock : MethodName := ⟨"UnitRoomModel", "useBlock", "(IIII)V"⟩
abbrev cF_useBlock : ByteArray := prog_11_method_22_code
abbrev wsF_useBlock : List Cond := .code yF_useBlock cF_useBlock 7 none :: ur_G
abbrev yF_readCard : MethodName := ⟨"UnitRoomModel", "readCard", "()V"⟩
abbrev cF_readCard : ByteArray := prog_11_method_18_code
abbrev wsF_readCard : List Cond := .code yF_readCard cF_readCard 4 none :: ur_G
abbrev yF_code : MethodName := ⟨"UnitRoomModel", "code", "(I)I"⟩
abbrev cF_code : ByteArray := prog_11_method_17_code
abbrev wsF_code : List Cond := .code yF_code cF_code 5 (some .int) :: ur_G
abbrev yF_writeLine : MethodName := ⟨"UnitRoomModel", "writeLine", "(II)V"⟩
abbrev cF_writeLine : ByteArray := prog_11_method_20_code
abbrev wsF_writeLine : List Cond := .code yF_writeLine cF_writeLine 7 none :: ur_G
abbrev yF_letterOf : MethodName := ⟨"UnitRoomModel", "letterOf", "(I)I"⟩
abbrev cF_letterOf : ByteArray := prog_11_method_19_code
abbrev wsF_letterOf : List Cond := .code yF_letterOf cF_letterOf 2 (some .int) :: ur_G
abbrev yF_isBusy : MethodName := ⟨"UnitRoomModel", "isBusy", "(I)Z"⟩
abbrev cF_isBusy : ByteArray := prog_11_method_25_code
abbrev wsF_isBusy : List Cond := .code yF_isBusy cF_isBusy 3 (some .boolean) :: ur_G
abbrev yF_pass : MethodName := ⟨"UnitRoomModel", "pass", "(I)J"⟩
abbrev cF_pass : ByteArray := prog_11_method_26_code
abbrev wsF_pass : List Cond := .code yF_pass cF_pass 2 (some .long) :: ur_G
abbrev yF_card : MethodName := ⟨"UnitRoomModel", "card", "()I"⟩
abbrev cF_card : ByteArray := prog_11_method_27_code
abbrev wsF_card : List Cond := .code yF_card cF_card 3 (some .int) :: ur_G
abbrev yF_unit : MethodName := ⟨"UnitRoomModel", "unit", "(I)I"⟩
abbrev cF_unit : ByteArray := prog_11_method_28_code
abbrev wsF_unit : List Cond := .code yF_unit cF_unit 3 (some .int) :: ur_G
abbrev yF_letter : MethodName := ⟨"UnitRoomModel", "letter", "(III)I"⟩
abbrev cF_letter : ByteArray := prog_11_method_29_code
abbrev wsF_letter : List Cond := .code yF_letter cF_letter 5 (some .int) :: ur_G
abbrev yF_block : MethodName := ⟨"UnitRoomModel", "block", "(III)I"⟩
abbrev cF_block : ByteArray := prog_11_method_30_code
abbrev wsF_block : List Cond := .code yF_block cF_block 5 (some .int) :: ur_G
abbrev cL_law : ByteArray := code
theorem ms0 : Cond.selects "UnitRoom" ⟨"UnitRoom", "deviceOf", "(I)LUnitRoom$Device;"⟩ ⟨"UnitRoom", "deviceOf", "(I)LUnitRoom$Device;"⟩ ∈ ur_G := ur_mem 0 (by first | rfl | decide +kernel) (by decide +kernel)
theorem ms1 : Cond.selects "UnitRoom" ⟨"UnitRoom", "faultOf", "(LUnitRoom$Device;III)I"⟩ ⟨"UnitRoom", "faultOf", "(LUnitRoom$Device;III)I"⟩ ∈ ur_G := ur_mem 1 (by first | rfl | decide +kernel) (by decide +kernel)
theorem ms2 : Cond.selects "UnitRoom" ⟨"UnitRoom", "goOnTo", "(J)V"⟩ ⟨"UnitRoom", "goOnTo", "(J)V"⟩ ∈ ur_G := ur_mem 2 (by first | rfl | decide +kernel) (by decide +kernel)
theorem ms3 : Cond.selects "UnitRoom" ⟨"UnitRoom", "nextDone", "()LUnitRoom$Device;"⟩ ⟨"UnitRoom", "nextDone", "()LUnitRoom$Device;"⟩ ∈ ur_G := ur_mem 3 (by first | rfl | decide +kernel) (by decide +kernel)
theorem ms4 : Cond.selects "UnitRoom$Tape" ⟨"UnitRoom$Tape", "positionAfter", "(I)I"⟩ ⟨"UnitRoom$Tape", "positionAfter", "(I)I"⟩ ∈ ur_G := ur_mem 4 (by first | rfl | decide +kernel) (by decide +kernel)
theorem ms5 : Cond.selects "UnitRoom$Writer" ⟨"UnitRoom$Writer", "lineOf", "(ILUnitRoom$Memory;)[B"⟩ ⟨"UnitRoom$Writer", "lineOf", "(ILUnitRoom$Memory;)[B"⟩ ∈ ur_G := ur_mem 5 (by first | rfl | decide +kernel) (by decide +kernel)
theorem ms6 : Cond.selects "UnitRoom$Writer" ⟨"UnitRoom$Writer", "lengthWithoutBlanks", "(ILUnitRoom$Memory;)I"⟩ ⟨"UnitRoom$Writer", "lengthWithoutBlanks", "(ILUnitRoom$Memory;)I"⟩ ∈ ur_G := ur_mem 6 (by first | rfl | decide +kernel) (by decide +kernel)
theorem ms7 : Cond.selects "UnitRoomModel" ⟨"UnitRoomModel", "fault", "(IIII)I"⟩ ⟨"UnitRoomModel", "fault", "(IIII)I"⟩ ∈ ur_G := ur_mem 7 (by first | rfl | decide +kernel) (by decide +kernel)
theorem ms8 : Cond.selects "UnitRoomModel" ⟨"UnitRoomModel", "goOn", "(J)V"⟩ ⟨"UnitRoomModel", "goOn", "(J)V"⟩ ∈ ur_G := ur_mem 8 (by first | rfl | decide +kernel) (by decide +kernel)
theorem ms9 : Cond.selects "UnitRoomModel" ⟨"UnitRoomModel", "isAhead", "(II)Z"⟩ ⟨"UnitRoomModel", "isAhead", "(II)Z"⟩ ∈ ur_G := ur_mem 9 (by first | rfl | decide +kernel) (by decide +kernel)
theorem ms10 : Cond.selects "UnitRoomModel" ⟨"UnitRoomModel", "control", "(II)V"⟩ ⟨"UnitRoomModel", "control", "(II)V"⟩ ∈ ur_G := ur_mem 10 (by first | rfl | decide +kernel) (by decide +kernel)
theorem ms11 : Cond.selects "UnitRoomModel" ⟨"UnitRoomModel", "feedForm", "()V"⟩ ⟨"UnitRoomModel", "feedForm", "()V"⟩ ∈ ur_G := ur_mem 11 (by first | rfl | decide +kernel) (by decide +kernel)
theorem ms12 : Cond.selects "UnitRoomModel" ⟨"UnitRoomModel", "useBlock", "(IIII)V"⟩ ⟨"UnitRoomModel", "useBlock", "(IIII)V"⟩ ∈ ur_G := ur_mem 12 (by first | rfl | decide +kernel) (by decide +kernel)
theorem ms13 : Cond.selects "UnitRoomModel" ⟨"UnitRoomModel", "readCard", "()V"⟩ ⟨"UnitRoomModel", "readCard", "()V"⟩ ∈ ur_G := ur_mem 13 (by first | rfl | decide +kernel) (by decide +kernel)
theorem ms14 : Cond.selects "UnitRoomModel" ⟨"UnitRoomModel", "code", "(I)I"⟩ ⟨"UnitRoomModel", "code", "(I)I"⟩ ∈ ur_G := ur_mem 14 (by first | rfl | decide +kernel) (by decide +kernel)
theorem ms15 : Cond.selects "UnitRoomModel" ⟨"UnitRoomModel", "writeLine", "(II)V"⟩ ⟨"UnitRoomModel", "writeLine", "(II)V"⟩ ∈ ur_G := ur_mem 15 (by first | rfl | decide +kernel) (by decide +kernel)
theorem ms16 : Cond.selects "UnitRoomModel" ⟨"UnitRoomModel", "letterOf", "(I)I"⟩ ⟨"UnitRoomModel", "letterOf", "(I)I"⟩ ∈ ur_G := ur_mem 16 (by first | rfl | decide +kernel) (by decide +kernel)
theorem mw0 : (Jvm.Cond.initialized "UnitRoomLaw") ∈ ur_G := ur_mem 17 (by first | rfl | decide +kernel) (by decide +kernel)
theorem mw1 : (Jvm.Cond.initialized "UnitRoom") ∈ ur_G := ur_mem 18 (by first | rfl | decide +kernel) (by decide +kernel)
theorem mw2 : (Jvm.Cond.initialized "UnitRoom$Memory") ∈ ur_G := ur_mem 19 (by first | rfl | decide +kernel) (by decide +kernel)
theorem mw3 : (Jvm.Cond.initialized "UnitRoom$InputTape") ∈ ur_G := ur_mem 20 (by first | rfl | decide +kernel) (by decide +kernel)
theorem mw4 : (Jvm.Cond.initialized "UnitRoom$Device") ∈ ur_G := ur_mem 21 (by first | rfl | decide +kernel) (by decide +kernel)
theorem mw5 : (Jvm.Cond.initialized "UnitRoom$Reader") ∈ ur_G := ur_mem 22 (by first | rfl | decide +kernel) (by decide +kernel)
theorem mw6 : (Jvm.Cond.initialized "java/lang/Math") ∈ ur_G := ur_mem 23 (by first | rfl | decide +kernel) (by decide +kernel)
theorem mw7 : (Jvm.Cond.initialized "UnitRoom$BlockDevice") ∈ ur_G := ur_mem 24 (by first | rfl | decide +kernel) (by decide +kernel)
theorem mw8 : (Jvm.Cond.initialized "UnitRoom$Tape") ∈ ur_G := ur_mem 25 (by first | rfl | decide +kernel) (by decide +kernel)
theorem mw9 : (Jvm.Cond.initialized "UnitRoom$Disk") ∈ ur_G := ur_mem 26 (by first | rfl | decide +kernel) (by decide +kernel)
theorem mw10 : (Jvm.Cond.initialized "UnitRoom$Writer") ∈ ur_G := ur_mem 27 (by first | rfl | decide +kernel) (by decide +kernel)
theorem mw11 : (Jvm.Cond.initialized "UnitRoomModel") ∈ ur_G := ur_mem 28 (by first | rfl | decide +kernel) (by decide +kernel)
theorem mw12 : (Jvm.Cond.initialized "java/lang/System") ∈ ur_G := ur_mem 29 (by first | rfl | decide +kernel) (by decide +kernel)
theorem mw13 : (Jvm.Cond.initialized "java/lang/String") ∈ ur_G := ur_mem 30 (by first | rfl | decide +kernel) (by decide +kernel)
theorem mw14 : (Jvm.Cond.initialized "java/lang/StringLatin1") ∈ ur_G := ur_mem 31 (by first | rfl | decide +kernel) (by decide +kernel)
theorem mw15 : (Jvm.Cond.initialized "jdk/internal/util/Preconditions") ∈ ur_G := ur_mem 32 (by first | rfl | decide +kernel) (by decide +kernel)
theorem mw18 : (Jvm.Cond.classLink "UnitRoomLaw" (7 : Nat) "UnitRoom") ∈ ur_G := ur_mem 35 (by first | rfl | decide +kernel) (by decide +kernel)
theorem mw19 : (Jvm.Cond.instantiable "UnitRoom" (6 : Nat)) ∈ ur_G := ur_mem 36 (by first | rfl | decide +kernel) (by decide +kernel)
theorem mw20 : (Jvm.Cond.methodLink "UnitRoomLaw" (9 : Nat) ({ cls := "UnitRoom", name := "<init>", desc := "()V" } : Jvm.MethodName)) ∈ ur_G := ur_mem 37 (by first | rfl | decide +kernel) (by decide +kernel)
theorem mw21 : (Jvm.Cond.instanceMethod ({ cls := "UnitRoom", name := "<init>", desc := "()V" } : Jvm.MethodName)) ∈ ur_G := ur_mem 38 (by first | rfl | decide +kernel) (by decide +kernel)
theorem mw22 : (Jvm.Cond.code ({ cls := "UnitRoom", name := "<init>", desc := "()V" } : Jvm.MethodName) prog_1_method_1_code (2 : Nat) (Option.none : Option Jvm.ClassFile.FieldType)) ∈ ur_G := ur_mem 39 (by first | rfl | decide +kernel) (by decide +kernel)
theorem mw23 : (Jvm.Cond.methodLink "UnitRoom" (1 : Nat) ({ cls := "java/lang/Object", name := "<init>", desc := "()V" } : Jvm.MethodName)) ∈ ur_G := ur_mem 40 (by first | rfl | decide +kernel) (by decide +kernel)
theorem mw24 : (Jvm.Cond.instanceMethod ({ cls := "java/lang/Object", name := "<init>", desc := "()V" } : Jvm.MethodName)) ∈ ur_G := ur_mem 41 (by first | rfl | decide +kernel) (by decide +kernel)
theorem mw25 : (Jvm.Cond.code ({ cls := "java/lang/Object", name := "<init>", desc := "()V" } : Jvm.MethodName) object_method_1_code (1 : Nat) (Option.none : Option Jvm.ClassFile.FieldType)) ∈ ur_G := ur_mem 42 (by first | rfl | decide +kernel) (by decide +kernel)
theorem mw26 : (Jvm.Cond.classLink "UnitRoom" (7 : Nat) "UnitRoom$Memory") ∈ ur_G := ur_mem 43 (by first | rfl | decide +kernel) (by decide +kernel)
theorem mw27 : (Jvm.Cond.instantiable "UnitRoom$Memory" (1 : Nat)) ∈ ur_G := ur_mem 44 (by first | rfl | decide +kernel) (by decide +kernel)
theorem mw29 : (Jvm.Cond.instanceMethod ({ cls := "UnitRoom$Memory", name := "<init>", desc := "()V" } : Jvm.MethodName)) ∈ ur_G := ur_mem 46 (by first | rfl | decide +kernel) (by decide +kernel)
theorem mw30 : (Jvm.Cond.code ({ cls := "UnitRoom$Memory", name := "<init>", desc := "()V" } : Jvm.MethodName) prog_6_method_1_code (1 : Nat) (Option.none : Option Jvm.ClassFile.FieldType)) ∈ ur_G := ur_mem 47 (by first | rfl | decide +kernel) (by decide +kernel)
theorem mw31 : (Jvm.Cond.methodLink "UnitRoom$Memory" (3 : Nat) ({ cls := "java/lang/Object", name := "<init>", desc := "()V" } : Jvm.MethodName)) ∈ ur_G := ur_mem 48 (by first | rfl | decide +kernel) (by decide +kernel)
theorem mw32 : (Jvm.Cond.fieldLink "UnitRoom$Memory" (9 : Nat) "UnitRoom$Memory" "cells" "[I") ∈ ur_G := ur_mem 49 (by first | rfl | decide +kernel) (by decide +kernel)
theorem mw36 : (Jvm.Cond.arrayClass Jvm.ClassFile.FieldType.int) ∈ ur_G := ur_mem 53 (by first | rfl | decide +kernel) (by decide +kernel)
theorem mw37 : (Jvm.Cond.classLink "UnitRoom" (16 : Nat) "UnitRoom$InputTape") ∈ ur_G := ur_mem 54 (by first | rfl | decide +kernel) (by decide +kernel)
theorem mw38 : (Jvm.Cond.instantiable "UnitRoom$InputTape" (2 : Nat)) ∈ ur_G := ur_mem 55 (by first | rfl | decide +kernel) (by decide +kernel)
theorem mw40 : (Jvm.Cond.instanceMethod ({ cls := "UnitRoom$InputTape", name := "<init>", desc := "()V" } : Jvm.MethodName)) ∈ ur_G := ur_mem 57 (by first | rfl | decide +kernel) (by decide +kernel)
theorem mw41 : (Jvm.Cond.code ({ cls := "UnitRoom$InputTape", name := "<init>", desc := "()V" } : Jvm.MethodName) prog_5_method_1_code (1 : Nat) (Option.none : Option Jvm.ClassFile.FieldType)) ∈ ur_G := ur_mem 58 (by first | rfl | decide +kernel) (by decide +kernel)
theorem mw42 : (Jvm.Cond.methodLink "UnitRoom$InputTape" (1 : Nat) ({ cls := "java/lang/Object", name := "<init>", desc := "()V" } : Jvm.MethodName)) ∈ ur_G := ur_mem 59 (by first | rfl | decide +kernel) (by decide +kernel)
theorem mw43 : (Jvm.Cond.fieldLink "UnitRoom$InputTape" (7 : Nat) "UnitRoom$InputTape" "bytes" "[B") ∈ ur_G := ur_mem 60 (by first | rfl | decide +kernel) (by decide +kernel)
theorem mw44 : (Jvm.Cond.fieldLink "UnitRoom$InputTape" (13 : Nat) "UnitRoom$InputTape" "length" "I") ∈ ur_G := ur_mem 61 (by first | rfl | decide +kernel) (by decide +kernel)
theorem mw50 : (Jvm.Cond.arrayClass Jvm.ClassFile.FieldType.byte) ∈ ur_G := ur_mem 67 (by first | rfl | decide +kernel) (by decide +kernel)
theorem mw51 : (Jvm.Cond.classLink "UnitRoom" (23 : Nat) "UnitRoom$Reader") ∈ ur_G := ur_mem 68 (by first | rfl | decide +kernel) (by decide +kernel)
theorem mw52 : (Jvm.Cond.instantiable "UnitRoom$Reader" (10 : Nat)) ∈ ur_G := ur_mem 69 (by first | rfl | decide +kernel) (by decide +kernel)
theorem mw53 : (Jvm.Cond.methodLink "UnitRoom" (25 : Nat) ({ cls := "UnitRoom$Reader", name := "<init>", desc := "()V" } : Jvm.MethodName)) ∈ ur_G := ur_mem 70 (by first | rfl | decide +kernel) (by decide +kernel)
theorem mw54 : (Jvm.Cond.instanceMethod ({ cls := "UnitRoom$Reader", name := "<init>", desc := "()V" } : Jvm.MethodName)) ∈ ur_G := ur_mem 71 (by first | rfl | decide +kernel) (by decide +kernel)
theorem mw55 : (Jvm.Cond.code ({ cls := "UnitRoom$Reader", name := "<init>", desc := "()V" } : Jvm.MethodName) prog_7_method_1_code (1 : Nat) (Option.none : Option Jvm.ClassFile.FieldType)) ∈ ur_G := ur_mem 72 (by first | rfl | decide +kernel) (by decide +kernel)
theorem mw56 : (Jvm.Cond.methodLink "UnitRoom$Reader" (5 : Nat) ({ cls := "UnitRoom$Device", name := "<init>", desc := "(II)V" } : Jvm.MethodName)) ∈ ur_G := ur_mem 73 (by first | rfl | decide +kernel) (by decide +kernel)
theorem mw57 : (Jvm.Cond.instanceMethod ({ cls := "UnitRoom$Device", name := "<init>", desc := "(II)V" } : Jvm.MethodName)) ∈ ur_G := ur_mem 74 (by first | rfl | decide +kernel) (by decide +kernel)
theorem mw58 : (Jvm.Cond.code ({ cls := "UnitRoom$Device", name := "<init>", desc := "(II)V" } : Jvm.MethodName) prog_3_method_1_code (3 : Nat) (Option.none : Option Jvm.ClassFile.FieldType)) ∈ ur_G := ur_mem 75 (by first | rfl | decide +kernel) (by decide +kernel)
theorem mw59 : (Jvm.Cond.methodLink "UnitRoom$Device" (1 : Nat) ({ cls := "java/lang/Object", name := "<init>", desc := "()V" } : Jvm.MethodName)) ∈ ur_G := ur_mem 76 (by first | rfl | decide +kernel) (by decide +kernel)
theorem mw60 : (Jvm.Cond.methodLink "UnitRoom$Device" (30 : Nat) ({ cls := "java/lang/Math", name := "max", desc := "(II)I" } : Jvm.MethodName)) ∈ ur_G := ur_mem 77 (by first | rfl | decide +kernel) (by decide +kernel)
theorem mw61 : (Jvm.Cond.static ({ cls := "java/lang/Math", name := "max", desc := "(II)I" } : Jvm.MethodName)) ∈ ur_G := ur_mem 78 (by first | rfl | decide +kernel) (by decide +kernel)
theorem mw62 : (Jvm.Cond.code ({ cls := "java/lang/Math", name := "max", desc := "(II)I" } : Jvm.MethodName) prog_13_method_65_code (2 : Nat) (Option.some Jvm.ClassFile.FieldType.int)) ∈ ur_G := ur_mem 79 (by first | rfl | decide +kernel) (by decide +kernel)
theorem mw63 : (Jvm.Cond.fieldLink "UnitRoom$Reader" (11 : Nat) "UnitRoom$Reader" "cards" "[I") ∈ ur_G := ur_mem 80 (by first | rfl | decide +kernel) (by decide +kernel)
theorem mw64 : (Jvm.Cond.fieldLink "UnitRoom$Reader" (15 : Nat) "UnitRoom$Reader" "first" "I") ∈ ur_G := ur_mem 81 (by first | rfl | decide +kernel) (by decide +kernel)
theorem mw65 : (Jvm.Cond.fieldLink "UnitRoom$Reader" (19 : Nat) "UnitRoom$Reader" "left" "I") ∈ ur_G := ur_mem 82 (by first | rfl | decide +kernel) (by decide +kernel)
theorem mw66 : (Jvm.Cond.fieldLink "UnitRoom$Device" (24 : Nat) "UnitRoom$Device" "words" "I") ∈ ur_G := ur_mem 83 (by first | rfl | decide +kernel) (by decide +kernel)
theorem mw67 : (Jvm.Cond.fieldLink "UnitRoom$Writer" (47 : Nat) "UnitRoom$Writer" "words" "I") ∈ ur_G := ur_mem 84 (by first | rfl | decide +kernel) (by decide +kernel)
theorem mw68 : (Jvm.Cond.sameField "UnitRoom$Writer" "UnitRoom$Device" "words" "I") ∈ ur_G := ur_mem 85 (by first | rfl | decide +kernel) (by decide +kernel)
theorem mw69 : (Jvm.Cond.fieldLink "UnitRoom" (137 : Nat) "UnitRoom$Device" "words" "I") ∈ ur_G := ur_mem 86 (by first | rfl | decide +kernel) (by decide +kernel)
theorem mw70 : (Jvm.Cond.fieldLink "UnitRoom$Device" (36 : Nat) "UnitRoom$Device" "brought" "[I") ∈ ur_G := ur_mem 87 (by first | rfl | decide +kernel) (by decide +kernel)
theorem mw71 : (Jvm.Cond.fieldLink "UnitRoom$BlockDevice" (18 : Nat) "UnitRoom$BlockDevice" "brought" "[I") ∈ ur_G := ur_mem 88 (by first | rfl | decide +kernel) (by decide +kernel)
theorem mw72 : (Jvm.Cond.sameField "UnitRoom$BlockDevice" "UnitRoom$Device" "brought" "[I") ∈ ur_G := ur_mem 89 (by first | rfl | decide +kernel) (by decide +kernel)
theorem mw73 : (Jvm.Cond.fieldLink "UnitRoom$Reader" (26 : Nat) "UnitRoom$Reader" "brought" "[I") ∈ ur_G := ur_mem 90 (by first | rfl | decide +kernel) (by decide +kernel)
theorem mw74 : (Jvm.Cond.sameField "UnitRoom$Reader" "UnitRoom$Device" "brought" "[I") ∈ ur_G := ur_mem 91 (by first | rfl | decide +kernel) (by decide +kernel)
theorem mw75 : (Jvm.Cond.fieldLink "UnitRoom$Device" (27 : Nat) "UnitRoom$Device" "duration" "I") ∈ ur_G := ur_mem 92 (by first | rfl | decide +kernel) (by decide +kernel)
theorem mw76 : (Jvm.Cond.fieldLink "UnitRoom$Device" (7 : Nat) "UnitRoom$Device" "freeAt" "J") ∈ ur_G := ur_mem 93 (by first | rfl | decide +kernel) (by decide +kernel)
theorem mw77 : (Jvm.Cond.fieldLink "UnitRoom" (91 : Nat) "UnitRoom$Device" "freeAt" "J") ∈ ur_G := ur_mem 94 (by first | rfl | decide +kernel) (by decide +kernel)
theorem mw78 : (Jvm.Cond.fieldLink "UnitRoom$Device" (13 : Nat) "UnitRoom$Device" "bringing" "Z") ∈ ur_G := ur_mem 95 (by first | rfl | decide +kernel) (by decide +kernel)
theorem mw79 : (Jvm.Cond.fieldLink "UnitRoom" (151 : Nat) "UnitRoom$Device" "bringing" "Z") ∈ ur_G := ur_mem 96 (by first | rfl | decide +kernel) (by decide +kernel)
theorem mw80 : (Jvm.Cond.fieldLink "UnitRoom$Device" (17 : Nat) "UnitRoom$Device" "turn" "I") ∈ ur_G := ur_mem 97 (by first | rfl | decide +kernel) (by decide +kernel)
theorem mw81 : (Jvm.Cond.fieldLink "UnitRoom$Device" (21 : Nat) "UnitRoom$Device" "target" "I") ∈ ur_G := ur_mem 98 (by first | rfl | decide +kernel) (by decide +kernel)
theorem mw103 : (Jvm.Cond.classLink "UnitRoom" (30 : Nat) "UnitRoom$Device") ∈ ur_G := ur_mem 120 (by first | rfl | decide +kernel) (by decide +kernel)
theorem mw105 : (Jvm.Cond.classLink "UnitRoom" (36 : Nat) "UnitRoom$Tape") ∈ ur_G := ur_mem 122 (by first | rfl | decide +kernel) (by decide +kernel)
theorem mw106 : (Jvm.Cond.instantiable "UnitRoom$Tape" (9 : Nat)) ∈ ur_G := ur_mem 123 (by first | rfl | decide +kernel) (by decide +kernel)
theorem mw107 : (Jvm.Cond.methodLink "UnitRoom" (38 : Nat) ({ cls := "UnitRoom$Tape", name := "<init>", desc := "()V" } : Jvm.MethodName)) ∈ ur_G := ur_mem 124 (by first | rfl | decide +kernel) (by decide +kernel)
theorem mw108 : (Jvm.Cond.instanceMethod ({ cls := "UnitRoom$Tape", name := "<init>", desc := "()V" } : Jvm.MethodName)) ∈ ur_G := ur_mem 125 (by first | rfl | decide +kernel) (by decide +kernel)
theorem mw109 : (Jvm.Cond.code ({ cls := "UnitRoom$Tape", name := "<init>", desc := "()V" } : Jvm.MethodName) prog_8_method_1_code (1 : Nat) (Option.none : Option Jvm.ClassFile.FieldType)) ∈ ur_G := ur_mem 126 (by first | rfl | decide +kernel) (by decide +kernel)
theorem mw110 : (Jvm.Cond.methodLink "UnitRoom$Tape" (3 : Nat) ({ cls := "UnitRoom$BlockDevice", name := "<init>", desc := "(I)V" } : Jvm.MethodName)) ∈ ur_G := ur_mem 127 (by first | rfl | decide +kernel) (by decide +kernel)
theorem mw111 : (Jvm.Cond.instanceMethod ({ cls := "UnitRoom$BlockDevice", name := "<init>", desc := "(I)V" } : Jvm.MethodName)) ∈ ur_G := ur_mem 128 (by first | rfl | decide +kernel) (by decide +kernel)
theorem mw112 : (Jvm.Cond.code ({ cls := "UnitRoom$BlockDevice", name := "<init>", desc := "(I)V" } : Jvm.MethodName) prog_2_method_1_code (2 : Nat) (Option.none : Option Jvm.ClassFile.FieldType)) ∈ ur_G := ur_mem 129 (by first | rfl | decide +kernel) (by decide +kernel)
theorem mw113 : (Jvm.Cond.methodLink "UnitRoom$BlockDevice" (5 : Nat) ({ cls := "UnitRoom$Device", name := "<init>", desc := "(II)V" } : Jvm.MethodName)) ∈ ur_G := ur_mem 130 (by first | rfl | decide +kernel) (by decide +kernel)
theorem mw114 : (Jvm.Cond.classLink "UnitRoom$BlockDevice" (11 : Nat) "[I") ∈ ur_G := ur_mem 131 (by first | rfl | decide +kernel) (by decide +kernel)
theorem mw116 : (Jvm.Cond.fieldLink "UnitRoom$Tape" (9 : Nat) "UnitRoom$Tape" "position" "I") ∈ ur_G := ur_mem 133 (by first | rfl | decide +kernel) (by decide +kernel)
theorem mw117 : (Jvm.Cond.fieldLink "UnitRoom$BlockDevice" (13 : Nat) "UnitRoom$BlockDevice" "blocks" "[[I") ∈ ur_G := ur_mem 134 (by first | rfl | decide +kernel) (by decide +kernel)
theorem mw130 : (Jvm.Cond.classLink "UnitRoom" (39 : Nat) "UnitRoom$Disk") ∈ ur_G := ur_mem 147 (by first | rfl | decide +kernel) (by decide +kernel)
theorem mw131 : (Jvm.Cond.instantiable "UnitRoom$Disk" (8 : Nat)) ∈ ur_G := ur_mem 148 (by first | rfl | decide +kernel) (by decide +kernel)
theorem mw132 : (Jvm.Cond.methodLink "UnitRoom" (41 : Nat) ({ cls := "UnitRoom$Disk", name := "<init>", desc := "()V" } : Jvm.MethodName)) ∈ ur_G := ur_mem 149 (by first | rfl | decide +kernel) (by decide +kernel)
theorem mw133 : (Jvm.Cond.instanceMethod ({ cls := "UnitRoom$Disk", name := "<init>", desc := "()V" } : Jvm.MethodName)) ∈ ur_G := ur_mem 150 (by first | rfl | decide +kernel) (by decide +kernel)
theorem mw134 : (Jvm.Cond.code ({ cls := "UnitRoom$Disk", name := "<init>", desc := "()V" } : Jvm.MethodName) prog_4_method_1_code (1 : Nat) (Option.none : Option Jvm.ClassFile.FieldType)) ∈ ur_G := ur_mem 151 (by first | rfl | decide +kernel) (by decide +kernel)
theorem mw135 : (Jvm.Cond.methodLink "UnitRoom$Disk" (3 : Nat) ({ cls := "UnitRoom$BlockDevice", name := "<init>", desc := "(I)V" } : Jvm.MethodName)) ∈ ur_G := ur_mem 152 (by first | rfl | decide +kernel) (by decide +kernel)
theorem mw145 : (Jvm.Cond.classLink "UnitRoom" (42 : Nat) "UnitRoom$Writer") ∈ ur_G := ur_mem 162 (by first | rfl | decide +kernel) (by decide +kernel)
theorem mw146 : (Jvm.Cond.instantiable "UnitRoom$Writer" (10 : Nat)) ∈ ur_G := ur_mem 163 (by first | rfl | decide +kernel) (by decide +kernel)
theorem mw147 : (Jvm.Cond.methodLink "UnitRoom" (44 : Nat) ({ cls := "UnitRoom$Writer", name := "<init>", desc := "(IIZ)V" } : Jvm.MethodName)) ∈ ur_G := ur_mem 164 (by first | rfl | decide +kernel) (by decide +kernel)
theorem mw148 : (Jvm.Cond.instanceMethod ({ cls := "UnitRoom$Writer", name := "<init>", desc := "(IIZ)V" } : Jvm.MethodName)) ∈ ur_G := ur_mem 165 (by first | rfl | decide +kernel) (by decide +kernel)
theorem mw149 : (Jvm.Cond.code ({ cls := "UnitRoom$Writer", name := "<init>", desc := "(IIZ)V" } : Jvm.MethodName) prog_9_method_1_code (4 : Nat) (Option.none : Option Jvm.ClassFile.FieldType)) ∈ ur_G := ur_mem 166 (by first | rfl | decide +kernel) (by decide +kernel)
theorem mw150 : (Jvm.Cond.methodLink "UnitRoom$Writer" (3 : Nat) ({ cls := "UnitRoom$Device", name := "<init>", desc := "(II)V" } : Jvm.MethodName)) ∈ ur_G := ur_mem 167 (by first | rfl | decide +kernel) (by decide +kernel)
theorem mw151 : (Jvm.Cond.classLink "UnitRoom$Writer" (11 : Nat) "[B") ∈ ur_G := ur_mem 168 (by first | rfl | decide +kernel) (by decide +kernel)
theorem mw153 : (Jvm.Cond.fieldLink "UnitRoom$Writer" (13 : Nat) "UnitRoom$Writer" "lines" "[[B") ∈ ur_G := ur_mem 170 (by first | rfl | decide +kernel) (by decide +kernel)
theorem mw154 : (Jvm.Cond.fieldLink "UnitRoom$Writer" (21 : Nat) "UnitRoom$Writer" "hasPages" "Z") ∈ ur_G := ur_mem 171 (by first | rfl | decide +kernel) (by decide +kernel)
theorem mw155 : (Jvm.Cond.fieldLink "UnitRoom$Writer" (17 : Nat) "UnitRoom$Writer" "written" "I") ∈ ur_G := ur_mem 172 (by first | rfl | decide +kernel) (by decide +kernel)
theorem mw170 : (Jvm.Cond.fieldLink "UnitRoom" (10 : Nat) "UnitRoom" "memory" "LUnitRoom$Memory;") ∈ ur_G := ur_mem 187 (by first | rfl | decide +kernel) (by decide +kernel)
theorem mw171 : (Jvm.Cond.fieldLink "UnitRoom" (19 : Nat) "UnitRoom" "input" "LUnitRoom$InputTape;") ∈ ur_G := ur_mem 188 (by first | rfl | decide +kernel) (by decide +kernel)
theorem mw172 : (Jvm.Cond.fieldLink "UnitRoom" (26 : Nat) "UnitRoom" "reader" "LUnitRoom$Reader;") ∈ ur_G := ur_mem 189 (by first | rfl | decide +kernel) (by decide +kernel)
theorem mw173 : (Jvm.Cond.fieldLink "UnitRoom" (32 : Nat) "UnitRoom" "devices" "[LUnitRoom$Device;") ∈ ur_G := ur_mem 190 (by first | rfl | decide +kernel) (by decide +kernel)
theorem mw174 : (Jvm.Cond.fieldLink "UnitRoom" (47 : Nat) "UnitRoom" "now" "J") ∈ ur_G := ur_mem 191 (by first | rfl | decide +kernel) (by decide +kernel)
theorem mw175 : (Jvm.Cond.fieldLink "UnitRoom" (51 : Nat) "UnitRoom" "begun" "I") ∈ ur_G := ur_mem 192 (by first | rfl | decide +kernel) (by decide +kernel)
theorem mw189 : (Jvm.Cond.methodLink "UnitRoomLaw" (13 : Nat) ({ cls := "UnitRoom", name := "feed", desc := "(IIIII)Z" } : Jvm.MethodName)) ∈ ur_G := ur_mem 206 (by first | rfl | decide +kernel) (by decide +kernel)
theorem mw190 : (Jvm.Cond.instanceMethod ({ cls := "UnitRoom", name := "feed", desc := "(IIIII)Z" } : Jvm.MethodName)) ∈ ur_G := ur_mem 207 (by first | rfl | decide +kernel) (by decide +kernel)
theorem mw191 : (Jvm.Cond.selects "UnitRoom" ({ cls := "UnitRoom", name := "feed", desc := "(IIIII)Z" } : Jvm.MethodName) ({ cls := "UnitRoom", name := "feed", desc := "(IIIII)Z" } : Jvm.MethodName)) ∈ ur_G := ur_mem 208 (by first | rfl | decide +kernel) (by decide +kernel)
theorem mw192 : (Jvm.Cond.code ({ cls := "UnitRoom", name := "feed", desc := "(IIIII)Z" } : Jvm.MethodName) prog_1_method_2_code (6 : Nat) (Option.some Jvm.ClassFile.FieldType.boolean)) ∈ ur_G := ur_mem 209 (by first | rfl | decide +kernel) (by decide +kernel)
theorem mw193 : (Jvm.Cond.methodLink "UnitRoom" (55 : Nat) ({ cls := "UnitRoom$InputTape", name := "hasRoom", desc := "()Z" } : Jvm.MethodName)) ∈ ur_G := ur_mem 210 (by first | rfl | decide +kernel) (by decide +kernel)
theorem mw194 : (Jvm.Cond.instanceMethod ({ cls := "UnitRoom$InputTape", name := "hasRoom", desc := "()Z" } : Jvm.MethodName)) ∈ ur_G := ur_mem 211 (by first | rfl | decide +kernel) (by decide +kernel)
theorem mw195 : (Jvm.Cond.selects "UnitRoom$InputTape" ({ cls := "UnitRoom$InputTape", name := "hasRoom", desc := "()Z" } : Jvm.MethodName) ({ cls := "UnitRoom$InputTape", name := "hasRoom", desc := "()Z" } : Jvm.MethodName)) ∈ ur_G := ur_mem 212 (by first | rfl | decide +kernel) (by decide +kernel)
theorem mw196 : (Jvm.Cond.code ({ cls := "UnitRoom$InputTape", name := "hasRoom", desc := "()Z" } : Jvm.MethodName) prog_5_method_2_code (1 : Nat) (Option.some Jvm.ClassFile.FieldType.boolean)) ∈ ur_G := ur_mem 213 (by first | rfl | decide +kernel) (by decide +kernel)
theorem mw197 : (Jvm.Cond.methodLink "UnitRoom" (59 : Nat) ({ cls := "UnitRoom$InputTape", name := "append", desc := "(I)V" } : Jvm.MethodName)) ∈ ur_G := ur_mem 214 (by first | rfl | decide +kernel) (by decide +kernel)
theorem mw198 : (Jvm.Cond.instanceMethod ({ cls := "UnitRoom$InputTape", name := "append", desc := "(I)V" } : Jvm.MethodName)) ∈ ur_G := ur_mem 215 (by first | rfl | decide +kernel) (by decide +kernel)
theorem mw199 : (Jvm.Cond.selects "UnitRoom$InputTape" ({ cls := "UnitRoom$InputTape", name := "append", desc := "(I)V" } : Jvm.MethodName) ({ cls := "UnitRoom$InputTape", name := "append", desc := "(I)V" } : Jvm.MethodName)) ∈ ur_G := ur_mem 216 (by first | rfl | decide +kernel) (by decide +kernel)
theorem mw200 : (Jvm.Cond.code ({ cls := "UnitRoom$InputTape", name := "append", desc := "(I)V" } : Jvm.MethodName) prog_5_method_3_code (3 : Nat) (Option.none : Option Jvm.ClassFile.FieldType)) ∈ ur_G := ur_mem 217 (by first | rfl | decide +kernel) (by decide +kernel)
theorem mw201 : (Jvm.Cond.methodLink "UnitRoomLaw" (18 : Nat) ({ cls := "UnitRoom", name := "end", desc := "(I)Z" } : Jvm.MethodName)) ∈ ur_G := ur_mem 218 (by first | rfl | decide +kernel) (by decide +kernel)
theorem mw202 : (Jvm.Cond.instanceMethod ({ cls := "UnitRoom", name := "end", desc := "(I)Z" } : Jvm.MethodName)) ∈ ur_G := ur_mem 219 (by first | rfl | decide +kernel) (by decide +kernel)
theorem mw203 : (Jvm.Cond.selects "UnitRoom" ({ cls := "UnitRoom", name := "end", desc := "(I)Z" } : Jvm.MethodName) ({ cls := "UnitRoom", name := "end", desc := "(I)Z" } : Jvm.MethodName)) ∈ ur_G := ur_mem 220 (by first | rfl | decide +kernel) (by decide +kernel)
theorem mw204 : (Jvm.Cond.code ({ cls := "UnitRoom", name := "end", desc := "(I)Z" } : Jvm.MethodName) prog_1_method_3_code (2 : Nat) (Option.some Jvm.ClassFile.FieldType.boolean)) ∈ ur_G := ur_mem 221 (by first | rfl | decide +kernel) (by decide +kernel)
theorem mw205 : (Jvm.Cond.methodLink "UnitRoom" (63 : Nat) ({ cls := "UnitRoom$InputTape", name := "cut", desc := "(I)Z" } : Jvm.MethodName)) ∈ ur_G := ur_mem 222 (by first | rfl | decide +kernel) (by decide +kernel)
theorem mw206 : (Jvm.Cond.instanceMethod ({ cls := "UnitRoom$InputTape", name := "cut", desc := "(I)Z" } : Jvm.MethodName)) ∈ ur_G := ur_mem 223 (by first | rfl | decide +kernel) (by decide +kernel)
theorem mw207 : (Jvm.Cond.selects "UnitRoom$InputTape" ({ cls := "UnitRoom$InputTape", name := "cut", desc := "(I)Z" } : Jvm.MethodName) ({ cls := "UnitRoom$InputTape", name := "cut", desc := "(I)Z" } : Jvm.MethodName)) ∈ ur_G := ur_mem 224 (by first | rfl | decide +kernel) (by decide +kernel)
theorem mw208 : (Jvm.Cond.code ({ cls := "UnitRoom$InputTape", name := "cut", desc := "(I)Z" } : Jvm.MethodName) prog_5_method_4_code (2 : Nat) (Option.some Jvm.ClassFile.FieldType.boolean)) ∈ ur_G := ur_mem 225 (by first | rfl | decide +kernel) (by decide +kernel)
theorem mw209 : (Jvm.Cond.methodLink "UnitRoomLaw" (23 : Nat) ({ cls := "UnitRoom", name := "set", desc := "(IIZ)Z" } : Jvm.MethodName)) ∈ ur_G := ur_mem 226 (by first | rfl | decide +kernel) (by decide +kernel)
theorem mw210 : (Jvm.Cond.instanceMethod ({ cls := "UnitRoom", name := "set", desc := "(IIZ)Z" } : Jvm.MethodName)) ∈ ur_G := ur_mem 227 (by first | rfl | decide +kernel) (by decide +kernel)
theorem mw211 : (Jvm.Cond.selects "UnitRoom" ({ cls := "UnitRoom", name := "set", desc := "(IIZ)Z" } : Jvm.MethodName) ({ cls := "UnitRoom", name := "set", desc := "(IIZ)Z" } : Jvm.MethodName)) ∈ ur_G := ur_mem 228 (by first | rfl | decide +kernel) (by decide +kernel)
theorem mw212 : (Jvm.Cond.code ({ cls := "UnitRoom", name := "set", desc := "(IIZ)Z" } : Jvm.MethodName) prog_1_method_4_code (4 : Nat) (Option.some Jvm.ClassFile.FieldType.boolean)) ∈ ur_G := ur_mem 229 (by first | rfl | decide +kernel) (by decide +kernel)
theorem mw213 : (Jvm.Cond.methodLink "UnitRoom" (67 : Nat) ({ cls := "UnitRoom$Memory", name := "holds", desc := "(II)Z" } : Jvm.MethodName)) ∈ ur_G := ur_mem 230 (by first | rfl | decide +kernel) (by decide +kernel)
theorem mw214 : (Jvm.Cond.instanceMethod ({ cls := "UnitRoom$Memory", name := "holds", desc := "(II)Z" } : Jvm.MethodName)) ∈ ur_G := ur_mem 231 (by first | rfl | decide +kernel) (by decide +kernel)
theorem mw215 : (Jvm.Cond.selects "UnitRoom$Memory" ({ cls := "UnitRoom$Memory", name := "holds", desc := "(II)Z" } : Jvm.MethodName) ({ cls := "UnitRoom$Memory", name := "holds", desc := "(II)Z" } : Jvm.MethodName)) ∈ ur_G := ur_mem 232 (by first | rfl | decide +kernel) (by decide +kernel)
theorem mw216 : (Jvm.Cond.code ({ cls := "UnitRoom$Memory", name := "holds", desc := "(II)Z" } : Jvm.MethodName) prog_6_method_2_code (3 : Nat) (Option.some Jvm.ClassFile.FieldType.boolean)) ∈ ur_G := ur_mem 233 (by first | rfl | decide +kernel) (by decide +kernel)
theorem mw217 : (Jvm.Cond.constant "UnitRoom" (71 : Nat) (-1073741824 : Int32)) ∈ ur_G := ur_mem 234 (by first | rfl | decide +kernel) (by decide +kernel)
theorem mw218 : (Jvm.Cond.constant "UnitRoom" (72 : Nat) (1073741824 : Int32)) ∈ ur_G := ur_mem 235 (by first | rfl | decide +kernel) (by decide +kernel)
theorem mw219 : (Jvm.Cond.constant "UnitRoom" (73 : Nat) (-2147483648 : Int32)) ∈ ur_G := ur_mem 236 (by first | rfl | decide +kernel) (by decide +kernel)
theorem mw220 : (Jvm.Cond.methodLink "UnitRoom" (74 : Nat) ({ cls := "UnitRoom$Memory", name := "put", desc := "(II)V" } : Jvm.MethodName)) ∈ ur_G := ur_mem 237 (by first | rfl | decide +kernel) (by decide +kernel)
theorem mw221 : (Jvm.Cond.instanceMethod ({ cls := "UnitRoom$Memory", name := "put", desc := "(II)V" } : Jvm.MethodName)) ∈ ur_G := ur_mem 238 (by first | rfl | decide +kernel) (by decide +kernel)
theorem mw222 : (Jvm.Cond.selects "UnitRoom$Memory" ({ cls := "UnitRoom$Memory", name := "put", desc := "(II)V" } : Jvm.MethodName) ({ cls := "UnitRoom$Memory", name := "put", desc := "(II)V" } : Jvm.MethodName)) ∈ ur_G := ur_mem 239 (by first | rfl | decide +kernel) (by decide +kernel)
theorem mw223 : (Jvm.Cond.code ({ cls := "UnitRoom$Memory", name := "put", desc := "(II)V" } : Jvm.MethodName) prog_6_method_4_code (3 : Nat) (Option.none : Option Jvm.ClassFile.FieldType)) ∈ ur_G := ur_mem 240 (by first | rfl | decide +kernel) (by decide +kernel)
theorem mw224 : (Jvm.Cond.methodLink "UnitRoom$Memory" (15 : Nat) ({ cls := "UnitRoom$Memory", name := "holds", desc := "(II)Z" } : Jvm.MethodName)) ∈ ur_G := ur_mem 241 (by first | rfl | decide +kernel) (by decide +kernel)
theorem mw225 : (Jvm.Cond.methodLink "UnitRoomLaw" (28 : Nat) ({ cls := "UnitRoom", name := "fill", desc := "(III)Z" } : Jvm.MethodName)) ∈ ur_G := ur_mem 242 (by first | rfl | decide +kernel) (by decide +kernel)
theorem mw226 : (Jvm.Cond.instanceMethod ({ cls := "UnitRoom", name := "fill", desc := "(III)Z" } : Jvm.MethodName)) ∈ ur_G := ur_mem 243 (by first | rfl | decide +kernel) (by decide +kernel)
theorem mw227 : (Jvm.Cond.selects "UnitRoom" ({ cls := "UnitRoom", name := "fill", desc := "(III)Z" } : Jvm.MethodName) ({ cls := "UnitRoom", name := "fill", desc := "(III)Z" } : Jvm.MethodName)) ∈ ur_G := ur_mem 244 (by first | rfl | decide +kernel) (by decide +kernel)
theorem mw228 : (Jvm.Cond.code ({ cls := "UnitRoom", name := "fill", desc := "(III)Z" } : Jvm.MethodName) prog_1_method_5_code (5 : Nat) (Option.some Jvm.ClassFile.FieldType.boolean)) ∈ ur_G := ur_mem 245 (by first | rfl | decide +kernel) (by decide +kernel)
theorem mw229 : (Jvm.Cond.constant "UnitRoom" (78 : Nat) (1073741823 : Int32)) ∈ ur_G := ur_mem 246 (by first | rfl | decide +kernel) (by decide +kernel)
theorem mw230 : (Jvm.Cond.methodLink "UnitRoomLaw" (33 : Nat) ({ cls := "UnitRoom", name := "word", desc := "(I)I" } : Jvm.MethodName)) ∈ ur_G := ur_mem 247 (by first | rfl | decide +kernel) (by decide +kernel)
theorem mw231 : (Jvm.Cond.instanceMethod ({ cls := "UnitRoom", name := "word", desc := "(I)I" } : Jvm.MethodName)) ∈ ur_G := ur_mem 248 (by first | rfl | decide +kernel) (by decide +kernel)
theorem mw232 : (Jvm.Cond.selects "UnitRoom" ({ cls := "UnitRoom", name := "word", desc := "(I)I" } : Jvm.MethodName) ({ cls := "UnitRoom", name := "word", desc := "(I)I" } : Jvm.MethodName)) ∈ ur_G := ur_mem 249 (by first | rfl | decide +kernel) (by decide +kernel)
theorem mw233 : (Jvm.Cond.code ({ cls := "UnitRoom", name := "word", desc := "(I)I" } : Jvm.MethodName) prog_1_method_6_code (2 : Nat) (Option.some Jvm.ClassFile.FieldType.int)) ∈ ur_G := ur_mem 250 (by first | rfl | decide +kernel) (by decide +kernel)
theorem mw234 : (Jvm.Cond.methodLink "UnitRoom" (79 : Nat) ({ cls := "UnitRoom$Memory", name := "at", desc := "(I)I" } : Jvm.MethodName)) ∈ ur_G := ur_mem 251 (by first | rfl | decide +kernel) (by decide +kernel)
theorem mw235 : (Jvm.Cond.instanceMethod ({ cls := "UnitRoom$Memory", name := "at", desc := "(I)I" } : Jvm.MethodName)) ∈ ur_G := ur_mem 252 (by first | rfl | decide +kernel) (by decide +kernel)
theorem mw236 : (Jvm.Cond.selects "UnitRoom$Memory" ({ cls := "UnitRoom$Memory", name := "at", desc := "(I)I" } : Jvm.MethodName) ({ cls := "UnitRoom$Memory", name := "at", desc := "(I)I" } : Jvm.MethodName)) ∈ ur_G := ur_mem 253 (by first | rfl | decide +kernel) (by decide +kernel)
theorem mw237 : (Jvm.Cond.code ({ cls := "UnitRoom$Memory", name := "at", desc := "(I)I" } : Jvm.MethodName) prog_6_method_3_code (2 : Nat) (Option.some Jvm.ClassFile.FieldType.int)) ∈ ur_G := ur_mem 254 (by first | rfl | decide +kernel) (by decide +kernel)
theorem mw238 : (Jvm.Cond.constant "UnitRoom$Memory" (19 : Nat) (2147483647 : Int32)) ∈ ur_G := ur_mem 255 (by first | rfl | decide +kernel) (by decide +kernel)
theorem mw239 : (Jvm.Cond.methodLink "UnitRoomLaw" (38 : Nat) ({ cls := "UnitRoom", name := "operate", desc := "(IIII)I" } : Jvm.MethodName)) ∈ ur_G := ur_mem 256 (by first | rfl | decide +kernel) (by decide +kernel)
theorem mw240 : (Jvm.Cond.instanceMethod ({ cls := "UnitRoom", name := "operate", desc := "(IIII)I" } : Jvm.MethodName)) ∈ ur_G := ur_mem 257 (by first | rfl | decide +kernel) (by decide +kernel)
theorem mw241 : (Jvm.Cond.selects "UnitRoom" ({ cls := "UnitRoom", name := "operate", desc := "(IIII)I" } : Jvm.MethodName) ({ cls := "UnitRoom", name := "operate", desc := "(IIII)I" } : Jvm.MethodName)) ∈ ur_G := ur_mem 258 (by first | rfl | decide +kernel) (by decide +kernel)
theorem mw242 : (Jvm.Cond.code ({ cls := "UnitRoom", name := "operate", desc := "(IIII)I" } : Jvm.MethodName) prog_1_method_7_code (7 : Nat) (Option.some Jvm.ClassFile.FieldType.int)) ∈ ur_G := ur_mem 259 (by first | rfl | decide +kernel) (by decide +kernel)
theorem mw243 : (Jvm.Cond.methodLink "UnitRoom" (83 : Nat) ({ cls := "UnitRoom", name := "deviceOf", desc := "(I)LUnitRoom$Device;" } : Jvm.MethodName)) ∈ ur_G := ur_mem 260 (by first | rfl | decide +kernel) (by decide +kernel)
theorem mw245 : (Jvm.Cond.instanceMethod ({ cls := "UnitRoom", name := "deviceOf", desc := "(I)LUnitRoom$Device;" } : Jvm.MethodName)) ∈ ur_G := ur_mem 262 (by first | rfl | decide +kernel) (by decide +kernel)
theorem mw246 : (Jvm.Cond.code ({ cls := "UnitRoom", name := "deviceOf", desc := "(I)LUnitRoom$Device;" } : Jvm.MethodName) prog_1_method_14_code (2 : Nat) (Option.some (Jvm.ClassFile.FieldType.object "UnitRoom$Device"))) ∈ ur_G := ur_mem 263 (by first | rfl | decide +kernel) (by decide +kernel)
theorem mw247 : (Jvm.Cond.methodLink "UnitRoom" (87 : Nat) ({ cls := "UnitRoom", name := "faultOf", desc := "(LUnitRoom$Device;III)I" } : Jvm.MethodName)) ∈ ur_G := ur_mem 264 (by first | rfl | decide +kernel) (by decide +kernel)
theorem mw249 : (Jvm.Cond.instanceMethod ({ cls := "UnitRoom", name := "faultOf", desc := "(LUnitRoom$Device;III)I" } : Jvm.MethodName)) ∈ ur_G := ur_mem 266 (by first | rfl | decide +kernel) (by decide +kernel)
theorem mw250 : (Jvm.Cond.code ({ cls := "UnitRoom", name := "faultOf", desc := "(LUnitRoom$Device;III)I" } : Jvm.MethodName) prog_1_method_15_code (6 : Nat) (Option.some Jvm.ClassFile.FieldType.int)) ∈ ur_G := ur_mem 267 (by first | rfl | decide +kernel) (by decide +kernel)
theorem mw251 : (Jvm.Cond.methodLink "UnitRoom" (140 : Nat) ({ cls := "UnitRoom$Device", name := "faultOf", desc := "(III)I" } : Jvm.MethodName)) ∈ ur_G := ur_mem 268 (by first | rfl | decide +kernel) (by decide +kernel)
theorem mw253 : (Jvm.Cond.sameMethod "UnitRoom$Device" "UnitRoom$Device" "faultOf" "(III)I") ∈ ur_G := ur_mem 270 (by first | rfl | decide +kernel) (by decide +kernel)
theorem mw254 : (Jvm.Cond.selects "UnitRoom$Disk" ({ cls := "UnitRoom$Device", name := "faultOf", desc := "(III)I" } : Jvm.MethodName) ({ cls := "UnitRoom$Disk", name := "faultOf", desc := "(III)I" } : Jvm.MethodName)) ∈ ur_G := ur_mem 271 (by first | rfl | decide +kernel) (by decide +kernel)
theorem mw255 : (Jvm.Cond.instanceMethod ({ cls := "UnitRoom$Disk", name := "faultOf", desc := "(III)I" } : Jvm.MethodName)) ∈ ur_G := ur_mem 272 (by first | rfl | decide +kernel) (by decide +kernel)
theorem mw256 : (Jvm.Cond.code ({ cls := "UnitRoom$Disk", name := "faultOf", desc := "(III)I" } : Jvm.MethodName) prog_4_method_2_code (4 : Nat) (Option.some Jvm.ClassFile.FieldType.int)) ∈ ur_G := ur_mem 273 (by first | rfl | decide +kernel) (by decide +kernel)
theorem mw257 : (Jvm.Cond.selects "UnitRoom$Reader" ({ cls := "UnitRoom$Device", name := "faultOf", desc := "(III)I" } : Jvm.MethodName) ({ cls := "UnitRoom$Reader", name := "faultOf", desc := "(III)I" } : Jvm.MethodName)) ∈ ur_G := ur_mem 274 (by first | rfl | decide +kernel) (by decide +kernel)
theorem mw258 : (Jvm.Cond.instanceMethod ({ cls := "UnitRoom$Reader", name := "faultOf", desc := "(III)I" } : Jvm.MethodName)) ∈ ur_G := ur_mem 275 (by first | rfl | decide +kernel) (by decide +kernel)
theorem mw259 : (Jvm.Cond.code ({ cls := "UnitRoom$Reader", name := "faultOf", desc := "(III)I" } : Jvm.MethodName) prog_7_method_4_code (4 : Nat) (Option.some Jvm.ClassFile.FieldType.int)) ∈ ur_G := ur_mem 276 (by first | rfl | decide +kernel) (by decide +kernel)
theorem mw260 : (Jvm.Cond.selects "UnitRoom$Tape" ({ cls := "UnitRoom$Device", name := "faultOf", desc := "(III)I" } : Jvm.MethodName) ({ cls := "UnitRoom$Tape", name := "faultOf", desc := "(III)I" } : Jvm.MethodName)) ∈ ur_G := ur_mem 277 (by first | rfl | decide +kernel) (by decide +kernel)
theorem mw261 : (Jvm.Cond.instanceMethod ({ cls := "UnitRoom$Tape", name := "faultOf", desc := "(III)I" } : Jvm.MethodName)) ∈ ur_G := ur_mem 278 (by first | rfl | decide +kernel) (by decide +kernel)
theorem mw262 : (Jvm.Cond.code ({ cls := "UnitRoom$Tape", name := "faultOf", desc := "(III)I" } : Jvm.MethodName) prog_8_method_2_code (4 : Nat) (Option.some Jvm.ClassFile.FieldType.int)) ∈ ur_G := ur_mem 279 (by first | rfl | decide +kernel) (by decide +kernel)
theorem mw263 : (Jvm.Cond.selects "UnitRoom$Writer" ({ cls := "UnitRoom$Device", name := "faultOf", desc := "(III)I" } : Jvm.MethodName) ({ cls := "UnitRoom$Writer", name := "faultOf", desc := "(III)I" } : Jvm.MethodName)) ∈ ur_G := ur_mem 280 (by first | rfl | decide +kernel) (by decide +kernel)
theorem mw264 : (Jvm.Cond.instanceMethod ({ cls := "UnitRoom$Writer", name := "faultOf", desc := "(III)I" } : Jvm.MethodName)) ∈ ur_G := ur_mem 281 (by first | rfl | decide +kernel) (by decide +kernel)
theorem mw265 : (Jvm.Cond.code ({ cls := "UnitRoom$Writer", name := "faultOf", desc := "(III)I" } : Jvm.MethodName) prog_9_method_3_code (5 : Nat) (Option.some Jvm.ClassFile.FieldType.int)) ∈ ur_G := ur_mem 282 (by first | rfl | decide +kernel) (by decide +kernel)
theorem mw266 : (Jvm.Cond.methodLink "UnitRoom" (94 : Nat) ({ cls := "java/lang/Math", name := "max", desc := "(JJ)J" } : Jvm.MethodName)) ∈ ur_G := ur_mem 283 (by first | rfl | decide +kernel) (by decide +kernel)
theorem mw267 : (Jvm.Cond.static ({ cls := "java/lang/Math", name := "max", desc := "(JJ)J" } : Jvm.MethodName)) ∈ ur_G := ur_mem 284 (by first | rfl | decide +kernel) (by decide +kernel)
theorem mw268 : (Jvm.Cond.code ({ cls := "java/lang/Math", name := "max", desc := "(JJ)J" } : Jvm.MethodName) prog_13_method_66_code (4 : Nat) (Option.some Jvm.ClassFile.FieldType.long)) ∈ ur_G := ur_mem 285 (by first | rfl | decide +kernel) (by decide +kernel)
theorem mw269 : (Jvm.Cond.methodLink "UnitRoom" (100 : Nat) ({ cls := "UnitRoom", name := "goOnTo", desc := "(J)V" } : Jvm.MethodName)) ∈ ur_G := ur_mem 286 (by first | rfl | decide +kernel) (by decide +kernel)
theorem mw271 : (Jvm.Cond.instanceMethod ({ cls := "UnitRoom", name := "goOnTo", desc := "(J)V" } : Jvm.MethodName)) ∈ ur_G := ur_mem 288 (by first | rfl | decide +kernel) (by decide +kernel)
theorem mw272 : (Jvm.Cond.code ({ cls := "UnitRoom", name := "goOnTo", desc := "(J)V" } : Jvm.MethodName) prog_1_method_16_code (5 : Nat) (Option.none : Option Jvm.ClassFile.FieldType)) ∈ ur_G := ur_mem 289 (by first | rfl | decide +kernel) (by decide +kernel)
theorem mw273 : (Jvm.Cond.methodLink "UnitRoom" (143 : Nat) ({ cls := "UnitRoom", name := "nextDone", desc := "()LUnitRoom$Device;" } : Jvm.MethodName)) ∈ ur_G := ur_mem 290 (by first | rfl | decide +kernel) (by decide +kernel)
theorem mw275 : (Jvm.Cond.instanceMethod ({ cls := "UnitRoom", name := "nextDone", desc := "()LUnitRoom$Device;" } : Jvm.MethodName)) ∈ ur_G := ur_mem 292 (by first | rfl | decide +kernel) (by decide +kernel)
theorem mw276 : (Jvm.Cond.code ({ cls := "UnitRoom", name := "nextDone", desc := "()LUnitRoom$Device;" } : Jvm.MethodName) prog_1_method_17_code (4 : Nat) (Option.some (Jvm.ClassFile.FieldType.object "UnitRoom$Device"))) ∈ ur_G := ur_mem 293 (by first | rfl | decide +kernel) (by decide +kernel)
theorem mw277 : (Jvm.Cond.methodLink "UnitRoom" (155 : Nat) ({ cls := "UnitRoom$Device", name := "isDoneAheadOf", desc := "(LUnitRoom$Device;)Z" } : Jvm.MethodName)) ∈ ur_G := ur_mem 294 (by first | rfl | decide +kernel) (by decide +kernel)
theorem mw278 : (Jvm.Cond.instanceMethod ({ cls := "UnitRoom$Device", name := "isDoneAheadOf", desc := "(LUnitRoom$Device;)Z" } : Jvm.MethodName)) ∈ ur_G := ur_mem 295 (by first | rfl | decide +kernel) (by decide +kernel)
theorem mw279 : (Jvm.Cond.sameMethod "UnitRoom$Device" "UnitRoom$Device" "isDoneAheadOf" "(LUnitRoom$Device;)Z") ∈ ur_G := ur_mem 296 (by first | rfl | decide +kernel) (by decide +kernel)
theorem mw280 : (Jvm.Cond.selects "UnitRoom$Disk" ({ cls := "UnitRoom$Device", name := "isDoneAheadOf", desc := "(LUnitRoom$Device;)Z" } : Jvm.MethodName) ({ cls := "UnitRoom$Device", name := "isDoneAheadOf", desc := "(LUnitRoom$Device;)Z" } : Jvm.MethodName)) ∈ ur_G := ur_mem 297 (by first | rfl | decide +kernel) (by decide +kernel)
theorem mw281 : (Jvm.Cond.selects "UnitRoom$Reader" ({ cls := "UnitRoom$Device", name := "isDoneAheadOf", desc := "(LUnitRoom$Device;)Z" } : Jvm.MethodName) ({ cls := "UnitRoom$Device", name := "isDoneAheadOf", desc := "(LUnitRoom$Device;)Z" } : Jvm.MethodName)) ∈ ur_G := ur_mem 298 (by first | rfl | decide +kernel) (by decide +kernel)
theorem mw282 : (Jvm.Cond.selects "UnitRoom$Tape" ({ cls := "UnitRoom$Device", name := "isDoneAheadOf", desc := "(LUnitRoom$Device;)Z" } : Jvm.MethodName) ({ cls := "UnitRoom$Device", name := "isDoneAheadOf", desc := "(LUnitRoom$Device;)Z" } : Jvm.MethodName)) ∈ ur_G := ur_mem 299 (by first | rfl | decide +kernel) (by decide +kernel)
theorem mw283 : (Jvm.Cond.selects "UnitRoom$Writer" ({ cls := "UnitRoom$Device", name := "isDoneAheadOf", desc := "(LUnitRoom$Device;)Z" } : Jvm.MethodName) ({ cls := "UnitRoom$Device", name := "isDoneAheadOf", desc := "(LUnitRoom$Device;)Z" } : Jvm.MethodName)) ∈ ur_G := ur_mem 300 (by first | rfl | decide +kernel) (by decide +kernel)
theorem mw284 : (Jvm.Cond.code ({ cls := "UnitRoom$Device", name := "isDoneAheadOf", desc := "(LUnitRoom$Device;)Z" } : Jvm.MethodName) prog_3_method_8_code (2 : Nat) (Option.some Jvm.ClassFile.FieldType.boolean)) ∈ ur_G := ur_mem 301 (by first | rfl | decide +kernel) (by decide +kernel)
theorem mw285 : (Jvm.Cond.methodLink "UnitRoom" (147 : Nat) ({ cls := "UnitRoom$Device", name := "deliver", desc := "(LUnitRoom$Memory;)V" } : Jvm.MethodName)) ∈ ur_G := ur_mem 302 (by first | rfl | decide +kernel) (by decide +kernel)
theorem mw286 : (Jvm.Cond.instanceMethod ({ cls := "UnitRoom$Device", name := "deliver", desc := "(LUnitRoom$Memory;)V" } : Jvm.MethodName)) ∈ ur_G := ur_mem 303 (by first | rfl | decide +kernel) (by decide +kernel)
theorem mw287 : (Jvm.Cond.sameMethod "UnitRoom$Device" "UnitRoom$Device" "deliver" "(LUnitRoom$Memory;)V") ∈ ur_G := ur_mem 304 (by first | rfl | decide +kernel) (by decide +kernel)
theorem mw288 : (Jvm.Cond.selects "UnitRoom$Disk" ({ cls := "UnitRoom$Device", name := "deliver", desc := "(LUnitRoom$Memory;)V" } : Jvm.MethodName) ({ cls := "UnitRoom$Device", name := "deliver", desc := "(LUnitRoom$Memory;)V" } : Jvm.MethodName)) ∈ ur_G := ur_mem 305 (by first | rfl | decide +kernel) (by decide +kernel)
theorem mw289 : (Jvm.Cond.selects "UnitRoom$Reader" ({ cls := "UnitRoom$Device", name := "deliver", desc := "(LUnitRoom$Memory;)V" } : Jvm.MethodName) ({ cls := "UnitRoom$Device", name := "deliver", desc := "(LUnitRoom$Memory;)V" } : Jvm.MethodName)) ∈ ur_G := ur_mem 306 (by first | rfl | decide +kernel) (by decide +kernel)
theorem mw290 : (Jvm.Cond.selects "UnitRoom$Tape" ({ cls := "UnitRoom$Device", name := "deliver", desc := "(LUnitRoom$Memory;)V" } : Jvm.MethodName) ({ cls := "UnitRoom$Device", name := "deliver", desc := "(LUnitRoom$Memory;)V" } : Jvm.MethodName)) ∈ ur_G := ur_mem 307 (by first | rfl | decide +kernel) (by decide +kernel)
theorem mw291 : (Jvm.Cond.selects "UnitRoom$Writer" ({ cls := "UnitRoom$Device", name := "deliver", desc := "(LUnitRoom$Memory;)V" } : Jvm.MethodName) ({ cls := "UnitRoom$Device", name := "deliver", desc := "(LUnitRoom$Memory;)V" } : Jvm.MethodName)) ∈ ur_G := ur_mem 308 (by first | rfl | decide +kernel) (by decide +kernel)
theorem mw292 : (Jvm.Cond.code ({ cls := "UnitRoom$Device", name := "deliver", desc := "(LUnitRoom$Memory;)V" } : Jvm.MethodName) prog_3_method_7_code (2 : Nat) (Option.none : Option Jvm.ClassFile.FieldType)) ∈ ur_G := ur_mem 309 (by first | rfl | decide +kernel) (by decide +kernel)
theorem mw293 : (Jvm.Cond.methodLink "UnitRoom$Device" (40 : Nat) ({ cls := "UnitRoom$Memory", name := "takeFrom", desc := "([II)V" } : Jvm.MethodName)) ∈ ur_G := ur_mem 310 (by first | rfl | decide +kernel) (by decide +kernel)
theorem mw294 : (Jvm.Cond.instanceMethod ({ cls := "UnitRoom$Memory", name := "takeFrom", desc := "([II)V" } : Jvm.MethodName)) ∈ ur_G := ur_mem 311 (by first | rfl | decide +kernel) (by decide +kernel)
theorem mw295 : (Jvm.Cond.selects "UnitRoom$Memory" ({ cls := "UnitRoom$Memory", name := "takeFrom", desc := "([II)V" } : Jvm.MethodName) ({ cls := "UnitRoom$Memory", name := "takeFrom", desc := "([II)V" } : Jvm.MethodName)) ∈ ur_G := ur_mem 312 (by first | rfl | decide +kernel) (by decide +kernel)
theorem mw296 : (Jvm.Cond.code ({ cls := "UnitRoom$Memory", name := "takeFrom", desc := "([II)V" } : Jvm.MethodName) prog_6_method_6_code (3 : Nat) (Option.none : Option Jvm.ClassFile.FieldType)) ∈ ur_G := ur_mem 313 (by first | rfl | decide +kernel) (by decide +kernel)
theorem mw297 : (Jvm.Cond.methodLink "UnitRoom$Memory" (20 : Nat) ({ cls := "java/lang/System", name := "arraycopy", desc := "(Ljava/lang/Object;ILjava/lang/Object;II)V" } : Jvm.MethodName)) ∈ ur_G := ur_mem 314 (by first | rfl | decide +kernel) (by decide +kernel)
theorem mw298 : (Jvm.Cond.static ({ cls := "java/lang/System", name := "arraycopy", desc := "(Ljava/lang/Object;ILjava/lang/Object;II)V" } : Jvm.MethodName)) ∈ ur_G := ur_mem 315 (by first | rfl | decide +kernel) (by decide +kernel)
theorem mw299 : (Jvm.Cond.native ({ cls := "java/lang/System", name := "arraycopy", desc := "(Ljava/lang/Object;ILjava/lang/Object;II)V" } : Jvm.MethodName)) ∈ ur_G := ur_mem 316 (by first | rfl | decide +kernel) (by decide +kernel)
theorem mw300 : (Jvm.Cond.methodLink "UnitRoom" (104 : Nat) ({ cls := "UnitRoom$Device", name := "begin", desc := "(JI)V" } : Jvm.MethodName)) ∈ ur_G := ur_mem 317 (by first | rfl | decide +kernel) (by decide +kernel)
theorem mw301 : (Jvm.Cond.instanceMethod ({ cls := "UnitRoom$Device", name := "begin", desc := "(JI)V" } : Jvm.MethodName)) ∈ ur_G := ur_mem 318 (by first | rfl | decide +kernel) (by decide +kernel)
theorem mw302 : (Jvm.Cond.sameMethod "UnitRoom$Device" "UnitRoom$Device" "begin" "(JI)V") ∈ ur_G := ur_mem 319 (by first | rfl | decide +kernel) (by decide +kernel)
theorem mw303 : (Jvm.Cond.selects "UnitRoom$Disk" ({ cls := "UnitRoom$Device", name := "begin", desc := "(JI)V" } : Jvm.MethodName) ({ cls := "UnitRoom$Device", name := "begin", desc := "(JI)V" } : Jvm.MethodName)) ∈ ur_G := ur_mem 320 (by first | rfl | decide +kernel) (by decide +kernel)
theorem mw304 : (Jvm.Cond.selects "UnitRoom$Reader" ({ cls := "UnitRoom$Device", name := "begin", desc := "(JI)V" } : Jvm.MethodName) ({ cls := "UnitRoom$Device", name := "begin", desc := "(JI)V" } : Jvm.MethodName)) ∈ ur_G := ur_mem 321 (by first | rfl | decide +kernel) (by decide +kernel)
theorem mw305 : (Jvm.Cond.selects "UnitRoom$Tape" ({ cls := "UnitRoom$Device", name := "begin", desc := "(JI)V" } : Jvm.MethodName) ({ cls := "UnitRoom$Device", name := "begin", desc := "(JI)V" } : Jvm.MethodName)) ∈ ur_G := ur_mem 322 (by first | rfl | decide +kernel) (by decide +kernel)
theorem mw306 : (Jvm.Cond.selects "UnitRoom$Writer" ({ cls := "UnitRoom$Device", name := "begin", desc := "(JI)V" } : Jvm.MethodName) ({ cls := "UnitRoom$Device", name := "begin", desc := "(JI)V" } : Jvm.MethodName)) ∈ ur_G := ur_mem 323 (by first | rfl | decide +kernel) (by decide +kernel)
theorem mw307 : (Jvm.Cond.code ({ cls := "UnitRoom$Device", name := "begin", desc := "(JI)V" } : Jvm.MethodName) prog_3_method_5_code (4 : Nat) (Option.none : Option Jvm.ClassFile.FieldType)) ∈ ur_G := ur_mem 324 (by first | rfl | decide +kernel) (by decide +kernel)
theorem mw308 : (Jvm.Cond.methodLink "UnitRoom" (108 : Nat) ({ cls := "UnitRoom$Device", name := "work", desc := "(IIILUnitRoom$Memory;)V" } : Jvm.MethodName)) ∈ ur_G := ur_mem 325 (by first | rfl | decide +kernel) (by decide +kernel)
theorem mw310 : (Jvm.Cond.sameMethod "UnitRoom$Device" "UnitRoom$Device" "work" "(IIILUnitRoom$Memory;)V") ∈ ur_G := ur_mem 327 (by first | rfl | decide +kernel) (by decide +kernel)
theorem mw311 : (Jvm.Cond.selects "UnitRoom$Disk" ({ cls := "UnitRoom$Device", name := "work", desc := "(IIILUnitRoom$Memory;)V" } : Jvm.MethodName) ({ cls := "UnitRoom$Disk", name := "work", desc := "(IIILUnitRoom$Memory;)V" } : Jvm.MethodName)) ∈ ur_G := ur_mem 328 (by first | rfl | decide +kernel) (by decide +kernel)
theorem mw312 : (Jvm.Cond.instanceMethod ({ cls := "UnitRoom$Disk", name := "work", desc := "(IIILUnitRoom$Memory;)V" } : Jvm.MethodName)) ∈ ur_G := ur_mem 329 (by first | rfl | decide +kernel) (by decide +kernel)
theorem mw313 : (Jvm.Cond.code ({ cls := "UnitRoom$Disk", name := "work", desc := "(IIILUnitRoom$Memory;)V" } : Jvm.MethodName) prog_4_method_3_code (5 : Nat) (Option.none : Option Jvm.ClassFile.FieldType)) ∈ ur_G := ur_mem 330 (by first | rfl | decide +kernel) (by decide +kernel)
theorem mw314 : (Jvm.Cond.methodLink "UnitRoom$Disk" (9 : Nat) ({ cls := "UnitRoom$Disk", name := "readBlock", desc := "(II)V" } : Jvm.MethodName)) ∈ ur_G := ur_mem 331 (by first | rfl | decide +kernel) (by decide +kernel)
theorem mw315 : (Jvm.Cond.sameMethod "UnitRoom$Disk" "UnitRoom$BlockDevice" "readBlock" "(II)V") ∈ ur_G := ur_mem 332 (by first | rfl | decide +kernel) (by decide +kernel)
theorem mw317 : (Jvm.Cond.selects "UnitRoom$Disk" ({ cls := "UnitRoom$Disk", name := "readBlock", desc := "(II)V" } : Jvm.MethodName) ({ cls := "UnitRoom$BlockDevice", name := "readBlock", desc := "(II)V" } : Jvm.MethodName)) ∈ ur_G := ur_mem 334 (by first | rfl | decide +kernel) (by decide +kernel)
theorem mw318 : (Jvm.Cond.instanceMethod ({ cls := "UnitRoom$BlockDevice", name := "readBlock", desc := "(II)V" } : Jvm.MethodName)) ∈ ur_G := ur_mem 335 (by first | rfl | decide +kernel) (by decide +kernel)
theorem mw319 : (Jvm.Cond.code ({ cls := "UnitRoom$BlockDevice", name := "readBlock", desc := "(II)V" } : Jvm.MethodName) prog_2_method_3_code (4 : Nat) (Option.none : Option Jvm.ClassFile.FieldType)) ∈ ur_G := ur_mem 336 (by first | rfl | decide +kernel) (by decide +kernel)
theorem mw320 : (Jvm.Cond.methodLink "UnitRoom$BlockDevice" (21 : Nat) ({ cls := "UnitRoom$BlockDevice", name := "wordAt", desc := "(II)I" } : Jvm.MethodName)) ∈ ur_G := ur_mem 337 (by first | rfl | decide +kernel) (by decide +kernel)
theorem mw321 : (Jvm.Cond.instanceMethod ({ cls := "UnitRoom$BlockDevice", name := "wordAt", desc := "(II)I" } : Jvm.MethodName)) ∈ ur_G := ur_mem 338 (by first | rfl | decide +kernel) (by decide +kernel)
theorem mw322 : (Jvm.Cond.sameMethod "UnitRoom$BlockDevice" "UnitRoom$BlockDevice" "wordAt" "(II)I") ∈ ur_G := ur_mem 339 (by first | rfl | decide +kernel) (by decide +kernel)
theorem mw323 : (Jvm.Cond.selects "UnitRoom$Disk" ({ cls := "UnitRoom$BlockDevice", name := "wordAt", desc := "(II)I" } : Jvm.MethodName) ({ cls := "UnitRoom$BlockDevice", name := "wordAt", desc := "(II)I" } : Jvm.MethodName)) ∈ ur_G := ur_mem 340 (by first | rfl | decide +kernel) (by decide +kernel)
theorem mw324 : (Jvm.Cond.selects "UnitRoom$Tape" ({ cls := "UnitRoom$BlockDevice", name := "wordAt", desc := "(II)I" } : Jvm.MethodName) ({ cls := "UnitRoom$BlockDevice", name := "wordAt", desc := "(II)I" } : Jvm.MethodName)) ∈ ur_G := ur_mem 341 (by first | rfl | decide +kernel) (by decide +kernel)
theorem mw325 : (Jvm.Cond.code ({ cls := "UnitRoom$BlockDevice", name := "wordAt", desc := "(II)I" } : Jvm.MethodName) prog_2_method_2_code (4 : Nat) (Option.some Jvm.ClassFile.FieldType.int)) ∈ ur_G := ur_mem 342 (by first | rfl | decide +kernel) (by decide +kernel)
theorem mw326 : (Jvm.Cond.constant "UnitRoom$BlockDevice" (17 : Nat) (2147483647 : Int32)) ∈ ur_G := ur_mem 343 (by first | rfl | decide +kernel) (by decide +kernel)
theorem mw327 : (Jvm.Cond.methodLink "UnitRoom$BlockDevice" (25 : Nat) ({ cls := "UnitRoom$BlockDevice", name := "bringTo", desc := "(I)V" } : Jvm.MethodName)) ∈ ur_G := ur_mem 344 (by first | rfl | decide +kernel) (by decide +kernel)
theorem mw328 : (Jvm.Cond.sameMethod "UnitRoom$BlockDevice" "UnitRoom$Device" "bringTo" "(I)V") ∈ ur_G := ur_mem 345 (by first | rfl | decide +kernel) (by decide +kernel)
theorem mw330 : (Jvm.Cond.selects "UnitRoom$Disk" ({ cls := "UnitRoom$BlockDevice", name := "bringTo", desc := "(I)V" } : Jvm.MethodName) ({ cls := "UnitRoom$Device", name := "bringTo", desc := "(I)V" } : Jvm.MethodName)) ∈ ur_G := ur_mem 347 (by first | rfl | decide +kernel) (by decide +kernel)
theorem mw331 : (Jvm.Cond.selects "UnitRoom$Tape" ({ cls := "UnitRoom$BlockDevice", name := "bringTo", desc := "(I)V" } : Jvm.MethodName) ({ cls := "UnitRoom$Device", name := "bringTo", desc := "(I)V" } : Jvm.MethodName)) ∈ ur_G := ur_mem 348 (by first | rfl | decide +kernel) (by decide +kernel)
theorem mw332 : (Jvm.Cond.instanceMethod ({ cls := "UnitRoom$Device", name := "bringTo", desc := "(I)V" } : Jvm.MethodName)) ∈ ur_G := ur_mem 349 (by first | rfl | decide +kernel) (by decide +kernel)
theorem mw333 : (Jvm.Cond.code ({ cls := "UnitRoom$Device", name := "bringTo", desc := "(I)V" } : Jvm.MethodName) prog_3_method_6_code (2 : Nat) (Option.none : Option Jvm.ClassFile.FieldType)) ∈ ur_G := ur_mem 350 (by first | rfl | decide +kernel) (by decide +kernel)
theorem mw334 : (Jvm.Cond.methodLink "UnitRoom$Disk" (15 : Nat) ({ cls := "UnitRoom$Disk", name := "writeBlock", desc := "(IILUnitRoom$Memory;)V" } : Jvm.MethodName)) ∈ ur_G := ur_mem 351 (by first | rfl | decide +kernel) (by decide +kernel)
theorem mw335 : (Jvm.Cond.sameMethod "UnitRoom$Disk" "UnitRoom$BlockDevice" "writeBlock" "(IILUnitRoom$Memory;)V") ∈ ur_G := ur_mem 352 (by first | rfl | decide +kernel) (by decide +kernel)
theorem mw337 : (Jvm.Cond.selects "UnitRoom$Disk" ({ cls := "UnitRoom$Disk", name := "writeBlock", desc := "(IILUnitRoom$Memory;)V" } : Jvm.MethodName) ({ cls := "UnitRoom$BlockDevice", name := "writeBlock", desc := "(IILUnitRoom$Memory;)V" } : Jvm.MethodName)) ∈ ur_G := ur_mem 354 (by first | rfl | decide +kernel) (by decide +kernel)
theorem mw338 : (Jvm.Cond.instanceMethod ({ cls := "UnitRoom$BlockDevice", name := "writeBlock", desc := "(IILUnitRoom$Memory;)V" } : Jvm.MethodName)) ∈ ur_G := ur_mem 355 (by first | rfl | decide +kernel) (by decide +kernel)
theorem mw339 : (Jvm.Cond.code ({ cls := "UnitRoom$BlockDevice", name := "writeBlock", desc := "(IILUnitRoom$Memory;)V" } : Jvm.MethodName) prog_2_method_4_code (5 : Nat) (Option.none : Option Jvm.ClassFile.FieldType)) ∈ ur_G := ur_mem 356 (by first | rfl | decide +kernel) (by decide +kernel)
theorem mw340 : (Jvm.Cond.methodLink "UnitRoom$BlockDevice" (29 : Nat) ({ cls := "UnitRoom$Memory", name := "copyInto", desc := "([II)V" } : Jvm.MethodName)) ∈ ur_G := ur_mem 357 (by first | rfl | decide +kernel) (by decide +kernel)
theorem mw341 : (Jvm.Cond.instanceMethod ({ cls := "UnitRoom$Memory", name := "copyInto", desc := "([II)V" } : Jvm.MethodName)) ∈ ur_G := ur_mem 358 (by first | rfl | decide +kernel) (by decide +kernel)
theorem mw342 : (Jvm.Cond.selects "UnitRoom$Memory" ({ cls := "UnitRoom$Memory", name := "copyInto", desc := "([II)V" } : Jvm.MethodName) ({ cls := "UnitRoom$Memory", name := "copyInto", desc := "([II)V" } : Jvm.MethodName)) ∈ ur_G := ur_mem 359 (by first | rfl | decide +kernel) (by decide +kernel)
theorem mw343 : (Jvm.Cond.code ({ cls := "UnitRoom$Memory", name := "copyInto", desc := "([II)V" } : Jvm.MethodName) prog_6_method_5_code (3 : Nat) (Option.none : Option Jvm.ClassFile.FieldType)) ∈ ur_G := ur_mem 360 (by first | rfl | decide +kernel) (by decide +kernel)
theorem mw344 : (Jvm.Cond.selects "UnitRoom$Reader" ({ cls := "UnitRoom$Device", name := "work", desc := "(IIILUnitRoom$Memory;)V" } : Jvm.MethodName) ({ cls := "UnitRoom$Reader", name := "work", desc := "(IIILUnitRoom$Memory;)V" } : Jvm.MethodName)) ∈ ur_G := ur_mem 361 (by first | rfl | decide +kernel) (by decide +kernel)
theorem mw345 : (Jvm.Cond.instanceMethod ({ cls := "UnitRoom$Reader", name := "work", desc := "(IIILUnitRoom$Memory;)V" } : Jvm.MethodName)) ∈ ur_G := ur_mem 362 (by first | rfl | decide +kernel) (by decide +kernel)
theorem mw346 : (Jvm.Cond.code ({ cls := "UnitRoom$Reader", name := "work", desc := "(IIILUnitRoom$Memory;)V" } : Jvm.MethodName) prog_7_method_5_code (7 : Nat) (Option.none : Option Jvm.ClassFile.FieldType)) ∈ ur_G := ur_mem 363 (by first | rfl | decide +kernel) (by decide +kernel)
theorem mw347 : (Jvm.Cond.methodLink "UnitRoom$Reader" (29 : Nat) ({ cls := "UnitRoom$Reader", name := "bringTo", desc := "(I)V" } : Jvm.MethodName)) ∈ ur_G := ur_mem 364 (by first | rfl | decide +kernel) (by decide +kernel)
theorem mw348 : (Jvm.Cond.sameMethod "UnitRoom$Reader" "UnitRoom$Device" "bringTo" "(I)V") ∈ ur_G := ur_mem 365 (by first | rfl | decide +kernel) (by decide +kernel)
theorem mw349 : (Jvm.Cond.selects "UnitRoom$Reader" ({ cls := "UnitRoom$Reader", name := "bringTo", desc := "(I)V" } : Jvm.MethodName) ({ cls := "UnitRoom$Device", name := "bringTo", desc := "(I)V" } : Jvm.MethodName)) ∈ ur_G := ur_mem 366 (by first | rfl | decide +kernel) (by decide +kernel)
theorem mw350 : (Jvm.Cond.selects "UnitRoom$Tape" ({ cls := "UnitRoom$Device", name := "work", desc := "(IIILUnitRoom$Memory;)V" } : Jvm.MethodName) ({ cls := "UnitRoom$Tape", name := "work", desc := "(IIILUnitRoom$Memory;)V" } : Jvm.MethodName)) ∈ ur_G := ur_mem 367 (by first | rfl | decide +kernel) (by decide +kernel)
theorem mw351 : (Jvm.Cond.instanceMethod ({ cls := "UnitRoom$Tape", name := "work", desc := "(IIILUnitRoom$Memory;)V" } : Jvm.MethodName)) ∈ ur_G := ur_mem 368 (by first | rfl | decide +kernel) (by decide +kernel)
theorem mw352 : (Jvm.Cond.code ({ cls := "UnitRoom$Tape", name := "work", desc := "(IIILUnitRoom$Memory;)V" } : Jvm.MethodName) prog_8_method_3_code (5 : Nat) (Option.none : Option Jvm.ClassFile.FieldType)) ∈ ur_G := ur_mem 369 (by first | rfl | decide +kernel) (by decide +kernel)
theorem mw353 : (Jvm.Cond.methodLink "UnitRoom$Tape" (15 : Nat) ({ cls := "UnitRoom$Tape", name := "positionAfter", desc := "(I)I" } : Jvm.MethodName)) ∈ ur_G := ur_mem 370 (by first | rfl | decide +kernel) (by decide +kernel)
theorem mw355 : (Jvm.Cond.instanceMethod ({ cls := "UnitRoom$Tape", name := "positionAfter", desc := "(I)I" } : Jvm.MethodName)) ∈ ur_G := ur_mem 372 (by first | rfl | decide +kernel) (by decide +kernel)
theorem mw356 : (Jvm.Cond.code ({ cls := "UnitRoom$Tape", name := "positionAfter", desc := "(I)I" } : Jvm.MethodName) prog_8_method_5_code (4 : Nat) (Option.some Jvm.ClassFile.FieldType.int)) ∈ ur_G := ur_mem 373 (by first | rfl | decide +kernel) (by decide +kernel)
theorem mw357 : (Jvm.Cond.constantLong "UnitRoom$Tape" (27 : Nat) (64 : Int64)) ∈ ur_G := ur_mem 374 (by first | rfl | decide +kernel) (by decide +kernel)
theorem mw358 : (Jvm.Cond.methodLink "UnitRoom$Tape" (29 : Nat) ({ cls := "java/lang/Math", name := "min", desc := "(JJ)J" } : Jvm.MethodName)) ∈ ur_G := ur_mem 375 (by first | rfl | decide +kernel) (by decide +kernel)
theorem mw359 : (Jvm.Cond.static ({ cls := "java/lang/Math", name := "min", desc := "(JJ)J" } : Jvm.MethodName)) ∈ ur_G := ur_mem 376 (by first | rfl | decide +kernel) (by decide +kernel)
theorem mw360 : (Jvm.Cond.code ({ cls := "java/lang/Math", name := "min", desc := "(JJ)J" } : Jvm.MethodName) prog_13_method_70_code (4 : Nat) (Option.some Jvm.ClassFile.FieldType.long)) ∈ ur_G := ur_mem 377 (by first | rfl | decide +kernel) (by decide +kernel)
theorem mw361 : (Jvm.Cond.methodLink "UnitRoom$Tape" (35 : Nat) ({ cls := "java/lang/Math", name := "max", desc := "(JJ)J" } : Jvm.MethodName)) ∈ ur_G := ur_mem 378 (by first | rfl | decide +kernel) (by decide +kernel)
theorem mw362 : (Jvm.Cond.methodLink "UnitRoom$Tape" (19 : Nat) ({ cls := "UnitRoom$Tape", name := "readBlock", desc := "(II)V" } : Jvm.MethodName)) ∈ ur_G := ur_mem 379 (by first | rfl | decide +kernel) (by decide +kernel)
theorem mw363 : (Jvm.Cond.sameMethod "UnitRoom$Tape" "UnitRoom$BlockDevice" "readBlock" "(II)V") ∈ ur_G := ur_mem 380 (by first | rfl | decide +kernel) (by decide +kernel)
theorem mw364 : (Jvm.Cond.selects "UnitRoom$Tape" ({ cls := "UnitRoom$Tape", name := "readBlock", desc := "(II)V" } : Jvm.MethodName) ({ cls := "UnitRoom$BlockDevice", name := "readBlock", desc := "(II)V" } : Jvm.MethodName)) ∈ ur_G := ur_mem 381 (by first | rfl | decide +kernel) (by decide +kernel)
theorem mw365 : (Jvm.Cond.methodLink "UnitRoom$Tape" (23 : Nat) ({ cls := "UnitRoom$Tape", name := "writeBlock", desc := "(IILUnitRoom$Memory;)V" } : Jvm.MethodName)) ∈ ur_G := ur_mem 382 (by first | rfl | decide +kernel) (by decide +kernel)
theorem mw366 : (Jvm.Cond.sameMethod "UnitRoom$Tape" "UnitRoom$BlockDevice" "writeBlock" "(IILUnitRoom$Memory;)V") ∈ ur_G := ur_mem 383 (by first | rfl | decide +kernel) (by decide +kernel)
theorem mw367 : (Jvm.Cond.selects "UnitRoom$Tape" ({ cls := "UnitRoom$Tape", name := "writeBlock", desc := "(IILUnitRoom$Memory;)V" } : Jvm.MethodName) ({ cls := "UnitRoom$BlockDevice", name := "writeBlock", desc := "(IILUnitRoom$Memory;)V" } : Jvm.MethodName)) ∈ ur_G := ur_mem 384 (by first | rfl | decide +kernel) (by decide +kernel)
theorem mw368 : (Jvm.Cond.selects "UnitRoom$Writer" ({ cls := "UnitRoom$Device", name := "work", desc := "(IIILUnitRoom$Memory;)V" } : Jvm.MethodName) ({ cls := "UnitRoom$Writer", name := "work", desc := "(IIILUnitRoom$Memory;)V" } : Jvm.MethodName)) ∈ ur_G := ur_mem 385 (by first | rfl | decide +kernel) (by decide +kernel)
theorem mw369 : (Jvm.Cond.instanceMethod ({ cls := "UnitRoom$Writer", name := "work", desc := "(IIILUnitRoom$Memory;)V" } : Jvm.MethodName)) ∈ ur_G := ur_mem 386 (by first | rfl | decide +kernel) (by decide +kernel)
theorem mw370 : (Jvm.Cond.code ({ cls := "UnitRoom$Writer", name := "work", desc := "(IIILUnitRoom$Memory;)V" } : Jvm.MethodName) prog_9_method_4_code (5 : Nat) (Option.none : Option Jvm.ClassFile.FieldType)) ∈ ur_G := ur_mem 387 (by first | rfl | decide +kernel) (by decide +kernel)
theorem mw371 : (Jvm.Cond.methodLink "UnitRoom$Writer" (25 : Nat) ({ cls := "UnitRoom$Writer", name := "formFeedLine", desc := "()[B" } : Jvm.MethodName)) ∈ ur_G := ur_mem 388 (by first | rfl | decide +kernel) (by decide +kernel)
theorem mw372 : (Jvm.Cond.static ({ cls := "UnitRoom$Writer", name := "formFeedLine", desc := "()[B" } : Jvm.MethodName)) ∈ ur_G := ur_mem 389 (by first | rfl | decide +kernel) (by decide +kernel)
theorem mw373 : (Jvm.Cond.code ({ cls := "UnitRoom$Writer", name := "formFeedLine", desc := "()[B" } : Jvm.MethodName) prog_9_method_6_code (1 : Nat) (Option.some (Jvm.ClassFile.FieldType.array Jvm.ClassFile.FieldType.byte))) ∈ ur_G := ur_mem 390 (by first | rfl | decide +kernel) (by decide +kernel)
theorem mw374 : (Jvm.Cond.methodLink "UnitRoom$Writer" (29 : Nat) ({ cls := "UnitRoom$Writer", name := "lineOf", desc := "(ILUnitRoom$Memory;)[B" } : Jvm.MethodName)) ∈ ur_G := ur_mem 391 (by first | rfl | decide +kernel) (by decide +kernel)
theorem mw376 : (Jvm.Cond.instanceMethod ({ cls := "UnitRoom$Writer", name := "lineOf", desc := "(ILUnitRoom$Memory;)[B" } : Jvm.MethodName)) ∈ ur_G := ur_mem 393 (by first | rfl | decide +kernel) (by decide +kernel)
theorem mw377 : (Jvm.Cond.code ({ cls := "UnitRoom$Writer", name := "lineOf", desc := "(ILUnitRoom$Memory;)[B" } : Jvm.MethodName) prog_9_method_7_code (5 : Nat) (Option.some (Jvm.ClassFile.FieldType.array Jvm.ClassFile.FieldType.byte))) ∈ ur_G := ur_mem 394 (by first | rfl | decide +kernel) (by decide +kernel)
theorem mw378 : (Jvm.Cond.methodLink "UnitRoom$Writer" (33 : Nat) ({ cls := "UnitRoom$Writer", name := "lengthWithoutBlanks", desc := "(ILUnitRoom$Memory;)I" } : Jvm.MethodName)) ∈ ur_G := ur_mem 395 (by first | rfl | decide +kernel) (by decide +kernel)
theorem mw380 : (Jvm.Cond.instanceMethod ({ cls := "UnitRoom$Writer", name := "lengthWithoutBlanks", desc := "(ILUnitRoom$Memory;)I" } : Jvm.MethodName)) ∈ ur_G := ur_mem 397 (by first | rfl | decide +kernel) (by decide +kernel)
theorem mw381 : (Jvm.Cond.code ({ cls := "UnitRoom$Writer", name := "lengthWithoutBlanks", desc := "(ILUnitRoom$Memory;)I" } : Jvm.MethodName) prog_9_method_8_code (4 : Nat) (Option.some Jvm.ClassFile.FieldType.int)) ∈ ur_G := ur_mem 398 (by first | rfl | decide +kernel) (by decide +kernel)
theorem mw382 : (Jvm.Cond.methodLink "UnitRoom$Writer" (50 : Nat) ({ cls := "java/lang/Math", name := "max", desc := "(II)I" } : Jvm.MethodName)) ∈ ur_G := ur_mem 399 (by first | rfl | decide +kernel) (by decide +kernel)
theorem mw383 : (Jvm.Cond.methodLink "UnitRoom$Writer" (37 : Nat) ({ cls := "UnitRoom$Memory", name := "byteAt", desc := "(II)I" } : Jvm.MethodName)) ∈ ur_G := ur_mem 400 (by first | rfl | decide +kernel) (by decide +kernel)
theorem mw384 : (Jvm.Cond.instanceMethod ({ cls := "UnitRoom$Memory", name := "byteAt", desc := "(II)I" } : Jvm.MethodName)) ∈ ur_G := ur_mem 401 (by first | rfl | decide +kernel) (by decide +kernel)
theorem mw385 : (Jvm.Cond.selects "UnitRoom$Memory" ({ cls := "UnitRoom$Memory", name := "byteAt", desc := "(II)I" } : Jvm.MethodName) ({ cls := "UnitRoom$Memory", name := "byteAt", desc := "(II)I" } : Jvm.MethodName)) ∈ ur_G := ur_mem 402 (by first | rfl | decide +kernel) (by decide +kernel)
theorem mw386 : (Jvm.Cond.code ({ cls := "UnitRoom$Memory", name := "byteAt", desc := "(II)I" } : Jvm.MethodName) prog_6_method_7_code (6 : Nat) (Option.some Jvm.ClassFile.FieldType.int)) ∈ ur_G := ur_mem 403 (by first | rfl | decide +kernel) (by decide +kernel)
theorem mw387 : (Jvm.Cond.methodLink "UnitRoom$Memory" (26 : Nat) ({ cls := "UnitRoom$Memory", name := "at", desc := "(I)I" } : Jvm.MethodName)) ∈ ur_G := ur_mem 404 (by first | rfl | decide +kernel) (by decide +kernel)
theorem mw388 : (Jvm.Cond.constant "UnitRoom$Memory" (30 : Nat) (-2147483648 : Int32)) ∈ ur_G := ur_mem 405 (by first | rfl | decide +kernel) (by decide +kernel)
theorem mw389 : (Jvm.Cond.methodLink "UnitRoom$Memory" (31 : Nat) ({ cls := "java/lang/Math", name := "abs", desc := "(I)I" } : Jvm.MethodName)) ∈ ur_G := ur_mem 406 (by first | rfl | decide +kernel) (by decide +kernel)
theorem mw390 : (Jvm.Cond.static ({ cls := "java/lang/Math", name := "abs", desc := "(I)I" } : Jvm.MethodName)) ∈ ur_G := ur_mem 407 (by first | rfl | decide +kernel) (by decide +kernel)
theorem mw391 : (Jvm.Cond.code ({ cls := "java/lang/Math", name := "abs", desc := "(I)I" } : Jvm.MethodName) prog_13_method_59_code (1 : Nat) (Option.some Jvm.ClassFile.FieldType.int)) ∈ ur_G := ur_mem 408 (by first | rfl | decide +kernel) (by decide +kernel)
theorem mw393 : (Jvm.Cond.static ({ cls := "UnitRoom", name := "letterOf", desc := "(I)C" } : Jvm.MethodName)) ∈ ur_G := ur_mem 410 (by first | rfl | decide +kernel) (by decide +kernel)
theorem mw394 : (Jvm.Cond.code ({ cls := "UnitRoom", name := "letterOf", desc := "(I)C" } : Jvm.MethodName) prog_1_method_18_code (1 : Nat) (Option.some Jvm.ClassFile.FieldType.char)) ∈ ur_G := ur_mem 411 (by first | rfl | decide +kernel) (by decide +kernel)
theorem mw396 : (Jvm.Cond.methodLink "UnitRoom" (161 : Nat) ({ cls := "java/lang/String", name := "length", desc := "()I" } : Jvm.MethodName)) ∈ ur_G := ur_mem 413 (by first | rfl | decide +kernel) (by decide +kernel)
theorem mw397 : (Jvm.Cond.instanceMethod ({ cls := "java/lang/String", name := "length", desc := "()I" } : Jvm.MethodName)) ∈ ur_G := ur_mem 414 (by first | rfl | decide +kernel) (by decide +kernel)
theorem mw398 : (Jvm.Cond.selects "java/lang/String" ({ cls := "java/lang/String", name := "length", desc := "()I" } : Jvm.MethodName) ({ cls := "java/lang/String", name := "length", desc := "()I" } : Jvm.MethodName)) ∈ ur_G := ur_mem 415 (by first | rfl | decide +kernel) (by decide +kernel)
theorem mw399 : (Jvm.Cond.code ({ cls := "java/lang/String", name := "length", desc := "()I" } : Jvm.MethodName) prog_14_method_54_code (1 : Nat) (Option.some Jvm.ClassFile.FieldType.int)) ∈ ur_G := ur_mem 416 (by first | rfl | decide +kernel) (by decide +kernel)
theorem mw400 : (Jvm.Cond.methodLink "java/lang/String" (335 : Nat) ({ cls := "java/lang/String", name := "coder", desc := "()B" } : Jvm.MethodName)) ∈ ur_G := ur_mem 417 (by first | rfl | decide +kernel) (by decide +kernel)
set_option maxRecDepth 100000 in
theorem mw401 : (Jvm.Cond.instanceMethod ({ cls := "java/lang/String", name := "coder", desc := "()B" } : Jvm.MethodName)) ∈ ur_G := ur_mem 418 (by first | rfl | decide +kernel) (by decide +kernel)
set_option maxRecDepth 100000 in
theorem mw402 : (Jvm.Cond.selects "java/lang/String" ({ cls := "java/lang/String", name := "coder", desc := "()B" } : Jvm.MethodName) ({ cls := "java/lang/String", name := "coder", desc := "()B" } : Jvm.MethodName)) ∈ ur_G := ur_mem 419 (by first | rfl | decide +kernel) (by decide +kernel)
set_option maxRecDepth 100000 in
theorem mw403 : (Jvm.Cond.code ({ cls := "java/lang/String", name := "coder", desc := "()B" } : Jvm.MethodName) prog_14_method_152_code (1 : Nat) (Option.some Jvm.ClassFile.FieldType.byte)) ∈ ur_G := ur_mem 420 (by first | rfl | decide +kernel) (by decide +kernel)
set_option maxRecDepth 100000 in
theorem mw404 : (Jvm.Cond.fieldLink "java/lang/String" (38 : Nat) "java/lang/String" "COMPACT_STRINGS" "Z") ∈ ur_G := ur_mem 421 (by first | rfl | decide +kernel) (by decide +kernel)
set_option maxRecDepth 100000 in
theorem mw406 : (Jvm.Cond.methodLink "UnitRoom" (166 : Nat) ({ cls := "java/lang/String", name := "charAt", desc := "(I)C" } : Jvm.MethodName)) ∈ ur_G := ur_mem 423 (by first | rfl | decide +kernel) (by decide +kernel)
set_option maxRecDepth 100000 in
theorem mw407 : (Jvm.Cond.instanceMethod ({ cls := "java/lang/String", name := "charAt", desc := "(I)C" } : Jvm.MethodName)) ∈ ur_G := ur_mem 424 (by first | rfl | decide +kernel) (by decide +kernel)
set_option maxRecDepth 100000 in
theorem mw408 : (Jvm.Cond.selects "java/lang/String" ({ cls := "java/lang/String", name := "charAt", desc := "(I)C" } : Jvm.MethodName) ({ cls := "java/lang/String", name := "charAt", desc := "(I)C" } : Jvm.MethodName)) ∈ ur_G := ur_mem 425 (by first | rfl | decide +kernel) (by decide +kernel)
set_option maxRecDepth 100000 in
theorem mw409 : (Jvm.Cond.code ({ cls := "java/lang/String", name := "charAt", desc := "(I)C" } : Jvm.MethodName) prog_14_method_56_code (2 : Nat) (Option.some Jvm.ClassFile.FieldType.char)) ∈ ur_G := ur_mem 426 (by first | rfl | decide +kernel) (by decide +kernel)
set_option maxRecDepth 100000 in
theorem mw410 : (Jvm.Cond.methodLink "java/lang/String" (492 : Nat) ({ cls := "java/lang/String", name := "isLatin1", desc := "()Z" } : Jvm.MethodName)) ∈ ur_G := ur_mem 427 (by first | rfl | decide +kernel) (by decide +kernel)
set_option maxRecDepth 100000 in
theorem mw411 : (Jvm.Cond.instanceMethod ({ cls := "java/lang/String", name := "isLatin1", desc := "()Z" } : Jvm.MethodName)) ∈ ur_G := ur_mem 428 (by first | rfl | decide +kernel) (by decide +kernel)
set_option maxRecDepth 100000 in
theorem mw412 : (Jvm.Cond.selects "java/lang/String" ({ cls := "java/lang/String", name := "isLatin1", desc := "()Z" } : Jvm.MethodName) ({ cls := "java/lang/String", name := "isLatin1", desc := "()Z" } : Jvm.MethodName)) ∈ ur_G := ur_mem 429 (by first | rfl | decide +kernel) (by decide +kernel)
set_option maxRecDepth 100000 in
theorem mw413 : (Jvm.Cond.code ({ cls := "java/lang/String", name := "isLatin1", desc := "()Z" } : Jvm.MethodName) prog_14_method_154_code (1 : Nat) (Option.some Jvm.ClassFile.FieldType.boolean)) ∈ ur_G := ur_mem 430 (by first | rfl | decide +kernel) (by decide +kernel)
set_option maxRecDepth 100000 in
theorem mw414 : (Jvm.Cond.methodLink "java/lang/String" (495 : Nat) ({ cls := "java/lang/StringLatin1", name := "charAt", desc := "([BI)C" } : Jvm.MethodName)) ∈ ur_G := ur_mem 431 (by first | rfl | decide +kernel) (by decide +kernel)
set_option maxRecDepth 100000 in
theorem mw415 : (Jvm.Cond.static ({ cls := "java/lang/StringLatin1", name := "charAt", desc := "([BI)C" } : Jvm.MethodName)) ∈ ur_G := ur_mem 432 (by first | rfl | decide +kernel) (by decide +kernel)
set_option maxRecDepth 100000 in
theorem mw416 : (Jvm.Cond.code ({ cls := "java/lang/StringLatin1", name := "charAt", desc := "([BI)C" } : Jvm.MethodName) prog_15_method_2_code (2 : Nat) (Option.some Jvm.ClassFile.FieldType.char)) ∈ ur_G := ur_mem 433 (by first | rfl | decide +kernel) (by decide +kernel)
set_option maxRecDepth 100000 in
theorem mw417 : (Jvm.Cond.methodLink "java/lang/StringLatin1" (9 : Nat) ({ cls := "java/lang/String", name := "checkIndex", desc := "(II)V" } : Jvm.MethodName)) ∈ ur_G := ur_mem 434 (by first | rfl | decide +kernel) (by decide +kernel)
set_option maxRecDepth 100000 in
theorem mw418 : (Jvm.Cond.static ({ cls := "java/lang/String", name := "checkIndex", desc := "(II)V" } : Jvm.MethodName)) ∈ ur_G := ur_mem 435 (by first | rfl | decide +kernel) (by decide +kernel)
set_option maxRecDepth 100000 in
theorem mw419 : (Jvm.Cond.code ({ cls := "java/lang/String", name := "checkIndex", desc := "(II)V" } : Jvm.MethodName) prog_14_method_155_code (2 : Nat) (Option.none : Option Jvm.ClassFile.FieldType)) ∈ ur_G := ur_mem 436 (by first | rfl | decide +kernel) (by decide +kernel)
set_option maxRecDepth 100000 in
theorem mw420 : (Jvm.Cond.fieldLink "java/lang/String" (1053 : Nat) "jdk/internal/util/Preconditions" "SIOOBE_FORMATTER" "Ljava/util/function/BiFunction;") ∈ ur_G := ur_mem 437 (by first | rfl | decide +kernel) (by decide +kernel)
set_option maxRecDepth 100000 in
theorem mw422 : (Jvm.Cond.methodLink "java/lang/String" (1059 : Nat) ({ cls := "jdk/internal/util/Preconditions", name := "checkIndex", desc := "(IILjava/util/function/BiFunction;)I" } : Jvm.MethodName)) ∈ ur_G := ur_mem 439 (by first | rfl | decide +kernel) (by decide +kernel)
set_option maxRecDepth 100000 in
theorem mw423 : (Jvm.Cond.static ({ cls := "jdk/internal/util/Preconditions", name := "checkIndex", desc := "(IILjava/util/function/BiFunction;)I" } : Jvm.MethodName)) ∈ ur_G := ur_mem 440 (by first | rfl | decide +kernel) (by decide +kernel)
set_option maxRecDepth 100000 in
theorem mw424 : (Jvm.Cond.code ({ cls := "jdk/internal/util/Preconditions", name := "checkIndex", desc := "(IILjava/util/function/BiFunction;)I" } : Jvm.MethodName) prog_18_method_11_code (3 : Nat) (Option.some Jvm.ClassFile.FieldType.int)) ∈ ur_G := ur_mem 441 (by first | rfl | decide +kernel) (by decide +kernel)
set_option maxRecDepth 100000 in
theorem mw444 : (Jvm.Cond.methodLink "UnitRoomLaw" (43 : Nat) ({ cls := "UnitRoom", name := "isBusy", desc := "(I)Z" } : Jvm.MethodName)) ∈ ur_G := ur_mem 461 (by first | rfl | decide +kernel) (by decide +kernel)
set_option maxRecDepth 100000 in
theorem mw445 : (Jvm.Cond.instanceMethod ({ cls := "UnitRoom", name := "isBusy", desc := "(I)Z" } : Jvm.MethodName)) ∈ ur_G := ur_mem 462 (by first | rfl | decide +kernel) (by decide +kernel)
set_option maxRecDepth 100000 in
theorem mw446 : (Jvm.Cond.selects "UnitRoom" ({ cls := "UnitRoom", name := "isBusy", desc := "(I)Z" } : Jvm.MethodName) ({ cls := "UnitRoom", name := "isBusy", desc := "(I)Z" } : Jvm.MethodName)) ∈ ur_G := ur_mem 463 (by first | rfl | decide +kernel) (by decide +kernel)
set_option maxRecDepth 100000 in
theorem mw447 : (Jvm.Cond.code ({ cls := "UnitRoom", name := "isBusy", desc := "(I)Z" } : Jvm.MethodName) prog_1_method_8_code (3 : Nat) (Option.some Jvm.ClassFile.FieldType.boolean)) ∈ ur_G := ur_mem 464 (by first | rfl | decide +kernel) (by decide +kernel)
set_option maxRecDepth 100000 in
theorem mw448 : (Jvm.Cond.methodLink "UnitRoomLaw" (47 : Nat) ({ cls := "UnitRoom", name := "pass", desc := "(I)J" } : Jvm.MethodName)) ∈ ur_G := ur_mem 465 (by first | rfl | decide +kernel) (by decide +kernel)
set_option maxRecDepth 100000 in
theorem mw449 : (Jvm.Cond.instanceMethod ({ cls := "UnitRoom", name := "pass", desc := "(I)J" } : Jvm.MethodName)) ∈ ur_G := ur_mem 466 (by first | rfl | decide +kernel) (by decide +kernel)
set_option maxRecDepth 100000 in
theorem mw450 : (Jvm.Cond.selects "UnitRoom" ({ cls := "UnitRoom", name := "pass", desc := "(I)J" } : Jvm.MethodName) ({ cls := "UnitRoom", name := "pass", desc := "(I)J" } : Jvm.MethodName)) ∈ ur_G := ur_mem 467 (by first | rfl | decide +kernel) (by decide +kernel)
set_option maxRecDepth 100000 in
theorem mw451 : (Jvm.Cond.code ({ cls := "UnitRoom", name := "pass", desc := "(I)J" } : Jvm.MethodName) prog_1_method_9_code (2 : Nat) (Option.some Jvm.ClassFile.FieldType.long)) ∈ ur_G := ur_mem 468 (by first | rfl | decide +kernel) (by decide +kernel)
set_option maxRecDepth 100000 in
theorem mw452 : (Jvm.Cond.methodLink "UnitRoom" (112 : Nat) ({ cls := "java/lang/Math", name := "min", desc := "(II)I" } : Jvm.MethodName)) ∈ ur_G := ur_mem 469 (by first | rfl | decide +kernel) (by decide +kernel)
set_option maxRecDepth 100000 in
theorem mw453 : (Jvm.Cond.static ({ cls := "java/lang/Math", name := "min", desc := "(II)I" } : Jvm.MethodName)) ∈ ur_G := ur_mem 470 (by first | rfl | decide +kernel) (by decide +kernel)
set_option maxRecDepth 100000 in
theorem mw454 : (Jvm.Cond.code ({ cls := "java/lang/Math", name := "min", desc := "(II)I" } : Jvm.MethodName) prog_13_method_69_code (2 : Nat) (Option.some Jvm.ClassFile.FieldType.int)) ∈ ur_G := ur_mem 471 (by first | rfl | decide +kernel) (by decide +kernel)
set_option maxRecDepth 100000 in
theorem mw455 : (Jvm.Cond.methodLink "UnitRoom" (116 : Nat) ({ cls := "java/lang/Math", name := "max", desc := "(II)I" } : Jvm.MethodName)) ∈ ur_G := ur_mem 472 (by first | rfl | decide +kernel) (by decide +kernel)
set_option maxRecDepth 100000 in
theorem mw456 : (Jvm.Cond.methodLink "UnitRoomLaw" (52 : Nat) ({ cls := "UnitRoom", name := "card", desc := "()I" } : Jvm.MethodName)) ∈ ur_G := ur_mem 473 (by first | rfl | decide +kernel) (by decide +kernel)
set_option maxRecDepth 100000 in
theorem mw457 : (Jvm.Cond.instanceMethod ({ cls := "UnitRoom", name := "card", desc := "()I" } : Jvm.MethodName)) ∈ ur_G := ur_mem 474 (by first | rfl | decide +kernel) (by decide +kernel)
set_option maxRecDepth 100000 in
theorem mw458 : (Jvm.Cond.selects "UnitRoom" ({ cls := "UnitRoom", name := "card", desc := "()I" } : Jvm.MethodName) ({ cls := "UnitRoom", name := "card", desc := "()I" } : Jvm.MethodName)) ∈ ur_G := ur_mem 475 (by first | rfl | decide +kernel) (by decide +kernel)
set_option maxRecDepth 100000 in
theorem mw459 : (Jvm.Cond.code ({ cls := "UnitRoom", name := "card", desc := "()I" } : Jvm.MethodName) prog_1_method_10_code (2 : Nat) (Option.some Jvm.ClassFile.FieldType.int)) ∈ ur_G := ur_mem 476 (by first | rfl | decide +kernel) (by decide +kernel)
set_option maxRecDepth 100000 in
theorem mw460 : (Jvm.Cond.methodLink "UnitRoom" (118 : Nat) ({ cls := "UnitRoom$Reader", name := "hasRoom", desc := "()Z" } : Jvm.MethodName)) ∈ ur_G := ur_mem 477 (by first | rfl | decide +kernel) (by decide +kernel)
set_option maxRecDepth 100000 in
theorem mw461 : (Jvm.Cond.instanceMethod ({ cls := "UnitRoom$Reader", name := "hasRoom", desc := "()Z" } : Jvm.MethodName)) ∈ ur_G := ur_mem 478 (by first | rfl | decide +kernel) (by decide +kernel)
set_option maxRecDepth 100000 in
theorem mw462 : (Jvm.Cond.selects "UnitRoom$Reader" ({ cls := "UnitRoom$Reader", name := "hasRoom", desc := "()Z" } : Jvm.MethodName) ({ cls := "UnitRoom$Reader", name := "hasRoom", desc := "()Z" } : Jvm.MethodName)) ∈ ur_G := ur_mem 479 (by first | rfl | decide +kernel) (by decide +kernel)
set_option maxRecDepth 100000 in
theorem mw463 : (Jvm.Cond.code ({ cls := "UnitRoom$Reader", name := "hasRoom", desc := "()Z" } : Jvm.MethodName) prog_7_method_2_code (1 : Nat) (Option.some Jvm.ClassFile.FieldType.boolean)) ∈ ur_G := ur_mem 480 (by first | rfl | decide +kernel) (by decide +kernel)
set_option maxRecDepth 100000 in
theorem mw464 : (Jvm.Cond.methodLink "UnitRoom" (119 : Nat) ({ cls := "UnitRoom$Reader", name := "accept", desc := "(LUnitRoom$InputTape;)V" } : Jvm.MethodName)) ∈ ur_G := ur_mem 481 (by first | rfl | decide +kernel) (by decide +kernel)
set_option maxRecDepth 100000 in
theorem mw465 : (Jvm.Cond.instanceMethod ({ cls := "UnitRoom$Reader", name := "accept", desc := "(LUnitRoom$InputTape;)V" } : Jvm.MethodName)) ∈ ur_G := ur_mem 482 (by first | rfl | decide +kernel) (by decide +kernel)
set_option maxRecDepth 100000 in
theorem mw466 : (Jvm.Cond.selects "UnitRoom$Reader" ({ cls := "UnitRoom$Reader", name := "accept", desc := "(LUnitRoom$InputTape;)V" } : Jvm.MethodName) ({ cls := "UnitRoom$Reader", name := "accept", desc := "(LUnitRoom$InputTape;)V" } : Jvm.MethodName)) ∈ ur_G := ur_mem 483 (by first | rfl | decide +kernel) (by decide +kernel)
set_option maxRecDepth 100000 in
theorem mw467 : (Jvm.Cond.code ({ cls := "UnitRoom$Reader", name := "accept", desc := "(LUnitRoom$InputTape;)V" } : Jvm.MethodName) prog_7_method_3_code (4 : Nat) (Option.none : Option Jvm.ClassFile.FieldType)) ∈ ur_G := ur_mem 484 (by first | rfl | decide +kernel) (by decide +kernel)
set_option maxRecDepth 100000 in
theorem mw468 : (Jvm.Cond.methodLink "UnitRoom$Reader" (22 : Nat) ({ cls := "UnitRoom$Reader", name := "wordOf", desc := "(LUnitRoom$InputTape;I)I" } : Jvm.MethodName)) ∈ ur_G := ur_mem 485 (by first | rfl | decide +kernel) (by decide +kernel)
set_option maxRecDepth 100000 in
theorem mw469 : (Jvm.Cond.static ({ cls := "UnitRoom$Reader", name := "wordOf", desc := "(LUnitRoom$InputTape;I)I" } : Jvm.MethodName)) ∈ ur_G := ur_mem 486 (by first | rfl | decide +kernel) (by decide +kernel)
set_option maxRecDepth 100000 in
theorem mw470 : (Jvm.Cond.code ({ cls := "UnitRoom$Reader", name := "wordOf", desc := "(LUnitRoom$InputTape;I)I" } : Jvm.MethodName) prog_7_method_7_code (4 : Nat) (Option.some Jvm.ClassFile.FieldType.int)) ∈ ur_G := ur_mem 487 (by first | rfl | decide +kernel) (by decide +kernel)
set_option maxRecDepth 100000 in
theorem mw471 : (Jvm.Cond.methodLink "UnitRoom$Reader" (33 : Nat) ({ cls := "UnitRoom$InputTape", name := "codeAt", desc := "(I)I" } : Jvm.MethodName)) ∈ ur_G := ur_mem 488 (by first | rfl | decide +kernel) (by decide +kernel)
set_option maxRecDepth 100000 in
theorem mw472 : (Jvm.Cond.instanceMethod ({ cls := "UnitRoom$InputTape", name := "codeAt", desc := "(I)I" } : Jvm.MethodName)) ∈ ur_G := ur_mem 489 (by first | rfl | decide +kernel) (by decide +kernel)
set_option maxRecDepth 100000 in
theorem mw473 : (Jvm.Cond.selects "UnitRoom$InputTape" ({ cls := "UnitRoom$InputTape", name := "codeAt", desc := "(I)I" } : Jvm.MethodName) ({ cls := "UnitRoom$InputTape", name := "codeAt", desc := "(I)I" } : Jvm.MethodName)) ∈ ur_G := ur_mem 490 (by first | rfl | decide +kernel) (by decide +kernel)
set_option maxRecDepth 100000 in
theorem mw474 : (Jvm.Cond.code ({ cls := "UnitRoom$InputTape", name := "codeAt", desc := "(I)I" } : Jvm.MethodName) prog_5_method_5_code (2 : Nat) (Option.some Jvm.ClassFile.FieldType.int)) ∈ ur_G := ur_mem 491 (by first | rfl | decide +kernel) (by decide +kernel)
set_option maxRecDepth 100000 in
theorem mw476 : (Jvm.Cond.static ({ cls := "UnitRoom", name := "codeOf", desc := "(I)I" } : Jvm.MethodName)) ∈ ur_G := ur_mem 493 (by first | rfl | decide +kernel) (by decide +kernel)
set_option maxRecDepth 100000 in
theorem mw477 : (Jvm.Cond.code ({ cls := "UnitRoom", name := "codeOf", desc := "(I)I" } : Jvm.MethodName) prog_1_method_19_code (2 : Nat) (Option.some Jvm.ClassFile.FieldType.int)) ∈ ur_G := ur_mem 494 (by first | rfl | decide +kernel) (by decide +kernel)
set_option maxRecDepth 100000 in
theorem mw478 : (Jvm.Cond.methodLink "UnitRoom" (170 : Nat) ({ cls := "java/lang/String", name := "indexOf", desc := "(I)I" } : Jvm.MethodName)) ∈ ur_G := ur_mem 495 (by first | rfl | decide +kernel) (by decide +kernel)
set_option maxRecDepth 100000 in
theorem mw479 : (Jvm.Cond.instanceMethod ({ cls := "java/lang/String", name := "indexOf", desc := "(I)I" } : Jvm.MethodName)) ∈ ur_G := ur_mem 496 (by first | rfl | decide +kernel) (by decide +kernel)
set_option maxRecDepth 100000 in
theorem mw480 : (Jvm.Cond.selects "java/lang/String" ({ cls := "java/lang/String", name := "indexOf", desc := "(I)I" } : Jvm.MethodName) ({ cls := "java/lang/String", name := "indexOf", desc := "(I)I" } : Jvm.MethodName)) ∈ ur_G := ur_mem 497 (by first | rfl | decide +kernel) (by decide +kernel)
set_option maxRecDepth 100000 in
theorem mw481 : (Jvm.Cond.code ({ cls := "java/lang/String", name := "indexOf", desc := "(I)I" } : Jvm.MethodName) prog_14_method_79_code (2 : Nat) (Option.some Jvm.ClassFile.FieldType.int)) ∈ ur_G := ur_mem 498 (by first | rfl | decide +kernel) (by decide +kernel)
set_option maxRecDepth 100000 in
theorem mw482 : (Jvm.Cond.methodLink "java/lang/String" (633 : Nat) ({ cls := "java/lang/String", name := "indexOf", desc := "(II)I" } : Jvm.MethodName)) ∈ ur_G := ur_mem 499 (by first | rfl | decide +kernel) (by decide +kernel)
set_option maxRecDepth 100000 in
theorem mw483 : (Jvm.Cond.instanceMethod ({ cls := "java/lang/String", name := "indexOf", desc := "(II)I" } : Jvm.MethodName)) ∈ ur_G := ur_mem 500 (by first | rfl | decide +kernel) (by decide +kernel)
set_option maxRecDepth 100000 in
theorem mw484 : (Jvm.Cond.selects "java/lang/String" ({ cls := "java/lang/String", name := "indexOf", desc := "(II)I" } : Jvm.MethodName) ({ cls := "java/lang/String", name := "indexOf", desc := "(II)I" } : Jvm.MethodName)) ∈ ur_G := ur_mem 501 (by first | rfl | decide +kernel) (by decide +kernel)
set_option maxRecDepth 100000 in
theorem mw485 : (Jvm.Cond.code ({ cls := "java/lang/String", name := "indexOf", desc := "(II)I" } : Jvm.MethodName) prog_14_method_80_code (3 : Nat) (Option.some Jvm.ClassFile.FieldType.int)) ∈ ur_G := ur_mem 502 (by first | rfl | decide +kernel) (by decide +kernel)
set_option maxRecDepth 100000 in
theorem mw486 : (Jvm.Cond.methodLink "java/lang/String" (505 : Nat) ({ cls := "java/lang/String", name := "length", desc := "()I" } : Jvm.MethodName)) ∈ ur_G := ur_mem 503 (by first | rfl | decide +kernel) (by decide +kernel)
set_option maxRecDepth 100000 in
theorem mw487 : (Jvm.Cond.methodLink "java/lang/String" (637 : Nat) ({ cls := "java/lang/StringLatin1", name := "indexOf", desc := "([BIII)I" } : Jvm.MethodName)) ∈ ur_G := ur_mem 504 (by first | rfl | decide +kernel) (by decide +kernel)
set_option maxRecDepth 100000 in
theorem mw488 : (Jvm.Cond.static ({ cls := "java/lang/StringLatin1", name := "indexOf", desc := "([BIII)I" } : Jvm.MethodName)) ∈ ur_G := ur_mem 505 (by first | rfl | decide +kernel) (by decide +kernel)
set_option maxRecDepth 100000 in
theorem mw489 : (Jvm.Cond.code ({ cls := "java/lang/StringLatin1", name := "indexOf", desc := "([BIII)I" } : Jvm.MethodName) prog_15_method_22_code (4 : Nat) (Option.some Jvm.ClassFile.FieldType.int)) ∈ ur_G := ur_mem 506 (by first | rfl | decide +kernel) (by decide +kernel)
set_option maxRecDepth 100000 in
theorem mw490 : (Jvm.Cond.methodLink "java/lang/StringLatin1" (88 : Nat) ({ cls := "java/lang/StringLatin1", name := "canEncode", desc := "(I)Z" } : Jvm.MethodName)) ∈ ur_G := ur_mem 507 (by first | rfl | decide +kernel) (by decide +kernel)
set_option maxRecDepth 100000 in
theorem mw491 : (Jvm.Cond.static ({ cls := "java/lang/StringLatin1", name := "canEncode", desc := "(I)Z" } : Jvm.MethodName)) ∈ ur_G := ur_mem 508 (by first | rfl | decide +kernel) (by decide +kernel)
set_option maxRecDepth 100000 in
theorem mw492 : (Jvm.Cond.code ({ cls := "java/lang/StringLatin1", name := "canEncode", desc := "(I)Z" } : Jvm.MethodName) prog_15_method_4_code (1 : Nat) (Option.some Jvm.ClassFile.FieldType.boolean)) ∈ ur_G := ur_mem 509 (by first | rfl | decide +kernel) (by decide +kernel)
set_option maxRecDepth 100000 in
theorem mw493 : (Jvm.Cond.methodLink "java/lang/StringLatin1" (92 : Nat) ({ cls := "java/lang/Math", name := "max", desc := "(II)I" } : Jvm.MethodName)) ∈ ur_G := ur_mem 510 (by first | rfl | decide +kernel) (by decide +kernel)
set_option maxRecDepth 100000 in
theorem mw494 : (Jvm.Cond.methodLink "java/lang/StringLatin1" (38 : Nat) ({ cls := "java/lang/Math", name := "min", desc := "(II)I" } : Jvm.MethodName)) ∈ ur_G := ur_mem 511 (by first | rfl | decide +kernel) (by decide +kernel)
set_option maxRecDepth 100000 in
theorem mw495 : (Jvm.Cond.methodLink "java/lang/StringLatin1" (95 : Nat) ({ cls := "java/lang/StringLatin1", name := "indexOfChar", desc := "([BIII)I" } : Jvm.MethodName)) ∈ ur_G := ur_mem 512 (by first | rfl | decide +kernel) (by decide +kernel)
set_option maxRecDepth 100000 in
theorem mw496 : (Jvm.Cond.static ({ cls := "java/lang/StringLatin1", name := "indexOfChar", desc := "([BIII)I" } : Jvm.MethodName)) ∈ ur_G := ur_mem 513 (by first | rfl | decide +kernel) (by decide +kernel)
set_option maxRecDepth 100000 in
theorem mw497 : (Jvm.Cond.code ({ cls := "java/lang/StringLatin1", name := "indexOfChar", desc := "([BIII)I" } : Jvm.MethodName) prog_15_method_23_code (6 : Nat) (Option.some Jvm.ClassFile.FieldType.int)) ∈ ur_G := ur_mem 514 (by first | rfl | decide +kernel) (by decide +kernel)
set_option maxRecDepth 100000 in
theorem mw511 : (Jvm.Cond.static ({ cls := "java/lang/String", name := "checkBoundsBeginEnd", desc := "(III)V" } : Jvm.MethodName)) ∈ ur_G := ur_mem 528 (by first | rfl | decide +kernel) (by decide +kernel)
set_option maxRecDepth 100000 in
theorem mw512 : (Jvm.Cond.code ({ cls := "java/lang/String", name := "checkBoundsBeginEnd", desc := "(III)V" } : Jvm.MethodName) prog_14_method_158_code (3 : Nat) (Option.none : Option Jvm.ClassFile.FieldType)) ∈ ur_G := ur_mem 529 (by first | rfl | decide +kernel) (by decide +kernel)
set_option maxRecDepth 100000 in
theorem mw513 : (Jvm.Cond.methodLink "java/lang/String" (1062 : Nat) ({ cls := "jdk/internal/util/Preconditions", name := "checkFromToIndex", desc := "(IIILjava/util/function/BiFunction;)I" } : Jvm.MethodName)) ∈ ur_G := ur_mem 530 (by first | rfl | decide +kernel) (by decide +kernel)
set_option maxRecDepth 100000 in
theorem mw514 : (Jvm.Cond.static ({ cls := "jdk/internal/util/Preconditions", name := "checkFromToIndex", desc := "(IIILjava/util/function/BiFunction;)I" } : Jvm.MethodName)) ∈ ur_G := ur_mem 531 (by first | rfl | decide +kernel) (by decide +kernel)
set_option maxRecDepth 100000 in
theorem mw515 : (Jvm.Cond.code ({ cls := "jdk/internal/util/Preconditions", name := "checkFromToIndex", desc := "(IIILjava/util/function/BiFunction;)I" } : Jvm.MethodName) prog_18_method_12_code (4 : Nat) (Option.some Jvm.ClassFile.FieldType.int)) ∈ ur_G := ur_mem 532 (by first | rfl | decide +kernel) (by decide +kernel)
set_option maxRecDepth 100000 in
theorem mw533 : (Jvm.Cond.methodLink "UnitRoom" (123 : Nat) ({ cls := "UnitRoom$Reader", name := "tell", desc := "()I" } : Jvm.MethodName)) ∈ ur_G := ur_mem 550 (by first | rfl | decide +kernel) (by decide +kernel)
set_option maxRecDepth 100000 in
theorem mw534 : (Jvm.Cond.instanceMethod ({ cls := "UnitRoom$Reader", name := "tell", desc := "()I" } : Jvm.MethodName)) ∈ ur_G := ur_mem 551 (by first | rfl | decide +kernel) (by decide +kernel)
set_option maxRecDepth 100000 in
theorem mw535 : (Jvm.Cond.selects "UnitRoom$Reader" ({ cls := "UnitRoom$Reader", name := "tell", desc := "()I" } : Jvm.MethodName) ({ cls := "UnitRoom$Reader", name := "tell", desc := "()I" } : Jvm.MethodName)) ∈ ur_G := ur_mem 552 (by first | rfl | decide +kernel) (by decide +kernel)
set_option maxRecDepth 100000 in
theorem mw536 : (Jvm.Cond.code ({ cls := "UnitRoom$Reader", name := "tell", desc := "()I" } : Jvm.MethodName) prog_7_method_6_code (1 : Nat) (Option.some Jvm.ClassFile.FieldType.int)) ∈ ur_G := ur_mem 553 (by first | rfl | decide +kernel) (by decide +kernel)
set_option maxRecDepth 100000 in
theorem mw537 : (Jvm.Cond.methodLink "UnitRoomLaw" (57 : Nat) ({ cls := "UnitRoom", name := "unit", desc := "(I)I" } : Jvm.MethodName)) ∈ ur_G := ur_mem 554 (by first | rfl | decide +kernel) (by decide +kernel)
set_option maxRecDepth 100000 in
theorem mw538 : (Jvm.Cond.instanceMethod ({ cls := "UnitRoom", name := "unit", desc := "(I)I" } : Jvm.MethodName)) ∈ ur_G := ur_mem 555 (by first | rfl | decide +kernel) (by decide +kernel)
set_option maxRecDepth 100000 in
theorem mw539 : (Jvm.Cond.selects "UnitRoom" ({ cls := "UnitRoom", name := "unit", desc := "(I)I" } : Jvm.MethodName) ({ cls := "UnitRoom", name := "unit", desc := "(I)I" } : Jvm.MethodName)) ∈ ur_G := ur_mem 556 (by first | rfl | decide +kernel) (by decide +kernel)
set_option maxRecDepth 100000 in
theorem mw540 : (Jvm.Cond.code ({ cls := "UnitRoom", name := "unit", desc := "(I)I" } : Jvm.MethodName) prog_1_method_11_code (3 : Nat) (Option.some Jvm.ClassFile.FieldType.int)) ∈ ur_G := ur_mem 557 (by first | rfl | decide +kernel) (by decide +kernel)
set_option maxRecDepth 100000 in
theorem mw541 : (Jvm.Cond.methodLink "UnitRoom" (127 : Nat) ({ cls := "UnitRoom$Device", name := "tell", desc := "()I" } : Jvm.MethodName)) ∈ ur_G := ur_mem 558 (by first | rfl | decide +kernel) (by decide +kernel)
set_option maxRecDepth 100000 in
theorem mw543 : (Jvm.Cond.sameMethod "UnitRoom$Device" "UnitRoom$Device" "tell" "()I") ∈ ur_G := ur_mem 560 (by first | rfl | decide +kernel) (by decide +kernel)
set_option maxRecDepth 100000 in
theorem mw544 : (Jvm.Cond.selects "UnitRoom$Disk" ({ cls := "UnitRoom$Device", name := "tell", desc := "()I" } : Jvm.MethodName) ({ cls := "UnitRoom$Disk", name := "tell", desc := "()I" } : Jvm.MethodName)) ∈ ur_G := ur_mem 561 (by first | rfl | decide +kernel) (by decide +kernel)
set_option maxRecDepth 100000 in
theorem mw545 : (Jvm.Cond.instanceMethod ({ cls := "UnitRoom$Disk", name := "tell", desc := "()I" } : Jvm.MethodName)) ∈ ur_G := ur_mem 562 (by first | rfl | decide +kernel) (by decide +kernel)
set_option maxRecDepth 100000 in
theorem mw546 : (Jvm.Cond.code ({ cls := "UnitRoom$Disk", name := "tell", desc := "()I" } : Jvm.MethodName) prog_4_method_4_code (1 : Nat) (Option.some Jvm.ClassFile.FieldType.int)) ∈ ur_G := ur_mem 563 (by first | rfl | decide +kernel) (by decide +kernel)
set_option maxRecDepth 100000 in
theorem mw547 : (Jvm.Cond.selects "UnitRoom$Reader" ({ cls := "UnitRoom$Device", name := "tell", desc := "()I" } : Jvm.MethodName) ({ cls := "UnitRoom$Reader", name := "tell", desc := "()I" } : Jvm.MethodName)) ∈ ur_G := ur_mem 564 (by first | rfl | decide +kernel) (by decide +kernel)
set_option maxRecDepth 100000 in
theorem mw548 : (Jvm.Cond.selects "UnitRoom$Tape" ({ cls := "UnitRoom$Device", name := "tell", desc := "()I" } : Jvm.MethodName) ({ cls := "UnitRoom$Tape", name := "tell", desc := "()I" } : Jvm.MethodName)) ∈ ur_G := ur_mem 565 (by first | rfl | decide +kernel) (by decide +kernel)
set_option maxRecDepth 100000 in
theorem mw549 : (Jvm.Cond.instanceMethod ({ cls := "UnitRoom$Tape", name := "tell", desc := "()I" } : Jvm.MethodName)) ∈ ur_G := ur_mem 566 (by first | rfl | decide +kernel) (by decide +kernel)
set_option maxRecDepth 100000 in
theorem mw550 : (Jvm.Cond.code ({ cls := "UnitRoom$Tape", name := "tell", desc := "()I" } : Jvm.MethodName) prog_8_method_4_code (1 : Nat) (Option.some Jvm.ClassFile.FieldType.int)) ∈ ur_G := ur_mem 567 (by first | rfl | decide +kernel) (by decide +kernel)
set_option maxRecDepth 100000 in
theorem mw551 : (Jvm.Cond.selects "UnitRoom$Writer" ({ cls := "UnitRoom$Device", name := "tell", desc := "()I" } : Jvm.MethodName) ({ cls := "UnitRoom$Writer", name := "tell", desc := "()I" } : Jvm.MethodName)) ∈ ur_G := ur_mem 568 (by first | rfl | decide +kernel) (by decide +kernel)
set_option maxRecDepth 100000 in
theorem mw552 : (Jvm.Cond.instanceMethod ({ cls := "UnitRoom$Writer", name := "tell", desc := "()I" } : Jvm.MethodName)) ∈ ur_G := ur_mem 569 (by first | rfl | decide +kernel) (by decide +kernel)
set_option maxRecDepth 100000 in
theorem mw553 : (Jvm.Cond.code ({ cls := "UnitRoom$Writer", name := "tell", desc := "()I" } : Jvm.MethodName) prog_9_method_5_code (1 : Nat) (Option.some Jvm.ClassFile.FieldType.int)) ∈ ur_G := ur_mem 570 (by first | rfl | decide +kernel) (by decide +kernel)
set_option maxRecDepth 100000 in
theorem mw554 : (Jvm.Cond.methodLink "UnitRoomLaw" (61 : Nat) ({ cls := "UnitRoom", name := "letter", desc := "(III)I" } : Jvm.MethodName)) ∈ ur_G := ur_mem 571 (by first | rfl | decide +kernel) (by decide +kernel)
set_option maxRecDepth 100000 in
theorem mw555 : (Jvm.Cond.instanceMethod ({ cls := "UnitRoom", name := "letter", desc := "(III)I" } : Jvm.MethodName)) ∈ ur_G := ur_mem 572 (by first | rfl | decide +kernel) (by decide +kernel)
set_option maxRecDepth 100000 in
theorem mw556 : (Jvm.Cond.selects "UnitRoom" ({ cls := "UnitRoom", name := "letter", desc := "(III)I" } : Jvm.MethodName) ({ cls := "UnitRoom", name := "letter", desc := "(III)I" } : Jvm.MethodName)) ∈ ur_G := ur_mem 573 (by first | rfl | decide +kernel) (by decide +kernel)
set_option maxRecDepth 100000 in
theorem mw557 : (Jvm.Cond.code ({ cls := "UnitRoom", name := "letter", desc := "(III)I" } : Jvm.MethodName) prog_1_method_12_code (6 : Nat) (Option.some Jvm.ClassFile.FieldType.int)) ∈ ur_G := ur_mem 574 (by first | rfl | decide +kernel) (by decide +kernel)
set_option maxRecDepth 100000 in
theorem mw558 : (Jvm.Cond.methodLink "UnitRoom" (128 : Nat) ({ cls := "UnitRoom$Writer", name := "letterAt", desc := "(II)I" } : Jvm.MethodName)) ∈ ur_G := ur_mem 575 (by first | rfl | decide +kernel) (by decide +kernel)
set_option maxRecDepth 100000 in
theorem mw559 : (Jvm.Cond.instanceMethod ({ cls := "UnitRoom$Writer", name := "letterAt", desc := "(II)I" } : Jvm.MethodName)) ∈ ur_G := ur_mem 576 (by first | rfl | decide +kernel) (by decide +kernel)
set_option maxRecDepth 100000 in
theorem mw560 : (Jvm.Cond.selects "UnitRoom$Writer" ({ cls := "UnitRoom$Writer", name := "letterAt", desc := "(II)I" } : Jvm.MethodName) ({ cls := "UnitRoom$Writer", name := "letterAt", desc := "(II)I" } : Jvm.MethodName)) ∈ ur_G := ur_mem 577 (by first | rfl | decide +kernel) (by decide +kernel)
set_option maxRecDepth 100000 in
theorem mw561 : (Jvm.Cond.code ({ cls := "UnitRoom$Writer", name := "letterAt", desc := "(II)I" } : Jvm.MethodName) prog_9_method_2_code (4 : Nat) (Option.some Jvm.ClassFile.FieldType.int)) ∈ ur_G := ur_mem 578 (by first | rfl | decide +kernel) (by decide +kernel)
set_option maxRecDepth 100000 in
theorem mw562 : (Jvm.Cond.methodLink "UnitRoomLaw" (66 : Nat) ({ cls := "UnitRoom", name := "block", desc := "(III)I" } : Jvm.MethodName)) ∈ ur_G := ur_mem 579 (by first | rfl | decide +kernel) (by decide +kernel)
set_option maxRecDepth 100000 in
theorem mw563 : (Jvm.Cond.instanceMethod ({ cls := "UnitRoom", name := "block", desc := "(III)I" } : Jvm.MethodName)) ∈ ur_G := ur_mem 580 (by first | rfl | decide +kernel) (by decide +kernel)
set_option maxRecDepth 100000 in
theorem mw564 : (Jvm.Cond.selects "UnitRoom" ({ cls := "UnitRoom", name := "block", desc := "(III)I" } : Jvm.MethodName) ({ cls := "UnitRoom", name := "block", desc := "(III)I" } : Jvm.MethodName)) ∈ ur_G := ur_mem 581 (by first | rfl | decide +kernel) (by decide +kernel)
set_option maxRecDepth 100000 in
theorem mw565 : (Jvm.Cond.code ({ cls := "UnitRoom", name := "block", desc := "(III)I" } : Jvm.MethodName) prog_1_method_13_code (6 : Nat) (Option.some Jvm.ClassFile.FieldType.int)) ∈ ur_G := ur_mem 582 (by first | rfl | decide +kernel) (by decide +kernel)
set_option maxRecDepth 100000 in
theorem mw566 : (Jvm.Cond.classLink "UnitRoom" (131 : Nat) "UnitRoom$BlockDevice") ∈ ur_G := ur_mem 583 (by first | rfl | decide +kernel) (by decide +kernel)
set_option maxRecDepth 100000 in
theorem mw567 : (Jvm.Cond.methodLink "UnitRoom" (133 : Nat) ({ cls := "UnitRoom$BlockDevice", name := "wordAt", desc := "(II)I" } : Jvm.MethodName)) ∈ ur_G := ur_mem 584 (by first | rfl | decide +kernel) (by decide +kernel)
set_option maxRecDepth 100000 in
theorem mw568 : (Jvm.Cond.constant "UnitRoom" (136 : Nat) (2147483647 : Int32)) ∈ ur_G := ur_mem 585 (by first | rfl | decide +kernel) (by decide +kernel)
set_option maxRecDepth 100000 in
theorem mw569 : (Jvm.Cond.classLink "UnitRoomLaw" (10 : Nat) "UnitRoomModel") ∈ ur_G := ur_mem 586 (by first | rfl | decide +kernel) (by decide +kernel)
set_option maxRecDepth 100000 in
theorem mw570 : (Jvm.Cond.instantiable "UnitRoomModel" (18 : Nat)) ∈ ur_G := ur_mem 587 (by first | rfl | decide +kernel) (by decide +kernel)
set_option maxRecDepth 100000 in
theorem mw571 : (Jvm.Cond.methodLink "UnitRoomLaw" (12 : Nat) ({ cls := "UnitRoomModel", name := "<init>", desc := "()V" } : Jvm.MethodName)) ∈ ur_G := ur_mem 588 (by first | rfl | decide +kernel) (by decide +kernel)
set_option maxRecDepth 100000 in
theorem mw572 : (Jvm.Cond.instanceMethod ({ cls := "UnitRoomModel", name := "<init>", desc := "()V" } : Jvm.MethodName)) ∈ ur_G := ur_mem 589 (by first | rfl | decide +kernel) (by decide +kernel)
set_option maxRecDepth 100000 in
theorem mw573 : (Jvm.Cond.code ({ cls := "UnitRoomModel", name := "<init>", desc := "()V" } : Jvm.MethodName) prog_11_method_1_code (1 : Nat) (Option.none : Option Jvm.ClassFile.FieldType)) ∈ ur_G := ur_mem 590 (by first | rfl | decide +kernel) (by decide +kernel)
set_option maxRecDepth 100000 in
theorem mw574 : (Jvm.Cond.methodLink "UnitRoomModel" (1 : Nat) ({ cls := "java/lang/Object", name := "<init>", desc := "()V" } : Jvm.MethodName)) ∈ ur_G := ur_mem 591 (by first | rfl | decide +kernel) (by decide +kernel)
set_option maxRecDepth 100000 in
theorem mw575 : (Jvm.Cond.constant "UnitRoomModel" (13 : Nat) (38400 : Int32)) ∈ ur_G := ur_mem 592 (by first | rfl | decide +kernel) (by decide +kernel)
set_option maxRecDepth 100000 in
theorem mw576 : (Jvm.Cond.constant "UnitRoomModel" (46 : Nat) (108000 : Int32)) ∈ ur_G := ur_mem 593 (by first | rfl | decide +kernel) (by decide +kernel)
set_option maxRecDepth 100000 in
theorem mw577 : (Jvm.Cond.fieldLink "UnitRoomModel" (7 : Nat) "UnitRoomModel" "memory" "[I") ∈ ur_G := ur_mem 594 (by first | rfl | decide +kernel) (by decide +kernel)
set_option maxRecDepth 100000 in
theorem mw578 : (Jvm.Cond.fieldLink "UnitRoomModel" (14 : Nat) "UnitRoomModel" "blocks" "[I") ∈ ur_G := ur_mem 595 (by first | rfl | decide +kernel) (by decide +kernel)
set_option maxRecDepth 100000 in
theorem mw579 : (Jvm.Cond.fieldLink "UnitRoomModel" (17 : Nat) "UnitRoomModel" "stands" "[I") ∈ ur_G := ur_mem 596 (by first | rfl | decide +kernel) (by decide +kernel)
set_option maxRecDepth 100000 in
theorem mw580 : (Jvm.Cond.fieldLink "UnitRoomModel" (83 : Nat) "UnitRoomModel" "time" "J") ∈ ur_G := ur_mem 597 (by first | rfl | decide +kernel) (by decide +kernel)
set_option maxRecDepth 100000 in
theorem mw581 : (Jvm.Cond.fieldLink "UnitRoomModel" (20 : Nat) "UnitRoomModel" "free" "[J") ∈ ur_G := ur_mem 598 (by first | rfl | decide +kernel) (by decide +kernel)
set_option maxRecDepth 100000 in
theorem mw582 : (Jvm.Cond.fieldLink "UnitRoomModel" (24 : Nat) "UnitRoomModel" "comes" "[Z") ∈ ur_G := ur_mem 599 (by first | rfl | decide +kernel) (by decide +kernel)
set_option maxRecDepth 100000 in
theorem mw583 : (Jvm.Cond.fieldLink "UnitRoomModel" (28 : Nat) "UnitRoomModel" "goals" "[I") ∈ ur_G := ur_mem 600 (by first | rfl | decide +kernel) (by decide +kernel)
set_option maxRecDepth 100000 in
theorem mw584 : (Jvm.Cond.fieldLink "UnitRoomModel" (31 : Nat) "UnitRoomModel" "numbers" "[I") ∈ ur_G := ur_mem 601 (by first | rfl | decide +kernel) (by decide +kernel)
set_option maxRecDepth 100000 in
theorem mw585 : (Jvm.Cond.fieldLink "UnitRoomModel" (116 : Nat) "UnitRoomModel" "operations" "I") ∈ ur_G := ur_mem 602 (by first | rfl | decide +kernel) (by decide +kernel)
set_option maxRecDepth 100000 in
theorem mw586 : (Jvm.Cond.fieldLink "UnitRoomModel" (34 : Nat) "UnitRoomModel" "brought" "[I") ∈ ur_G := ur_mem 603 (by first | rfl | decide +kernel) (by decide +kernel)
set_option maxRecDepth 100000 in
theorem mw587 : (Jvm.Cond.fieldLink "UnitRoomModel" (80 : Nat) "UnitRoomModel" "cards" "I") ∈ ur_G := ur_mem 604 (by first | rfl | decide +kernel) (by decide +kernel)
set_option maxRecDepth 100000 in
theorem mw588 : (Jvm.Cond.fieldLink "UnitRoomModel" (37 : Nat) "UnitRoomModel" "cardBytes" "[I") ∈ ur_G := ur_mem 605 (by first | rfl | decide +kernel) (by decide +kernel)
set_option maxRecDepth 100000 in
theorem mw589 : (Jvm.Cond.fieldLink "UnitRoomModel" (40 : Nat) "UnitRoomModel" "lines" "[I") ∈ ur_G := ur_mem 606 (by first | rfl | decide +kernel) (by decide +kernel)
set_option maxRecDepth 100000 in
theorem mw590 : (Jvm.Cond.fieldLink "UnitRoomModel" (43 : Nat) "UnitRoomModel" "lengths" "[I") ∈ ur_G := ur_mem 607 (by first | rfl | decide +kernel) (by decide +kernel)
set_option maxRecDepth 100000 in
theorem mw591 : (Jvm.Cond.fieldLink "UnitRoomModel" (47 : Nat) "UnitRoomModel" "letters" "[B") ∈ ur_G := ur_mem 608 (by first | rfl | decide +kernel) (by decide +kernel)
set_option maxRecDepth 100000 in
theorem mw592 : (Jvm.Cond.fieldLink "UnitRoomModel" (51 : Nat) "UnitRoomModel" "tape" "[I") ∈ ur_G := ur_mem 609 (by first | rfl | decide +kernel) (by decide +kernel)
set_option maxRecDepth 100000 in
theorem mw593 : (Jvm.Cond.fieldLink "UnitRoomModel" (60 : Nat) "UnitRoomModel" "tapeSize" "I") ∈ ur_G := ur_mem 610 (by first | rfl | decide +kernel) (by decide +kernel)
set_option maxRecDepth 100000 in
theorem mw594 : (Jvm.Cond.fieldLink "UnitRoomModel" (54 : Nat) "UnitRoomModel" "alphabet" "[I") ∈ ur_G := ur_mem 611 (by first | rfl | decide +kernel) (by decide +kernel)
set_option maxRecDepth 100000 in
theorem mw632 : (Jvm.Cond.arrayClass Jvm.ClassFile.FieldType.long) ∈ ur_G := ur_mem 649 (by first | rfl | decide +kernel) (by decide +kernel)
set_option maxRecDepth 100000 in
theorem mw633 : (Jvm.Cond.arrayClass Jvm.ClassFile.FieldType.boolean) ∈ ur_G := ur_mem 650 (by first | rfl | decide +kernel) (by decide +kernel)
set_option maxRecDepth 100000 in
theorem mw634 : (Jvm.Cond.methodLink "UnitRoomLaw" (17 : Nat) ({ cls := "UnitRoomModel", name := "feed", desc := "(IIIII)Z" } : Jvm.MethodName)) ∈ ur_G := ur_mem 651 (by first | rfl | decide +kernel) (by decide +kernel)
set_option maxRecDepth 100000 in
theorem mw635 : (Jvm.Cond.instanceMethod ({ cls := "UnitRoomModel", name := "feed", desc := "(IIIII)Z" } : Jvm.MethodName)) ∈ ur_G := ur_mem 652 (by first | rfl | decide +kernel) (by decide +kernel)
set_option maxRecDepth 100000 in
theorem mw636 : (Jvm.Cond.selects "UnitRoomModel" ({ cls := "UnitRoomModel", name := "feed", desc := "(IIIII)Z" } : Jvm.MethodName) ({ cls := "UnitRoomModel", name := "feed", desc := "(IIIII)Z" } : Jvm.MethodName)) ∈ ur_G := ur_mem 653 (by first | rfl | decide +kernel) (by decide +kernel)
set_option maxRecDepth 100000 in
theorem mw637 : (Jvm.Cond.code ({ cls := "UnitRoomModel", name := "feed", desc := "(IIIII)Z" } : Jvm.MethodName) prog_11_method_5_code (8 : Nat) (Option.some Jvm.ClassFile.FieldType.boolean)) ∈ ur_G := ur_mem 654 (by first | rfl | decide +kernel) (by decide +kernel)
set_option maxRecDepth 100000 in
theorem mw638 : (Jvm.Cond.methodLink "UnitRoomLaw" (22 : Nat) ({ cls := "UnitRoomModel", name := "end", desc := "(I)Z" } : Jvm.MethodName)) ∈ ur_G := ur_mem 655 (by first | rfl | decide +kernel) (by decide +kernel)
set_option maxRecDepth 100000 in
theorem mw639 : (Jvm.Cond.instanceMethod ({ cls := "UnitRoomModel", name := "end", desc := "(I)Z" } : Jvm.MethodName)) ∈ ur_G := ur_mem 656 (by first | rfl | decide +kernel) (by decide +kernel)
set_option maxRecDepth 100000 in
theorem mw640 : (Jvm.Cond.selects "UnitRoomModel" ({ cls := "UnitRoomModel", name := "end", desc := "(I)Z" } : Jvm.MethodName) ({ cls := "UnitRoomModel", name := "end", desc := "(I)Z" } : Jvm.MethodName)) ∈ ur_G := ur_mem 657 (by first | rfl | decide +kernel) (by decide +kernel)
set_option maxRecDepth 100000 in
theorem mw641 : (Jvm.Cond.code ({ cls := "UnitRoomModel", name := "end", desc := "(I)Z" } : Jvm.MethodName) prog_11_method_6_code (2 : Nat) (Option.some Jvm.ClassFile.FieldType.boolean)) ∈ ur_G := ur_mem 658 (by first | rfl | decide +kernel) (by decide +kernel)
set_option maxRecDepth 100000 in
theorem mw642 : (Jvm.Cond.methodLink "UnitRoomModel" (64 : Nat) ({ cls := "UnitRoomModel", name := "in", desc := "(III)Z" } : Jvm.MethodName)) ∈ ur_G := ur_mem 659 (by first | rfl | decide +kernel) (by decide +kernel)
set_option maxRecDepth 100000 in
theorem mw643 : (Jvm.Cond.static ({ cls := "UnitRoomModel", name := "in", desc := "(III)Z" } : Jvm.MethodName)) ∈ ur_G := ur_mem 660 (by first | rfl | decide +kernel) (by decide +kernel)
set_option maxRecDepth 100000 in
theorem mw644 : (Jvm.Cond.code ({ cls := "UnitRoomModel", name := "in", desc := "(III)Z" } : Jvm.MethodName) prog_11_method_3_code (3 : Nat) (Option.some Jvm.ClassFile.FieldType.boolean)) ∈ ur_G := ur_mem 661 (by first | rfl | decide +kernel) (by decide +kernel)
set_option maxRecDepth 100000 in
theorem mw645 : (Jvm.Cond.methodLink "UnitRoomLaw" (27 : Nat) ({ cls := "UnitRoomModel", name := "set", desc := "(IIZ)Z" } : Jvm.MethodName)) ∈ ur_G := ur_mem 662 (by first | rfl | decide +kernel) (by decide +kernel)
set_option maxRecDepth 100000 in
theorem mw646 : (Jvm.Cond.instanceMethod ({ cls := "UnitRoomModel", name := "set", desc := "(IIZ)Z" } : Jvm.MethodName)) ∈ ur_G := ur_mem 663 (by first | rfl | decide +kernel) (by decide +kernel)
set_option maxRecDepth 100000 in
theorem mw647 : (Jvm.Cond.selects "UnitRoomModel" ({ cls := "UnitRoomModel", name := "set", desc := "(IIZ)Z" } : Jvm.MethodName) ({ cls := "UnitRoomModel", name := "set", desc := "(IIZ)Z" } : Jvm.MethodName)) ∈ ur_G := ur_mem 664 (by first | rfl | decide +kernel) (by decide +kernel)
set_option maxRecDepth 100000 in
theorem mw648 : (Jvm.Cond.code ({ cls := "UnitRoomModel", name := "set", desc := "(IIZ)Z" } : Jvm.MethodName) prog_11_method_7_code (5 : Nat) (Option.some Jvm.ClassFile.FieldType.boolean)) ∈ ur_G := ur_mem 665 (by first | rfl | decide +kernel) (by decide +kernel)
set_option maxRecDepth 100000 in
theorem mw649 : (Jvm.Cond.constant "UnitRoomModel" (68 : Nat) (-1073741823 : Int32)) ∈ ur_G := ur_mem 666 (by first | rfl | decide +kernel) (by decide +kernel)
set_option maxRecDepth 100000 in
theorem mw650 : (Jvm.Cond.constant "UnitRoomModel" (57 : Nat) (1073741823 : Int32)) ∈ ur_G := ur_mem 667 (by first | rfl | decide +kernel) (by decide +kernel)
set_option maxRecDepth 100000 in
theorem mw651 : (Jvm.Cond.constant "UnitRoomModel" (58 : Nat) (1073741824 : Int32)) ∈ ur_G := ur_mem 668 (by first | rfl | decide +kernel) (by decide +kernel)
set_option maxRecDepth 100000 in
theorem mw652 : (Jvm.Cond.methodLink "UnitRoomLaw" (32 : Nat) ({ cls := "UnitRoomModel", name := "fill", desc := "(III)Z" } : Jvm.MethodName)) ∈ ur_G := ur_mem 669 (by first | rfl | decide +kernel) (by decide +kernel)
set_option maxRecDepth 100000 in
theorem mw653 : (Jvm.Cond.instanceMethod ({ cls := "UnitRoomModel", name := "fill", desc := "(III)Z" } : Jvm.MethodName)) ∈ ur_G := ur_mem 670 (by first | rfl | decide +kernel) (by decide +kernel)
set_option maxRecDepth 100000 in
theorem mw654 : (Jvm.Cond.selects "UnitRoomModel" ({ cls := "UnitRoomModel", name := "fill", desc := "(III)Z" } : Jvm.MethodName) ({ cls := "UnitRoomModel", name := "fill", desc := "(III)Z" } : Jvm.MethodName)) ∈ ur_G := ur_mem 671 (by first | rfl | decide +kernel) (by decide +kernel)
set_option maxRecDepth 100000 in
theorem mw655 : (Jvm.Cond.code ({ cls := "UnitRoomModel", name := "fill", desc := "(III)Z" } : Jvm.MethodName) prog_11_method_8_code (5 : Nat) (Option.some Jvm.ClassFile.FieldType.boolean)) ∈ ur_G := ur_mem 672 (by first | rfl | decide +kernel) (by decide +kernel)
set_option maxRecDepth 100000 in
theorem mw656 : (Jvm.Cond.methodLink "UnitRoomLaw" (37 : Nat) ({ cls := "UnitRoomModel", name := "word", desc := "(I)I" } : Jvm.MethodName)) ∈ ur_G := ur_mem 673 (by first | rfl | decide +kernel) (by decide +kernel)
set_option maxRecDepth 100000 in
theorem mw657 : (Jvm.Cond.instanceMethod ({ cls := "UnitRoomModel", name := "word", desc := "(I)I" } : Jvm.MethodName)) ∈ ur_G := ur_mem 674 (by first | rfl | decide +kernel) (by decide +kernel)
set_option maxRecDepth 100000 in
theorem mw658 : (Jvm.Cond.selects "UnitRoomModel" ({ cls := "UnitRoomModel", name := "word", desc := "(I)I" } : Jvm.MethodName) ({ cls := "UnitRoomModel", name := "word", desc := "(I)I" } : Jvm.MethodName)) ∈ ur_G := ur_mem 675 (by first | rfl | decide +kernel) (by decide +kernel)
set_option maxRecDepth 100000 in
theorem mw659 : (Jvm.Cond.code ({ cls := "UnitRoomModel", name := "word", desc := "(I)I" } : Jvm.MethodName) prog_11_method_9_code (2 : Nat) (Option.some Jvm.ClassFile.FieldType.int)) ∈ ur_G := ur_mem 676 (by first | rfl | decide +kernel) (by decide +kernel)
set_option maxRecDepth 100000 in
theorem mw660 : (Jvm.Cond.methodLink "UnitRoomModel" (69 : Nat) ({ cls := "UnitRoomModel", name := "told", desc := "(I)I" } : Jvm.MethodName)) ∈ ur_G := ur_mem 677 (by first | rfl | decide +kernel) (by decide +kernel)
set_option maxRecDepth 100000 in
theorem mw661 : (Jvm.Cond.static ({ cls := "UnitRoomModel", name := "told", desc := "(I)I" } : Jvm.MethodName)) ∈ ur_G := ur_mem 678 (by first | rfl | decide +kernel) (by decide +kernel)
set_option maxRecDepth 100000 in
theorem mw662 : (Jvm.Cond.code ({ cls := "UnitRoomModel", name := "told", desc := "(I)I" } : Jvm.MethodName) prog_11_method_4_code (2 : Nat) (Option.some Jvm.ClassFile.FieldType.int)) ∈ ur_G := ur_mem 679 (by first | rfl | decide +kernel) (by decide +kernel)
set_option maxRecDepth 100000 in
theorem mw663 : (Jvm.Cond.constant "UnitRoomModel" (59 : Nat) (-2147483648 : Int32)) ∈ ur_G := ur_mem 680 (by first | rfl | decide +kernel) (by decide +kernel)
set_option maxRecDepth 100000 in
theorem mw664 : (Jvm.Cond.constant "UnitRoomModel" (73 : Nat) (2147483647 : Int32)) ∈ ur_G := ur_mem 681 (by first | rfl | decide +kernel) (by decide +kernel)
set_option maxRecDepth 100000 in
theorem mw665 : (Jvm.Cond.methodLink "UnitRoomLaw" (42 : Nat) ({ cls := "UnitRoomModel", name := "operate", desc := "(IIII)I" } : Jvm.MethodName)) ∈ ur_G := ur_mem 682 (by first | rfl | decide +kernel) (by decide +kernel)
set_option maxRecDepth 100000 in
theorem mw666 : (Jvm.Cond.instanceMethod ({ cls := "UnitRoomModel", name := "operate", desc := "(IIII)I" } : Jvm.MethodName)) ∈ ur_G := ur_mem 683 (by first | rfl | decide +kernel) (by decide +kernel)
set_option maxRecDepth 100000 in
theorem mw667 : (Jvm.Cond.selects "UnitRoomModel" ({ cls := "UnitRoomModel", name := "operate", desc := "(IIII)I" } : Jvm.MethodName) ({ cls := "UnitRoomModel", name := "operate", desc := "(IIII)I" } : Jvm.MethodName)) ∈ ur_G := ur_mem 684 (by first | rfl | decide +kernel) (by decide +kernel)
set_option maxRecDepth 100000 in
theorem mw668 : (Jvm.Cond.code ({ cls := "UnitRoomModel", name := "operate", desc := "(IIII)I" } : Jvm.MethodName) prog_11_method_24_code (7 : Nat) (Option.some Jvm.ClassFile.FieldType.int)) ∈ ur_G := ur_mem 685 (by first | rfl | decide +kernel) (by decide +kernel)
set_option maxRecDepth 100000 in
theorem mw669 : (Jvm.Cond.methodLink "UnitRoomModel" (102 : Nat) ({ cls := "UnitRoomModel", name := "placeOf", desc := "(I)I" } : Jvm.MethodName)) ∈ ur_G := ur_mem 686 (by first | rfl | decide +kernel) (by decide +kernel)
set_option maxRecDepth 100000 in
theorem mw670 : (Jvm.Cond.static ({ cls := "UnitRoomModel", name := "placeOf", desc := "(I)I" } : Jvm.MethodName)) ∈ ur_G := ur_mem 687 (by first | rfl | decide +kernel) (by decide +kernel)
set_option maxRecDepth 100000 in
theorem mw671 : (Jvm.Cond.code ({ cls := "UnitRoomModel", name := "placeOf", desc := "(I)I" } : Jvm.MethodName) prog_11_method_10_code (1 : Nat) (Option.some Jvm.ClassFile.FieldType.int)) ∈ ur_G := ur_mem 688 (by first | rfl | decide +kernel) (by decide +kernel)
set_option maxRecDepth 100000 in
theorem mw672 : (Jvm.Cond.methodLink "UnitRoomModel" (105 : Nat) ({ cls := "UnitRoomModel", name := "fault", desc := "(IIII)I" } : Jvm.MethodName)) ∈ ur_G := ur_mem 689 (by first | rfl | decide +kernel) (by decide +kernel)
set_option maxRecDepth 100000 in
theorem mw674 : (Jvm.Cond.instanceMethod ({ cls := "UnitRoomModel", name := "fault", desc := "(IIII)I" } : Jvm.MethodName)) ∈ ur_G := ur_mem 691 (by first | rfl | decide +kernel) (by decide +kernel)
set_option maxRecDepth 100000 in
theorem mw675 : (Jvm.Cond.code ({ cls := "UnitRoomModel", name := "fault", desc := "(IIII)I" } : Jvm.MethodName) prog_11_method_14_code (7 : Nat) (Option.some Jvm.ClassFile.FieldType.int)) ∈ ur_G := ur_mem 692 (by first | rfl | decide +kernel) (by decide +kernel)
set_option maxRecDepth 100000 in
theorem mw676 : (Jvm.Cond.methodLink "UnitRoomModel" (74 : Nat) ({ cls := "UnitRoomModel", name := "wordsOf", desc := "(I)I" } : Jvm.MethodName)) ∈ ur_G := ur_mem 693 (by first | rfl | decide +kernel) (by decide +kernel)
set_option maxRecDepth 100000 in
theorem mw677 : (Jvm.Cond.static ({ cls := "UnitRoomModel", name := "wordsOf", desc := "(I)I" } : Jvm.MethodName)) ∈ ur_G := ur_mem 694 (by first | rfl | decide +kernel) (by decide +kernel)
set_option maxRecDepth 100000 in
theorem mw678 : (Jvm.Cond.code ({ cls := "UnitRoomModel", name := "wordsOf", desc := "(I)I" } : Jvm.MethodName) prog_11_method_11_code (1 : Nat) (Option.some Jvm.ClassFile.FieldType.int)) ∈ ur_G := ur_mem 695 (by first | rfl | decide +kernel) (by decide +kernel)
set_option maxRecDepth 100000 in
theorem mw679 : (Jvm.Cond.methodLink "UnitRoomModel" (77 : Nat) ({ cls := "UnitRoomModel", name := "can", desc := "(III)Z" } : Jvm.MethodName)) ∈ ur_G := ur_mem 696 (by first | rfl | decide +kernel) (by decide +kernel)
set_option maxRecDepth 100000 in
theorem mw680 : (Jvm.Cond.static ({ cls := "UnitRoomModel", name := "can", desc := "(III)Z" } : Jvm.MethodName)) ∈ ur_G := ur_mem 697 (by first | rfl | decide +kernel) (by decide +kernel)
set_option maxRecDepth 100000 in
theorem mw681 : (Jvm.Cond.code ({ cls := "UnitRoomModel", name := "can", desc := "(III)Z" } : Jvm.MethodName) prog_11_method_13_code (3 : Nat) (Option.some Jvm.ClassFile.FieldType.boolean)) ∈ ur_G := ur_mem 698 (by first | rfl | decide +kernel) (by decide +kernel)
set_option maxRecDepth 100000 in
theorem mw682 : (Jvm.Cond.methodLink "UnitRoomModel" (109 : Nat) ({ cls := "UnitRoomModel", name := "goOn", desc := "(J)V" } : Jvm.MethodName)) ∈ ur_G := ur_mem 699 (by first | rfl | decide +kernel) (by decide +kernel)
set_option maxRecDepth 100000 in
theorem mw684 : (Jvm.Cond.instanceMethod ({ cls := "UnitRoomModel", name := "goOn", desc := "(J)V" } : Jvm.MethodName)) ∈ ur_G := ur_mem 701 (by first | rfl | decide +kernel) (by decide +kernel)
set_option maxRecDepth 100000 in
theorem mw685 : (Jvm.Cond.code ({ cls := "UnitRoomModel", name := "goOn", desc := "(J)V" } : Jvm.MethodName) prog_11_method_16_code (6 : Nat) (Option.none : Option Jvm.ClassFile.FieldType)) ∈ ur_G := ur_mem 702 (by first | rfl | decide +kernel) (by decide +kernel)
set_option maxRecDepth 100000 in
theorem mw686 : (Jvm.Cond.methodLink "UnitRoomModel" (87 : Nat) ({ cls := "UnitRoomModel", name := "isAhead", desc := "(II)Z" } : Jvm.MethodName)) ∈ ur_G := ur_mem 703 (by first | rfl | decide +kernel) (by decide +kernel)
set_option maxRecDepth 100000 in
theorem mw688 : (Jvm.Cond.instanceMethod ({ cls := "UnitRoomModel", name := "isAhead", desc := "(II)Z" } : Jvm.MethodName)) ∈ ur_G := ur_mem 705 (by first | rfl | decide +kernel) (by decide +kernel)
set_option maxRecDepth 100000 in
theorem mw689 : (Jvm.Cond.code ({ cls := "UnitRoomModel", name := "isAhead", desc := "(II)Z" } : Jvm.MethodName) prog_11_method_15_code (3 : Nat) (Option.some Jvm.ClassFile.FieldType.boolean)) ∈ ur_G := ur_mem 706 (by first | rfl | decide +kernel) (by decide +kernel)
set_option maxRecDepth 100000 in
theorem mw690 : (Jvm.Cond.methodLink "UnitRoomModel" (113 : Nat) ({ cls := "UnitRoomModel", name := "timeOf", desc := "(I)I" } : Jvm.MethodName)) ∈ ur_G := ur_mem 707 (by first | rfl | decide +kernel) (by decide +kernel)
set_option maxRecDepth 100000 in
theorem mw691 : (Jvm.Cond.static ({ cls := "UnitRoomModel", name := "timeOf", desc := "(I)I" } : Jvm.MethodName)) ∈ ur_G := ur_mem 708 (by first | rfl | decide +kernel) (by decide +kernel)
set_option maxRecDepth 100000 in
theorem mw692 : (Jvm.Cond.code ({ cls := "UnitRoomModel", name := "timeOf", desc := "(I)I" } : Jvm.MethodName) prog_11_method_12_code (1 : Nat) (Option.some Jvm.ClassFile.FieldType.int)) ∈ ur_G := ur_mem 709 (by first | rfl | decide +kernel) (by decide +kernel)
set_option maxRecDepth 100000 in
theorem mw693 : (Jvm.Cond.methodLink "UnitRoomModel" (119 : Nat) ({ cls := "UnitRoomModel", name := "control", desc := "(II)V" } : Jvm.MethodName)) ∈ ur_G := ur_mem 710 (by first | rfl | decide +kernel) (by decide +kernel)
set_option maxRecDepth 100000 in
theorem mw695 : (Jvm.Cond.instanceMethod ({ cls := "UnitRoomModel", name := "control", desc := "(II)V" } : Jvm.MethodName)) ∈ ur_G := ur_mem 712 (by first | rfl | decide +kernel) (by decide +kernel)
set_option maxRecDepth 100000 in
theorem mw696 : (Jvm.Cond.code ({ cls := "UnitRoomModel", name := "control", desc := "(II)V" } : Jvm.MethodName) prog_11_method_23_code (5 : Nat) (Option.none : Option Jvm.ClassFile.FieldType)) ∈ ur_G := ur_mem 713 (by first | rfl | decide +kernel) (by decide +kernel)
set_option maxRecDepth 100000 in
theorem mw697 : (Jvm.Cond.constantLong "UnitRoomModel" (97 : Nat) (64 : Int64)) ∈ ur_G := ur_mem 714 (by first | rfl | decide +kernel) (by decide +kernel)
set_option maxRecDepth 100000 in
theorem mw698 : (Jvm.Cond.methodLink "UnitRoomModel" (99 : Nat) ({ cls := "UnitRoomModel", name := "feedForm", desc := "()V" } : Jvm.MethodName)) ∈ ur_G := ur_mem 715 (by first | rfl | decide +kernel) (by decide +kernel)
set_option maxRecDepth 100000 in
theorem mw700 : (Jvm.Cond.instanceMethod ({ cls := "UnitRoomModel", name := "feedForm", desc := "()V" } : Jvm.MethodName)) ∈ ur_G := ur_mem 717 (by first | rfl | decide +kernel) (by decide +kernel)
set_option maxRecDepth 100000 in
theorem mw701 : (Jvm.Cond.code ({ cls := "UnitRoomModel", name := "feedForm", desc := "()V" } : Jvm.MethodName) prog_11_method_21_code (2 : Nat) (Option.none : Option Jvm.ClassFile.FieldType)) ∈ ur_G := ur_mem 718 (by first | rfl | decide +kernel) (by decide +kernel)
set_option maxRecDepth 100000 in
theorem mw702 : (Jvm.Cond.methodLink "UnitRoomModel" (123 : Nat) ({ cls := "UnitRoomModel", name := "useBlock", desc := "(IIII)V" } : Jvm.MethodName)) ∈ ur_G := ur_mem 719 (by first | rfl | decide +kernel) (by decide +kernel)
set_option maxRecDepth 100000 in
theorem mw704 : (Jvm.Cond.instanceMethod ({ cls := "UnitRoomModel", name := "useBlock", desc := "(IIII)V" } : Jvm.MethodName)) ∈ ur_G := ur_mem 721 (by first | rfl | decide +kernel) (by decide +kernel)
set_option maxRecDepth 100000 in
theorem mw705 : (Jvm.Cond.code ({ cls := "UnitRoomModel", name := "useBlock", desc := "(IIII)V" } : Jvm.MethodName) prog_11_method_22_code (7 : Nat) (Option.none : Option Jvm.ClassFile.FieldType)) ∈ ur_G := ur_mem 722 (by first | rfl | decide +kernel) (by decide +kernel)
set_option maxRecDepth 100000 in
theorem mw706 : (Jvm.Cond.methodLink "UnitRoomModel" (127 : Nat) ({ cls := "UnitRoomModel", name := "readCard", desc := "()V" } : Jvm.MethodName)) ∈ ur_G := ur_mem 723 (by first | rfl | decide +kernel) (by decide +kernel)
set_option maxRecDepth 100000 in
theorem mw708 : (Jvm.Cond.instanceMethod ({ cls := "UnitRoomModel", name := "readCard", desc := "()V" } : Jvm.MethodName)) ∈ ur_G := ur_mem 725 (by first | rfl | decide +kernel) (by decide +kernel)
set_option maxRecDepth 100000 in
theorem mw709 : (Jvm.Cond.code ({ cls := "UnitRoomModel", name := "readCard", desc := "()V" } : Jvm.MethodName) prog_11_method_18_code (4 : Nat) (Option.none : Option Jvm.ClassFile.FieldType)) ∈ ur_G := ur_mem 726 (by first | rfl | decide +kernel) (by decide +kernel)
set_option maxRecDepth 100000 in
theorem mw710 : (Jvm.Cond.methodLink "UnitRoomModel" (91 : Nat) ({ cls := "UnitRoomModel", name := "code", desc := "(I)I" } : Jvm.MethodName)) ∈ ur_G := ur_mem 727 (by first | rfl | decide +kernel) (by decide +kernel)
set_option maxRecDepth 100000 in
theorem mw712 : (Jvm.Cond.instanceMethod ({ cls := "UnitRoomModel", name := "code", desc := "(I)I" } : Jvm.MethodName)) ∈ ur_G := ur_mem 729 (by first | rfl | decide +kernel) (by decide +kernel)
set_option maxRecDepth 100000 in
theorem mw713 : (Jvm.Cond.code ({ cls := "UnitRoomModel", name := "code", desc := "(I)I" } : Jvm.MethodName) prog_11_method_17_code (5 : Nat) (Option.some Jvm.ClassFile.FieldType.int)) ∈ ur_G := ur_mem 730 (by first | rfl | decide +kernel) (by decide +kernel)
set_option maxRecDepth 100000 in
theorem mw714 : (Jvm.Cond.methodLink "UnitRoomModel" (130 : Nat) ({ cls := "UnitRoomModel", name := "writeLine", desc := "(II)V" } : Jvm.MethodName)) ∈ ur_G := ur_mem 731 (by first | rfl | decide +kernel) (by decide +kernel)
set_option maxRecDepth 100000 in
theorem mw716 : (Jvm.Cond.instanceMethod ({ cls := "UnitRoomModel", name := "writeLine", desc := "(II)V" } : Jvm.MethodName)) ∈ ur_G := ur_mem 733 (by first | rfl | decide +kernel) (by decide +kernel)
set_option maxRecDepth 100000 in
theorem mw717 : (Jvm.Cond.code ({ cls := "UnitRoomModel", name := "writeLine", desc := "(II)V" } : Jvm.MethodName) prog_11_method_20_code (7 : Nat) (Option.none : Option Jvm.ClassFile.FieldType)) ∈ ur_G := ur_mem 734 (by first | rfl | decide +kernel) (by decide +kernel)
set_option maxRecDepth 100000 in
theorem mw718 : (Jvm.Cond.methodLink "UnitRoomModel" (94 : Nat) ({ cls := "UnitRoomModel", name := "letterOf", desc := "(I)I" } : Jvm.MethodName)) ∈ ur_G := ur_mem 735 (by first | rfl | decide +kernel) (by decide +kernel)
set_option maxRecDepth 100000 in
theorem mw720 : (Jvm.Cond.instanceMethod ({ cls := "UnitRoomModel", name := "letterOf", desc := "(I)I" } : Jvm.MethodName)) ∈ ur_G := ur_mem 737 (by first | rfl | decide +kernel) (by decide +kernel)
set_option maxRecDepth 100000 in
theorem mw721 : (Jvm.Cond.code ({ cls := "UnitRoomModel", name := "letterOf", desc := "(I)I" } : Jvm.MethodName) prog_11_method_19_code (2 : Nat) (Option.some Jvm.ClassFile.FieldType.int)) ∈ ur_G := ur_mem 738 (by first | rfl | decide +kernel) (by decide +kernel)
set_option maxRecDepth 100000 in
theorem mw722 : (Jvm.Cond.methodLink "UnitRoomLaw" (46 : Nat) ({ cls := "UnitRoomModel", name := "isBusy", desc := "(I)Z" } : Jvm.MethodName)) ∈ ur_G := ur_mem 739 (by first | rfl | decide +kernel) (by decide +kernel)
set_option maxRecDepth 100000 in
theorem mw723 : (Jvm.Cond.instanceMethod ({ cls := "UnitRoomModel", name := "isBusy", desc := "(I)Z" } : Jvm.MethodName)) ∈ ur_G := ur_mem 740 (by first | rfl | decide +kernel) (by decide +kernel)
set_option maxRecDepth 100000 in
theorem mw724 : (Jvm.Cond.selects "UnitRoomModel" ({ cls := "UnitRoomModel", name := "isBusy", desc := "(I)Z" } : Jvm.MethodName) ({ cls := "UnitRoomModel", name := "isBusy", desc := "(I)Z" } : Jvm.MethodName)) ∈ ur_G := ur_mem 741 (by first | rfl | decide +kernel) (by decide +kernel)
set_option maxRecDepth 100000 in
theorem mw725 : (Jvm.Cond.code ({ cls := "UnitRoomModel", name := "isBusy", desc := "(I)Z" } : Jvm.MethodName) prog_11_method_25_code (3 : Nat) (Option.some Jvm.ClassFile.FieldType.boolean)) ∈ ur_G := ur_mem 742 (by first | rfl | decide +kernel) (by decide +kernel)
set_option maxRecDepth 100000 in
theorem mw726 : (Jvm.Cond.methodLink "UnitRoomLaw" (51 : Nat) ({ cls := "UnitRoomModel", name := "pass", desc := "(I)J" } : Jvm.MethodName)) ∈ ur_G := ur_mem 743 (by first | rfl | decide +kernel) (by decide +kernel)
set_option maxRecDepth 100000 in
theorem mw727 : (Jvm.Cond.instanceMethod ({ cls := "UnitRoomModel", name := "pass", desc := "(I)J" } : Jvm.MethodName)) ∈ ur_G := ur_mem 744 (by first | rfl | decide +kernel) (by decide +kernel)
set_option maxRecDepth 100000 in
theorem mw728 : (Jvm.Cond.selects "UnitRoomModel" ({ cls := "UnitRoomModel", name := "pass", desc := "(I)J" } : Jvm.MethodName) ({ cls := "UnitRoomModel", name := "pass", desc := "(I)J" } : Jvm.MethodName)) ∈ ur_G := ur_mem 745 (by first | rfl | decide +kernel) (by decide +kernel)
set_option maxRecDepth 100000 in
theorem mw729 : (Jvm.Cond.code ({ cls := "UnitRoomModel", name := "pass", desc := "(I)J" } : Jvm.MethodName) prog_11_method_26_code (2 : Nat) (Option.some Jvm.ClassFile.FieldType.long)) ∈ ur_G := ur_mem 746 (by first | rfl | decide +kernel) (by decide +kernel)
set_option maxRecDepth 100000 in
theorem mw730 : (Jvm.Cond.methodLink "UnitRoomLaw" (56 : Nat) ({ cls := "UnitRoomModel", name := "card", desc := "()I" } : Jvm.MethodName)) ∈ ur_G := ur_mem 747 (by first | rfl | decide +kernel) (by decide +kernel)
set_option maxRecDepth 100000 in
theorem mw731 : (Jvm.Cond.instanceMethod ({ cls := "UnitRoomModel", name := "card", desc := "()I" } : Jvm.MethodName)) ∈ ur_G := ur_mem 748 (by first | rfl | decide +kernel) (by decide +kernel)
set_option maxRecDepth 100000 in
theorem mw732 : (Jvm.Cond.selects "UnitRoomModel" ({ cls := "UnitRoomModel", name := "card", desc := "()I" } : Jvm.MethodName) ({ cls := "UnitRoomModel", name := "card", desc := "()I" } : Jvm.MethodName)) ∈ ur_G := ur_mem 749 (by first | rfl | decide +kernel) (by decide +kernel)
set_option maxRecDepth 100000 in
theorem mw733 : (Jvm.Cond.code ({ cls := "UnitRoomModel", name := "card", desc := "()I" } : Jvm.MethodName) prog_11_method_27_code (3 : Nat) (Option.some Jvm.ClassFile.FieldType.int)) ∈ ur_G := ur_mem 750 (by first | rfl | decide +kernel) (by decide +kernel)
set_option maxRecDepth 100000 in
theorem mw734 : (Jvm.Cond.methodLink "UnitRoomLaw" (60 : Nat) ({ cls := "UnitRoomModel", name := "unit", desc := "(I)I" } : Jvm.MethodName)) ∈ ur_G := ur_mem 751 (by first | rfl | decide +kernel) (by decide +kernel)
set_option maxRecDepth 100000 in
theorem mw735 : (Jvm.Cond.instanceMethod ({ cls := "UnitRoomModel", name := "unit", desc := "(I)I" } : Jvm.MethodName)) ∈ ur_G := ur_mem 752 (by first | rfl | decide +kernel) (by decide +kernel)
set_option maxRecDepth 100000 in
theorem mw736 : (Jvm.Cond.selects "UnitRoomModel" ({ cls := "UnitRoomModel", name := "unit", desc := "(I)I" } : Jvm.MethodName) ({ cls := "UnitRoomModel", name := "unit", desc := "(I)I" } : Jvm.MethodName)) ∈ ur_G := ur_mem 753 (by first | rfl | decide +kernel) (by decide +kernel)
set_option maxRecDepth 100000 in
theorem mw737 : (Jvm.Cond.code ({ cls := "UnitRoomModel", name := "unit", desc := "(I)I" } : Jvm.MethodName) prog_11_method_28_code (3 : Nat) (Option.some Jvm.ClassFile.FieldType.int)) ∈ ur_G := ur_mem 754 (by first | rfl | decide +kernel) (by decide +kernel)
set_option maxRecDepth 100000 in
theorem mw738 : (Jvm.Cond.methodLink "UnitRoomLaw" (65 : Nat) ({ cls := "UnitRoomModel", name := "letter", desc := "(III)I" } : Jvm.MethodName)) ∈ ur_G := ur_mem 755 (by first | rfl | decide +kernel) (by decide +kernel)
set_option maxRecDepth 100000 in
theorem mw739 : (Jvm.Cond.instanceMethod ({ cls := "UnitRoomModel", name := "letter", desc := "(III)I" } : Jvm.MethodName)) ∈ ur_G := ur_mem 756 (by first | rfl | decide +kernel) (by decide +kernel)
set_option maxRecDepth 100000 in
theorem mw740 : (Jvm.Cond.selects "UnitRoomModel" ({ cls := "UnitRoomModel", name := "letter", desc := "(III)I" } : Jvm.MethodName) ({ cls := "UnitRoomModel", name := "letter", desc := "(III)I" } : Jvm.MethodName)) ∈ ur_G := ur_mem 757 (by first | rfl | decide +kernel) (by decide +kernel)
set_option maxRecDepth 100000 in
theorem mw741 : (Jvm.Cond.code ({ cls := "UnitRoomModel", name := "letter", desc := "(III)I" } : Jvm.MethodName) prog_11_method_29_code (5 : Nat) (Option.some Jvm.ClassFile.FieldType.int)) ∈ ur_G := ur_mem 758 (by first | rfl | decide +kernel) (by decide +kernel)
set_option maxRecDepth 100000 in
theorem mw742 : (Jvm.Cond.methodLink "UnitRoomLaw" (69 : Nat) ({ cls := "UnitRoomModel", name := "block", desc := "(III)I" } : Jvm.MethodName)) ∈ ur_G := ur_mem 759 (by first | rfl | decide +kernel) (by decide +kernel)
set_option maxRecDepth 100000 in
theorem mw743 : (Jvm.Cond.instanceMethod ({ cls := "UnitRoomModel", name := "block", desc := "(III)I" } : Jvm.MethodName)) ∈ ur_G := ur_mem 760 (by first | rfl | decide +kernel) (by decide +kernel)
set_option maxRecDepth 100000 in
theorem mw744 : (Jvm.Cond.selects "UnitRoomModel" ({ cls := "UnitRoomModel", name := "block", desc := "(III)I" } : Jvm.MethodName) ({ cls := "UnitRoomModel", name := "block", desc := "(III)I" } : Jvm.MethodName)) ∈ ur_G := ur_mem 761 (by first | rfl | decide +kernel) (by decide +kernel)
set_option maxRecDepth 100000 in
theorem mw745 : (Jvm.Cond.code ({ cls := "UnitRoomModel", name := "block", desc := "(III)I" } : Jvm.MethodName) prog_11_method_30_code (5 : Nat) (Option.some Jvm.ClassFile.FieldType.int)) ∈ ur_G := ur_mem 762 (by first | rfl | decide +kernel) (by decide +kernel)
set_option maxRecDepth 100000 in
theorem mw753 : (Jvm.Cond.fieldLink "java/lang/String" (9 : Nat) "java/lang/String" "value" "[B") ∈ ur_G := ur_mem 770 (by first | rfl | decide +kernel) (by decide +kernel)
set_option maxRecDepth 100000 in
theorem mw754 : (Jvm.Cond.fieldLink "java/lang/String" (15 : Nat) "java/lang/String" "coder" "B") ∈ ur_G := ur_mem 771 (by first | rfl | decide +kernel) (by decide +kernel)
end
section
/-! THE HEAP AS A FUNCTION. h a = some e: the cell a is known to be e. A contract speaks of h and of the h' behind it; nothing is said of cells that h doesn't know, and none of them is changed. -/
abbrev ur_M : Type := Nat → Option va_E
def ur_P (D : va_G) (cl : List vw_C) (h : ur_M) (H : Heap) : Prop := ∀ (a : Nat) (e : va_E), h a = some e → va_at D cl (a, e) H
def ur_A (h : ur_M) (sz : Nat) : Nat → Prop := fun q => (∃ e, h q = some e) ∨ sz ≤ q
def ur_I (D : va_G) (cl : List vw_C) (A : Nat → Prop) (H0 : Heap) (h : ur_M) (H : Heap) (locs : List Loc) : Prop := ur_P D cl h H ∧ (∀ (a : Nat) (e : va_E), h a = some e → A a) ∧ va_S A H0 H locs ∧ ∀ q : Nat, H0.size ≤ q → A q
/-- what stays fixed: the classes of arrays; Z: what is only read (of cells that don't change); X: what the tables say -/
abbrev ur_V : Type := List (ClassId × FieldType) × ((Nat → Prop) → State → Heap → Prop) × (State → Prop)
def ur_Zok (Z : (Nat → Prop) → State → Heap → Prop) : Prop := (∀ (A : Nat → Prop) (u U : State) (H : Heap), u.vm.Alike U.vm → Z A u H → Z A U H) ∧ (∀ (A : Nat → Prop) (U : State) (H H1 : Heap), (∀ a : Nat, a < H.size → ¬ A a → H1[a]? = H[a]?) → Z A U H → Z A U H1) ∧ ∀ (A B : Nat → Prop) (U : State) (H : Heap), (∀ q, B q → A q) → Z A U H → Z B U H
def ur_Xok (X : State → Prop) : Prop := (∀ s U : State, s.WarmedH U.vm → X s → X U) ∧ ∀ u U : State, U.vm = u.vm → X u → X U
def ur_K (D : va_G) (cl : List vw_C) (V : ur_V) (U : State) : Prop := va_K D cl V.1 U ∧ V.2.2 U ∧ ur_Xok V.2.2
theorem ur_K.warm {D : va_G} {cl : List vw_C} {V : ur_V} {s U : State} (hW : s.WarmedH U.vm) (h : ur_K D cl V s) : ur_K D cl V U := ⟨va_K.moved hW.alike h.1, h.2.2.1 s U hW h.2.1, h.2.2⟩
def ur_O (V : ur_V) (A : Nat → Prop) (s : State) (H : Heap) : Prop := V.2.1 A s H ∧ ur_Zok V.2.1
def ur_B (D : va_G) (cl : List vw_C) (V : ur_V) (h : ur_M) (sz : Nat) (U : State) : Prop := U.heap.size = sz ∧ ur_P D cl h U.heap ∧ ur_O V (ur_A h sz) U U.heap ∧ ur_K D cl V U
def ur_E (D : va_G) (cl : List vw_C) (h : ur_M) (sz : Nat) (h' : ur_M) (t : State) : Prop := ur_P D cl h' t.heap ∧ ∀ (a : Nat) (e : va_E), h' a = some e → ur_A h sz a
/-- behind a call that had the part h1 of h, and left h1' of it -/
def ur_mix (h h1 h1' : ur_M) : ur_M := fun a => match h1' a with
  | some e => some e
  | none => match h1 a with
    | some _ => none
    | none => h a
theorem ur_mix_all (h h' : ur_M) : ur_mix h h h' = h' := by
  funext a
  unfold ur_mix
  cases h' a with
  | some e => rfl
  | none => cases h a <;> rfl
theorem ur_mix_in {h h1 h1' : ur_M} {a : Nat} {e : va_E} (q : h1' a = some e) : ur_mix h h1 h1' a = some e := by
  unfold ur_mix
  rw [q]
theorem ur_mix_out {h h1 h1' : ur_M} {a : Nat} (q : h1' a = none) (q1 : h1 a = none) : ur_mix h h1 h1' a = h a := by
  unfold ur_mix
  rw [q, q1]
theorem ur_one {D : va_G} {cl : List vw_C} {h : ur_M} {H : Heap} {a : Nat} {e : va_E} (hP : ur_P D cl h H) (ha : h a = some e) : va_P D cl [(a, e)] H := by
  intro k q hk
  have hz : k < 1 := (List.getElem?_eq_some_iff.mp hk).1
  rw [show k = 0 by omega] at hk
  cases hk
  exact hP a e ha
theorem ur_lt {D : va_G} {cl : List vw_C} {h : ur_M} {H : Heap} {a : Nat} {e : va_E} (hP : ur_P D cl h H) (ha : h a = some e) : a < H.size := (hP a e ha).lt
theorem ur_none {D : va_G} {cl : List vw_C} {h : ur_M} {H : Heap} {a : Nat} (hP : ur_P D cl h H) (ha : H.size ≤ a) : h a = none := by
  cases q : h a with
  | none => rfl
  | some e => exact absurd (ur_lt hP q) (Nat.not_lt.mpr ha)
theorem ur_begin {D : va_G} {cl : List vw_C} {h : ur_M} {H : Heap} (hP : ur_P D cl h H) : ur_I D cl (ur_A h H.size) H h H [] := ⟨hP, fun _ e q => Or.inl ⟨e, q⟩, va_S.rf, fun _ q => Or.inr q⟩
theorem ur_I.put {D : va_G} {cl : List vw_C} {A : Nat → Prop} {H0 H H1 : Heap} {h : ur_M} {locs : List Loc} {a k : Nat} {e0 e : va_E} (hI : ur_I D cl A H0 h H locs) (ha : h a = some e0) (z : H1.size = H.size) (oq : ∀ q : Nat, q ≠ a → H1[q]? = H[q]?) (hat : va_at D cl (a, e) H1) : ur_I D cl A H0 (va_up h a (some e)) H1 (locs ++ [⟨a, k⟩]) := by
  refine ⟨fun b eb hb => ?_, fun b eb hb => ?_, hI.2.2.1.put z oq (hI.2.1 a e0 ha), hI.2.2.2⟩
  · by_cases hq : b = a
    · subst hq
      rw [va_up_self] at hb
      cases hb
      exact hat
    · rw [va_up_ne _ _ hq] at hb
      exact (hI.1 b eb hb).kept (oq b hq)
  · by_cases hq : b = a
    · subst hq
      exact hI.2.1 _ _ ha
    · rw [va_up_ne _ _ hq] at hb
      exact hI.2.1 b eb hb
theorem ur_I.new {D : va_G} {cl : List vw_C} {A : Nat → Prop} {H0 H H1 : Heap} {h : ur_M} {locs : List Loc} {e : va_E} (hI : ur_I D cl A H0 h H locs) (z : H1.size = H.size + 1) (o1 : ∀ q : Nat, q < H.size → H1[q]? = H[q]?) (hat : va_at D cl (H.size, e) H1) : ur_I D cl A H0 (va_up h H.size (some e)) H1 locs := by
  have hS := hI.2.2.1
  refine ⟨fun b eb hb => ?_, fun b eb hb => ?_, ⟨Nat.le_trans hS.1 (by omega), fun x h1 h2 => (o1 x (Nat.lt_of_lt_of_le h1 hS.1)).trans (hS.2.1 x h1 h2), hS.2.2⟩, hI.2.2.2⟩
  · by_cases hq : b = H.size
    · subst hq
      rw [va_up_self] at hb
      cases hb
      exact hat
    · rw [va_up_ne _ _ hq] at hb
      exact (hI.1 b eb hb).kept (o1 b (ur_lt hI.1 hb))
  · by_cases hq : b = H.size
    · subst hq
      exact hI.2.2.2 _ hS.1
    · rw [va_up_ne _ _ hq] at hb
      exact hI.2.1 b eb hb
theorem ur_ret {D : va_G} {cl : List vw_C} {s t : State} {h0 h : ur_M} {H : Heap} {locs : List Loc} (hI : ur_I D cl (ur_A h0 s.heap.size) s.heap h H locs) (ht : t.heap = H) : ur_E D cl h0 s.heap.size h t ∧ va_F (ur_A h0 s.heap.size) s t :=
  ⟨⟨by rw [ht]; exact hI.1, hI.2.1⟩, hI.2.2.1.F ht⟩
theorem ur_sub {D : va_G} {cl : List vw_C} {A : Nat → Prop} {H0 H : Heap} {h h1 : ur_M} {locs : List Loc} (hI : ur_I D cl A H0 h H locs) (hs : ∀ (a : Nat) (e : va_E), h1 a = some e → h a = some e) : ∀ q : Nat, ur_A h1 H.size q → A q := by
  intro q hq
  rcases hq with ⟨e, he⟩ | hq
  · exact hI.2.1 q e (hs q e he)
  · exact hI.2.2.2 q (Nat.le_trans hI.2.2.1.1 hq)
theorem ur_blind {D : va_G} {cl : List vw_C} {V : ur_V} {av : List Value} {h : ur_M} {sz : Nat} : FrameBlind (va_Pc av (ur_B D cl V h sz)) := fun a U g mk q => by
  obtain ⟨q0, q1, qP, qO, qK⟩ := q
  exact ⟨q0, q1, qP, ⟨qO.2.1 _ U (U.calling g mk a) _ (Vm.Alike.refl U.vm) qO.1, qO.2⟩, va_K.moved (u := U) (U := U.calling g mk a) (Vm.Alike.refl U.vm) qK.1, qK.2.2.2 U _ rfl qK.2.1, qK.2.2⟩
theorem ur_pre {D : va_G} {cl : List vw_C} {V : ur_V} {A : Nat → Prop} {H : Heap} {h h1 : ur_M} {locs : List Loc} {s : State} {av : List Value} (hI : ur_I D cl A s.heap h H locs) (hO : ur_O V A s s.heap) (hK : ur_K D cl V s) (hs : ∀ (a : Nat) (e : va_E), h1 a = some e → h a = some e) : ∀ U : State, U.heap = H → s.WarmedH U.vm → va_Pc av (ur_B D cl V h1 H.size) av.toArray U :=
  fun U hU hW => ⟨rfl, by rw [hU], by rw [hU]; exact fun a e q => hI.1 a e (hs a e q), by
    rw [hU]
    exact ⟨hO.2.2.2 A _ U H (ur_sub hI hs) (hO.2.1 A s U H hW.alike (hO.2.2.1 A s s.heap H hI.2.2.1.2.1 hO.1)), hO.2⟩, hK.warm hW⟩
theorem ur_back {D : va_G} {cl : List vw_C} {A : Nat → Prop} {H0 H H1 : Heap} {h h1 h1' : ur_M} {locs locs1 : List Loc} {t : State} (hI : ur_I D cl A H0 h H locs) (hs : ∀ (a : Nat) (e : va_E), h1 a = some e → h a = some e) (ht : t.heap = H1) (hE : ur_E D cl h1 H.size h1' t) (hk : ∀ q : Nat, q < H.size → ¬ ur_A h1 H.size q → H1[q]? = H[q]?) (hS : va_S A H0 H1 locs1) : ur_I D cl A H0 (ur_mix h h1 h1') H1 locs1 := by
  obtain ⟨e1, e3⟩ := hE
  rw [ht] at e1
  have key : ∀ (b : Nat) (eb : va_E), ur_mix h h1 h1' b = some eb → (h1' b = some eb) ∨ (h1 b = none ∧ h b = some eb) := by
    intro b eb hb
    unfold ur_mix at hb
    cases q : h1' b with
    | some x => rw [q] at hb; exact Or.inl hb
    | none =>
      rw [q] at hb
      cases q1 : h1 b with
      | some x => rw [q1] at hb; cases hb
      | none => rw [q1] at hb; exact Or.inr ⟨rfl, hb⟩
  refine ⟨fun b eb hb => ?_, fun b eb hb => ?_, hS, hI.2.2.2⟩
  · rcases key b eb hb with q | ⟨q1, q⟩
    · exact e1 b eb q
    · have hlt := ur_lt hI.1 q
      refine (hI.1 b eb q).kept (hk b hlt ?_)
      rintro (⟨x, hx⟩ | hx)
      · rw [q1] at hx; cases hx
      · omega
  · rcases key b eb hb with q | ⟨q1, q⟩
    · exact ur_sub hI hs b (e3 b eb q)
    · exact hI.2.1 b eb q
section URW
variable {p : Program} {l : Launch} {e : Env} {R : Room} {s : State} {m : MethodId} {args : Array Value} {below : List Frame} {meth : Method} {c : Code} {H : Heap} {locs : List Loc} {cells slots : Nat} {Q : State → Prop}
variable {cc : ByteArray} {pc : Nat} {ls : Array Slot} {rest st0 : List Value} {D : va_G} {cl : List vw_C} {A : Nat → Prop} {a : Nat} {tys : List (ClassId × FieldType)} {H0 : Heap} {h h0 h1 : ur_M} {mc ms : Nat} {av : Array Value}
/-- a field is written -/
theorem ur_put (hexec : p.tables.exec = Jvm.exec) (hb : c.code = cc) {own ref C : String} {T : u_T} {N ci index : Nat} {Ts : List Cond} (hts : ∀ w ∈ Ts, w.before args s = true) (hin : ∀ w ∈ u_ws C T N, w ∈ Ts) (ty0 : Nat → FieldType) (hty : ∀ k, k < N → parseFieldDescriptor (T k).2.2.1 = some (ty0 k)) (hnm : ∀ a, a < N → ∀ b, b < N → a ≠ b → (T a).2.1 ≠ (T b).2.1) (hown : s.vm.findClass own = some m.cls) (hK : va_K D cl tys s) (hI : ur_I D cl A H0 h H locs) {fs : List Value} (he : h a = some (.inr (ci, fs))) (hc : cl[ci]? = some (C, T, N)) (k : Nat) (hk : k < N) (hlink : (Cond.fieldLink own index ref (T k).2.1 (T k).2.2.1).before args s = true) (hsame : ∀ x, s.fieldFound? (T k).1 (T k).2.1 (T k).2.2.1 = some x → s.fieldFound? ref (T k).2.1 (T k).2.2.1 = some x) (hfin : (T k).2.2.2 = false) {ty : FieldType} {v : Value} (hd : parseFieldDescriptor (T k).2.2.1 = some ty) (hn : narrow ty v = v) (hfit : fits ty v = true) (hl : k < fs.length)
    (hdg : decode cc pc = .ok (.putfield index, 3)) (kk : ∀ (H1 : Heap) (locs1 : List Loc), ur_I D cl A H0 (va_up h a (some (.inr (ci, fs.set k v)))) H1 locs1 → W p l e R s m args below meth c H1 locs1 cells slots Q (F0 m (pc + 3) ls rest)) : W p l e R s m args below meth c H locs cells slots Q (F0 m pc ls (v :: .ref a :: rest)) := by
  have hap := va_apart (own := own) hts hin ty0 hty hnm hK hc
  obtain ⟨r, g1, cell, q1, q2, q3, q4⟩ := hI.1 _ _ he
  have hr : r = (C, T, N) := Option.some.inj (g1.symm.trans hc)
  subst hr
  obtain ⟨hS, hfc, kC, hkC, hkind⟩ := hK.1 ci _ hc
  obtain ⟨cf, kf, fi, f, hi, hsl⟩ := hS k hk
  have hlay := hts _ (hin _ (u_in_lay hk))
  unfold u_lay at hlay
  rw [if_neg (by rw [hfin]; decide)] at hlay
  have hst := (u_facts hfc hkC (u_lays hts hin hk) hi).1
  have h6 := u_store hfc hkC hkind hlay hi hd hn hfit
  refine W.putK hexec hb (f := f) ⟨hown, hlink, ⟨_, _, _, hsame _ hi⟩, hst⟩ (by rw [q2]; exact h6) q1 q3 (by rw [hsl]; exact k2_hasslot (q4 k hk)) rfl rfl hdg fun H' e1 e2 e3 => ?_
  rw [hsl] at e1 ⊢
  exact kk H' _ (hI.put he e2 e3 ⟨_, hc, t_OB.to (V := updV (vp_V fs) k v) ⟨_, e1, q2, q3, t_set q4 hap hk v⟩ (fun j _ => vp_updV_set hl v j)⟩)
/-- a final field is written, in a constructor -/
theorem ur_putF (hexec : p.tables.exec = Jvm.exec) (hb : c.code = cc) {own ref C : String} {T : u_T} {N ci index : Nat} {Ts : List Cond} (hts : ∀ w ∈ Ts, w.before args s = true) (hin : ∀ w ∈ u_ws C T N, w ∈ Ts) (ty0 : Nat → FieldType) (hty : ∀ k, k < N → parseFieldDescriptor (T k).2.2.1 = some (ty0 k)) (hnm : ∀ a, a < N → ∀ b, b < N → a ≠ b → (T a).2.1 ≠ (T b).2.1) (hown : s.vm.findClass own = some m.cls) (hK : va_K D cl tys s) (hI : ur_I D cl A H0 h H locs) {fs : List Value} (he : h a = some (.inr (ci, fs))) (hc : cl[ci]? = some (C, T, N)) (k : Nat) (hk : k < N) (hlink : (Cond.fieldLink own index ref (T k).2.1 (T k).2.2.1).before args s = true) (hsame : ∀ x, s.fieldFound? (T k).1 (T k).2.1 (T k).2.2.1 = some x → s.fieldFound? ref (T k).2.1 (T k).2.2.1 = some x) (hfin : (T k).2.2.2 = true) (hin2 : meth.name = "<init>") (hdecl : (T k).1 = own) {ty : FieldType} {v : Value} (hd : parseFieldDescriptor (T k).2.2.1 = some ty) (hn : narrow ty v = v) (hfit : fits ty v = true) (hl : k < fs.length)
    (hdg : decode cc pc = .ok (.putfield index, 3)) (kk : ∀ (H1 : Heap) (locs1 : List Loc), ur_I D cl A H0 (va_up h a (some (.inr (ci, fs.set k v)))) H1 locs1 → W p l e R s m args below meth c H1 locs1 cells slots Q (F0 m (pc + 3) ls rest)) : W p l e R s m args below meth c H locs cells slots Q (F0 m pc ls (v :: .ref a :: rest)) := by
  have hap := va_apart (own := own) hts hin ty0 hty hnm hK hc
  obtain ⟨r, g1, cell, q1, q2, q3, q4⟩ := hI.1 _ _ he
  have hr : r = (C, T, N) := Option.some.inj (g1.symm.trans hc)
  subst hr
  obtain ⟨hS, hfc, kC, hkC, hkind⟩ := hK.1 ci _ hc
  obtain ⟨cf, kf, fi, f, hi, hsl⟩ := hS k hk
  have hlay := hts _ (hin _ (u_in_lay hk))
  unfold u_lay at hlay
  rw [if_pos hfin] at hlay
  have hst := (u_facts hfc hkC (u_lays hts hin hk) hi).1
  have hcf : m.cls = cf := by
    obtain ⟨_, _, c', _, _, _, -, -, hf', -, -, -, hown2, -⟩ := Cond.laysFinal_spec hlay
    have e1 : c' = cf := by have := hi.symm.trans hf'; simp at this; exact this.1.symm
    rw [hdecl] at hown2
    rw [← e1]; exact Option.some.inj (hown.symm.trans hown2)
  have h6 := u_fits hfc hkC hkind (Or.inr hlay) hi hd hn hfit
  refine W.putFinK hexec hb hown hlink (hsame _ hi) hst hcf hin2 (by rw [q2]; exact h6) q1 q3 (by rw [hsl]; exact k2_hasslot (q4 k hk)) rfl rfl hdg fun H' e1 e2 e3 => ?_
  rw [hsl] at e1 ⊢
  exact kk H' _ (hI.put he e2 e3 ⟨_, hc, t_OB.to (V := updV (vp_V fs) k v) ⟨_, e1, q2, q3, t_set q4 hap hk v⟩ (fun j _ => vp_updV_set hl v j)⟩)
theorem ur_iast (hexec : p.tables.exec = Jvm.exec) (hb : c.code = cc) (hK : va_K D cl tys s) (hI : ur_I D cl A H0 h H locs) (t0 : Nat) {cA : ClassId} {n : Nat} {f : Nat → Int32} (ha : h a = some (.inl (cA, n, .inl f))) (ht : tys[t0]? = some (cA, .int)) {i : Int32} {x : Int32} (hin : vp_in i n) (hdg : decode cc pc = .ok (.iastore, 1))
    (kk : ∀ (H1 : Heap) (locs1 : List Loc), ur_I D cl A H0 (va_up h a (some (.inl (cA, n, .inl (upd f i.toNatClampNeg x))))) H1 locs1 → W p l e R s m args below meth c H1 locs1 cells slots Q (F0 m (pc + 1) ls rest)) : W p l e R s m args below meth c H locs cells slots Q (F0 m pc ls (.int x :: .int i :: .ref a :: rest)) := by
  refine W.iast hexec hb (hI.1 _ _ ha) ((hK.2 t0 _ ht).1 n (fun j => .int (f j))) (fun q => by cases q) (by show ¬ (i < 0 ∨ (arrV _ _ _).slots.size ≤ _); rw [arrV_size]; exact hin) rfl rfl hdg fun H1 e z oq => ?_
  refine kk H1 _ (hI.put ha z oq ?_)
  show H1[a]? = some (vp_cell _ _)
  rw [e, vp_cell_i, vp_cell_i, arrV_store]
  congr 2
  funext q
  by_cases hq : q = i.toNatClampNeg
  · subst hq
    simp [updV, upd]
  · simp [updV, upd, hq]
theorem ur_bast (hexec : p.tables.exec = Jvm.exec) (hb : c.code = cc) (hK : va_K D cl tys s) (hI : ur_I D cl A H0 h H locs) (t0 : Nat) {cA : ClassId} {n : Nat} {f : Nat → Int32} (ha : h a = some (.inl (cA, n, .inl f))) (ht : tys[t0]? = some (cA, .byte)) {i : Int32} {x : Int32} (hin : vp_in i n) (hdg : decode cc pc = .ok (.bastore, 1))
    (kk : ∀ (H1 : Heap) (locs1 : List Loc), ur_I D cl A H0 (va_up h a (some (.inl (cA, n, .inl (upd f i.toNatClampNeg (vp_nar .byte x)))))) H1 locs1 → W p l e R s m args below meth c H1 locs1 cells slots Q (F0 m (pc + 1) ls rest)) : W p l e R s m args below meth c H locs cells slots Q (F0 m pc ls (.int x :: .int i :: .ref a :: rest)) := by
  refine W.bast hexec hb (hI.1 _ _ ha) ((hK.2 t0 _ ht).1 n (fun j => .int (f j))) (fun q => by cases q) (by show ¬ (i < 0 ∨ (arrV _ _ _).slots.size ≤ _); rw [arrV_size]; exact hin) rfl rfl hdg fun H1 e z oq => ?_
  refine kk H1 _ (hI.put ha z oq ?_)
  show H1[a]? = some (vp_cell _ _)
  rw [e, vp_cell_i, vp_cell_i, arrV_store]
  congr 2
  funext q
  by_cases hq : q = i.toNatClampNeg
  · subst hq
    simp [updV, upd, vp_nar]
    try rfl
  · simp [updV, upd, hq]
theorem ur_last (hexec : p.tables.exec = Jvm.exec) (hb : c.code = cc) (hK : va_K D cl tys s) (hI : ur_I D cl A H0 h H locs) (t0 : Nat) {cA : ClassId} {n : Nat} {f : Nat → Int64} (ha : h a = some (.inl (cA, n, .inr (.inl f)))) (ht : tys[t0]? = some (cA, .long)) {i : Int32} {x : Int64} (hin : vp_in i n) (hdg : decode cc pc = .ok (.lastore, 1))
    (kk : ∀ (H1 : Heap) (locs1 : List Loc), ur_I D cl A H0 (va_up h a (some (.inl (cA, n, .inr (.inl (vp_updL f i.toNatClampNeg x)))))) H1 locs1 → W p l e R s m args below meth c H1 locs1 cells slots Q (F0 m (pc + 1) ls rest)) : W p l e R s m args below meth c H locs cells slots Q (F0 m pc ls (.long x :: .int i :: .ref a :: rest)) := by
  refine W.last hexec hb (hI.1 _ _ ha) ((hK.2 t0 _ ht).1 n (fun j => .long (f j))) (fun q => by cases q) (by show ¬ (i < 0 ∨ (arrV _ _ _).slots.size ≤ _); rw [arrV_size]; exact hin) rfl rfl hdg fun H1 e z oq => ?_
  refine kk H1 _ (hI.put ha z oq ?_)
  show H1[a]? = some (vp_cell _ _)
  rw [e, vp_cell_l, vp_cell_l, arrV_store]
  congr 2
  funext q
  by_cases hq : q = i.toNatClampNeg
  · subst hq
    simp [updV, vp_updL]
  · simp [updV, vp_updL, hq]
/-- an object's address is laid into an array of references -/
theorem ur_astq (hexec : p.tables.exec = Jvm.exec) (hb : c.code = cc) (hK : va_K D cl tys s) (hI : ur_I D cl A H0 h H locs) (t0 ci : Nat) {E : String} {cA : ClassId} {r : vw_C} {n v : Nat} {vs : List Value} {f : Nat → Option Nat} (ha : h a = some (.inl (cA, n, .inr (.inr (.inr (.inr f)))))) (ht : tys[t0]? = some (cA, .object E)) (hca : ∀ comp c0 : ClassId, s.vm.findClass E = some comp → s.vm.findClass r.1 = some c0 → s.vm.assignable c0 comp = true) (hkE : ∀ comp : ClassId, s.vm.findClass E = some comp → ∃ kc : Class, s.vm.classes[comp]? = some kc) (hv : h v = some (.inr (ci, vs))) (hc : cl[ci]? = some r) {i : Int32} (hin : vp_in i n) (hdg : decode cc pc = .ok (.aastore, 1))
    (kk : ∀ (H1 : Heap) (locs1 : List Loc), ur_I D cl A H0 (va_up h a (some (.inl (cA, n, .inr (.inr (.inr (.inr (va_up f i.toNatClampNeg (some v))))))))) H1 locs1 → W p l e R s m args below meth c H1 locs1 cells slots Q (F0 m (pc + 1) ls rest)) : W p l e R s m args below meth c H locs cells slots Q (F0 m pc ls (.ref v :: .int i :: .ref a :: rest)) := by
  have hlt : i.toNatClampNeg < n := Nat.not_le.mp fun q => hin (Or.inr q)
  have g0 : ¬ i < 0 := fun q => hin (Or.inl q)
  obtain ⟨r', hr', cellV, g1, g2, g3, -⟩ := hI.1 _ _ hv
  have hcls := (hK.1 ci r hc).2
  obtain ⟨kA, comp, k1, k2, k3, -⟩ := (hK.2 t0 _ ht).2
  obtain ⟨kC, hkC, -⟩ := hcls.2
  obtain ⟨kE, hkE'⟩ := hkE comp k3
  refine W.aast hexec hb (hI.1 _ _ ha) (fun q h => by cases h) (fun h => by cases h) k1 k2 rfl hkE' ⟨g0, by show _ < (arrV _ _ _).slots.size; rw [arrV_size]; exact hlt⟩ g1 (fun q h => by rw [g3] at h; cases h) (by rw [g2]; exact hkC) (by rw [g2]; exact hca comp _ k3 hcls.1) rfl rfl hdg fun H1 e z oq => ?_
  refine kk H1 _ (hI.put ha z oq ?_)
  show H1[a]? = some (vp_cell _ _)
  rw [e, vp_cell_q, vp_cell_q, arrV_store]
  congr 2
  funext q
  by_cases hq : q = i.toNatClampNeg
  · subst hq
    simp [updV, va_up, va_rf]
  · simp [updV, va_up, hq]
/-- a row (an array of numbers) is laid into an array of arrays -/
theorem ur_astA (hexec : p.tables.exec = Jvm.exec) (hb : c.code = cc) (hI : ur_I D cl A H0 h H locs) {cA cR : ClassId} {t : FieldType} {n n' v : Nat} {f' : Nat → Int32} {f : Nat → Option Nat} (ha : h a = some (.inl (cA, n, .inr (.inr (.inr (.inr f)))))) (haa : ∃ kA : Class, s.vm.classes[cA]? = some kA ∧ kA.kind = .array cR (.array t)) (hkR : ∃ kR : Class, s.vm.classes[cR]? = some kR) (hv : h v = some (.inl (cR, n', .inl f'))) {i : Int32} (hin : vp_in i n) (hdg : decode cc pc = .ok (.aastore, 1))
    (kk : ∀ (H1 : Heap) (locs1 : List Loc), ur_I D cl A H0 (va_up h a (some (.inl (cA, n, .inr (.inr (.inr (.inr (va_up f i.toNatClampNeg (some v))))))))) H1 locs1 → W p l e R s m args below meth c H1 locs1 cells slots Q (F0 m (pc + 1) ls rest)) : W p l e R s m args below meth c H locs cells slots Q (F0 m pc ls (.ref v :: .int i :: .ref a :: rest)) := by
  have hlt : i.toNatClampNeg < n := Nat.not_le.mp fun q => hin (Or.inr q)
  have g0 : ¬ i < 0 := fun q => hin (Or.inl q)
  obtain ⟨kA, k1, k2⟩ := haa
  obtain ⟨kR, k3⟩ := hkR
  refine W.aast hexec hb (hI.1 _ _ ha) (fun q h => by cases h) (fun h => by cases h) k1 k2 rfl k3 ⟨g0, by show _ < (arrV _ _ _).slots.size; rw [arrV_size]; exact hlt⟩ (hI.1 _ _ hv) (fun q h => by cases h) k3 (va_asg _ _) rfl rfl hdg fun H1 e z oq => ?_
  refine kk H1 _ (hI.put ha z oq ?_)
  show H1[a]? = some (vp_cell _ _)
  rw [e, vp_cell_q, vp_cell_q, arrV_store]
  congr 2
  funext q
  by_cases hq : q = i.toNatClampNeg
  · subst hq
    simp [updV, va_up, va_rf]
  · simp [updV, va_up, hq]
/-- a new array of numbers -/
theorem ur_newa (hexec : p.tables.exec = Jvm.exec) (hb : c.code = cc) {atype : ArrayType} (harr : (Cond.arrayClass (newarray.typeOf atype)).before args s = true) {ty : FieldType} (hty : newarray.typeOf atype = ty) (t0 : Nat) {cA : ClassId} (hK : va_K D cl tys s) (ht : tys[t0]? = some (cA, ty)) (hpr : refKind ty = false) (hI : ur_I D cl A H0 h H locs)
    {n : Int32} {N' : Nat} {a0 : vp_A} (ha : ∀ cA : ClassId, vp_cell cA a0 = arrV cA N' (fun _ => defaultValue ty)) (hn : ¬ n < 0) (hN : n.toNatClampNeg = N') (hbytes : N' * componentBytes ty ≤ 536870912) (hcells : cells + 1 ≤ R.cells) (hslots : slots + N' ≤ R.slots) (hdg : decode cc pc = .ok (.newarray atype, 2))
    (kk : ∀ (q : Nat) (H1 : Heap), h q = none → ur_I D cl A H0 (va_up h q (some (.inl (cA, a0)))) H1 locs →
      W p l e R s m args below meth c H1 locs (cells + 1) (slots + N') Q (F0 m (pc + 2) ls (.ref q :: rest))) : W p l e R s m args below meth c H locs cells slots Q (F0 m pc ls (.int n :: rest)) := by
  subst hty
  refine va_newaK hexec hb harr rfl hdg rfl hn hN hbytes hcells hslots rfl fun H1 cB e1 z1 o1 hAr hNm => ?_
  have hcl := (hK.2 t0 _ ht).2
  have hB : s.vm.findClass ("[" ++ (newarray.typeOf atype).toString) = some cA := by cases atype <;> exact hcl
  have hcc : cB = cA := Option.some.inj (hNm.symm.trans hB)
  subst hcc
  refine kk H.size H1 (ur_none hI.1 (Nat.le_refl _)) (hI.new z1 o1 ?_)
  show H1[H.size]? = some (vp_cell _ _)
  rw [ha]
  exact e1
/-- a new object -/
theorem ur_new {c0 : Code} (hexec : p.tables.exec = Jvm.exec) (hb : c0.code = cc) {own C : String} {T : u_T} {N ci index : Nat} {Ts : List Cond} (hts : ∀ w ∈ Ts, w.before args s = true) (hin : ∀ w ∈ u_ws C T N, w ∈ Ts) (ty : Nat → FieldType) (hty : ∀ k, k < N → parseFieldDescriptor (T k).2.2.1 = some (ty k)) (hown : s.vm.findClass own = some m.cls) (hcl : (Cond.classLink own index C).before args s = true) (hinst : (Cond.instantiable C N).before args s = true) (hini : (Cond.initialized C).before args s = true)
    (hK : va_K D cl tys s) (hI : ur_I D cl A H0 h H locs) (hc : cl[ci]? = some (C, T, N)) {fs : List Value} (hfs : ∀ j, j < N → defaultValue (ty j) = vp_V fs j) (hcells : cells + 1 ≤ R.cells) (hslots : slots + N ≤ R.slots) (hdg : decode cc pc = .ok (.new index, 3))
    (kk : ∀ (q : Nat) (H1 : Heap), h q = none → ur_I D cl A H0 (va_up h q (some (.inr (ci, fs)))) H1 locs →
      W p l e R s m args below meth c0 H1 locs (cells + 1) (slots + N) Q (F0 m (pc + 3) ls (.ref q :: rest))) : W p l e R s m args below meth c0 H locs cells slots Q (F0 m pc ls rest) := by
  have hKn := hK.1 ci _ hc
  refine W.newcK hexec hb hown hcl hinst hini rfl hdg hcells hslots hKn.2.1 rfl fun H1 kC hkC e1 z1 o1 => ?_
  exact kk H.size H1 (ur_none hI.1 (Nat.le_refl _)) (hI.new z1 o1 ⟨_, hc, (u_born ty hts hin hKn hkC e1 hty).to hfs⟩)
/-- a new array of references to objects -/
theorem ur_newq (hexec : p.tables.exec = Jvm.exec) (hb : c.code = cc) {own C : String} {index : Nat} (hown : s.vm.findClass own = some m.cls) (hclink : (Cond.classLink own index C).before args s = true) (hover : va_AO C s) (t0 : Nat) {cA : ClassId} (hK : va_K D cl tys s) (ht : tys[t0]? = some (cA, .object C)) (hI : ur_I D cl A H0 h H locs)
    {n : Int32} {N' : Nat} (hn : ¬ n < 0) (hN : n.toNatClampNeg = N') (hbytes : N' * 4 ≤ 536870912) (hcells : cells + 1 ≤ R.cells) (hslots : slots + N' ≤ R.slots) (hdg : decode cc pc = .ok (.anewarray index, 3))
    (kk : ∀ (q : Nat) (H1 : Heap), h q = none → ur_I D cl A H0 (va_up h q (some (.inl (cA, N', .inr (.inr (.inr (.inr (fun _ => none)))))))) H1 locs →
      W p l e R s m args below meth c H1 locs (cells + 1) (slots + N') Q (F0 m (pc + 3) ls (.ref q :: rest))) : W p l e R s m args below meth c H locs cells slots Q (F0 m pc ls (.int n :: rest)) := by
  subst hN
  refine W.anew hexec hb hown hclink (va_AO.use hover) rfl hdg rfl hn hbytes hcells hslots fun cB kA comp f1 f2 f3 f4 => ?_
  obtain ⟨_, _, -, -, -, hB⟩ := (hK.2 t0 _ ht).2
  have hcc : cB = cA := Option.some.inj (f1.symm.trans hB)
  subst hcc
  generalize hH1 : H.push ({ cls := cB, slots := Array.replicate n.toNatClampNeg .null, vm := .none } : Cell) = H1
  have z1 : H1.size = H.size + 1 := by rw [← hH1, Array.size_push]
  have e1 : H1[H.size]? = some (arrV cB n.toNatClampNeg (fun _ => .null)) := by rw [← hH1, Array.getElem?_push_size, ← arrV_new]
  have o1 : ∀ q : Nat, q < H.size → H1[q]? = H[q]? := fun q hq => by rw [← hH1, Array.getElem?_push, if_neg (Nat.ne_of_lt hq)]
  refine kk H.size H1 (ur_none hI.1 (Nat.le_refl _)) (hI.new z1 o1 ?_)
  show H1[H.size]? = some (vp_cell _ _)
  rw [vp_cell_q]
  exact e1
/-- a new array of arrays of numbers, its rows null -/
theorem ur_newA (hexec : p.tables.exec = Jvm.exec) (hb : c.code = cc) {own : String} {t : FieldType} {index : Nat} (hown : s.vm.findClass own = some m.cls) (hclink : (Cond.classLink own index (FieldType.array t).toString).before args s = true) (hover : (Cond.arrayOver (.array t)).before args s = true) (t0 : Nat) {cA : ClassId} (hK : va_K D cl tys s) (ht : tys[t0]? = some (cA, .array t)) (hI : ur_I D cl A H0 h H locs)
    {n : Int32} {N' : Nat} (hn : ¬ n < 0) (hN : n.toNatClampNeg = N') (hbytes : N' * 4 ≤ 536870912) (hcells : cells + 1 ≤ R.cells) (hslots : slots + N' ≤ R.slots) (hdg : decode cc pc = .ok (.anewarray index, 3))
    (kk : ∀ (q : Nat) (H1 : Heap), h q = none → ur_I D cl A H0 (va_up h q (some (.inl (cA, N', .inr (.inr (.inr (.inr (fun _ => none)))))))) H1 locs →
      W p l e R s m args below meth c H1 locs (cells + 1) (slots + N') Q (F0 m (pc + 3) ls (.ref q :: rest))) : W p l e R s m args below meth c H locs cells slots Q (F0 m pc ls (.int n :: rest)) := by
  subst hN
  refine W.anewA hexec hb hown hclink hover rfl hdg rfl hn hbytes hcells hslots fun cB kA comp f1 f2 f3 f4 => ?_
  have hB : s.vm.findClass ("[" ++ (FieldType.array t).toString) = some cA := (hK.2 t0 _ ht).2
  have hcc : cB = cA := Option.some.inj (f1.symm.trans hB)
  subst hcc
  generalize hH1 : H.push ({ cls := cB, slots := Array.replicate n.toNatClampNeg .null, vm := .none } : Cell) = H1
  have z1 : H1.size = H.size + 1 := by rw [← hH1, Array.size_push]
  have e1 : H1[H.size]? = some (arrV cB n.toNatClampNeg (fun _ => .null)) := by rw [← hH1, Array.getElem?_push_size, ← arrV_new]
  have o1 : ∀ q : Nat, q < H.size → H1[q]? = H[q]? := fun q hq => by rw [← hH1, Array.getElem?_push, if_neg (Nat.ne_of_lt hq)]
  refine kk H.size H1 (ur_none hI.1 (Nat.le_refl _)) (hI.new z1 o1 ?_)
  show H1[H.size]? = some (vp_cell _ _)
  rw [vp_cell_q]
  exact e1
/-- a row of an array of arrays -/
theorem ur_aldA (hexec : p.tables.exec = Jvm.exec) (hb : c.code = cc) (hK : va_K D cl tys s) (hI : ur_I D cl A H0 h H locs) (t0 : Nat) {cA : ClassId} {ty : FieldType} {n : Nat} {f : Nat → Option Nat} (ha : h a = some (.inl (cA, n, .inr (.inr (.inr (.inr f)))))) (ht : tys[t0]? = some (cA, ty)) (hr : ty.isReference = true) {i : Int32} (hin : vp_in i n) (hdg : decode cc pc = .ok (.aaload, 1))
    (kk : W p l e R s m args below meth c H locs cells slots Q (F0 m (pc + 1) ls (va_rf (f i.toNatClampNeg) :: rest))) : W p l e R s m args below meth c H locs cells slots Q (F0 m pc ls (.int i :: .ref a :: rest)) := by
  have hlt : i.toNatClampNeg < n := Nat.not_le.mp fun q => hin (Or.inr q)
  exact W.aald (v := va_rf (f i.toNatClampNeg)) (ty := ty) hexec hb (hI.1 _ _ ha) ((hK.2 t0 _ ht).1 n (fun j => va_rf (f j))) hr (fun q => by cases q) (by show ¬ (i < 0 ∨ (arrV _ _ _).slots.size ≤ _); rw [arrV_size]; exact hin) (by show (arrV _ _ _).slots[_]? = _; rw [arrV_read _ _ hlt]) rfl rfl hdg kk
/-- a call: an int comes back -/
theorem ur_ci {post : Int32 → ur_M → Prop} (hr : va_Run p l e R s m args below meth c H locs cells slots mc ms (F0 m pc ls st0) rest (va_Qi post (ur_E D cl h1 H.size) (ur_A h1 H.size) av) (ur_A h1 H.size)) (hI : ur_I D cl A H0 h H locs) (hs : ∀ (a : Nat) (e : va_E), h1 a = some e → h a = some e)
    (kk : ∀ (r : Int32) (h1' : ur_M) (H1 : Heap) (locs1 : List Loc), post r h1' → (∀ (a : Nat) (e : va_E), h1' a = some e → (∃ e0, h1 a = some e0) ∨ h a = none) → ur_I D cl A H0 (ur_mix h h1 h1') H1 locs1 → W p l e R s m args below meth c H1 locs1 (cells + mc) (slots + ms) Q (F0 m (pc + 3) ls (.int r :: rest))) : W p l e R s m args below meth c H locs cells slots Q (F0 m pc ls st0) :=
  va_calli hr hI.2.2.1 (fun q _ hq => ur_sub hI hs q hq) (fun q hq => ur_sub hI hs q hq) (fun r u t H1 locs1 ht _ hw hB _ hk1 hS => kk r u H1 locs1 hw (fun a e q => Or.imp id (fun z => ur_none hI.1 z) (hB.2 a e q)) (ur_back hI hs ht hB hk1 hS))
theorem ur_cl {post : Int64 → ur_M → Prop} (hr : va_Run p l e R s m args below meth c H locs cells slots mc ms (F0 m pc ls st0) rest (va_Ql post (ur_E D cl h1 H.size) (ur_A h1 H.size) av) (ur_A h1 H.size)) (hI : ur_I D cl A H0 h H locs) (hs : ∀ (a : Nat) (e : va_E), h1 a = some e → h a = some e)
    (kk : ∀ (r : Int64) (h1' : ur_M) (H1 : Heap) (locs1 : List Loc), post r h1' → (∀ (a : Nat) (e : va_E), h1' a = some e → (∃ e0, h1 a = some e0) ∨ h a = none) → ur_I D cl A H0 (ur_mix h h1 h1') H1 locs1 → W p l e R s m args below meth c H1 locs1 (cells + mc) (slots + ms) Q (F0 m (pc + 3) ls (.long r :: rest))) : W p l e R s m args below meth c H locs cells slots Q (F0 m pc ls st0) :=
  va_calll hr hI.2.2.1 (fun q _ hq => ur_sub hI hs q hq) (fun q hq => ur_sub hI hs q hq) (fun r u t H1 locs1 ht _ hw hB _ hk1 hS => kk r u H1 locs1 hw (fun a e q => Or.imp id (fun z => ur_none hI.1 z) (hB.2 a e q)) (ur_back hI hs ht hB hk1 hS))
theorem ur_cv {post : ur_M → Prop} (hr : va_Run p l e R s m args below meth c H locs cells slots mc ms (F0 m pc ls st0) rest (va_Qv post (ur_E D cl h1 H.size) (ur_A h1 H.size) av) (ur_A h1 H.size)) (hI : ur_I D cl A H0 h H locs) (hs : ∀ (a : Nat) (e : va_E), h1 a = some e → h a = some e)
    (kk : ∀ (h1' : ur_M) (H1 : Heap) (locs1 : List Loc), post h1' → (∀ (a : Nat) (e : va_E), h1' a = some e → (∃ e0, h1 a = some e0) ∨ h a = none) → ur_I D cl A H0 (ur_mix h h1 h1') H1 locs1 → W p l e R s m args below meth c H1 locs1 (cells + mc) (slots + ms) Q (F0 m (pc + 3) ls rest)) : W p l e R s m args below meth c H locs cells slots Q (F0 m pc ls st0) :=
  va_callv hr hI.2.2.1 (fun q _ hq => ur_sub hI hs q hq) (fun q hq => ur_sub hI hs q hq) (fun u t H1 locs1 ht _ hw hB _ hk1 hS => kk u H1 locs1 hw (fun a e q => Or.imp id (fun z => ur_none hI.1 z) (hB.2 a e q)) (ur_back hI hs ht hB hk1 hS))
theorem ur_cq {post : Option Nat → ur_M → Prop} (hr : va_Run p l e R s m args below meth c H locs cells slots mc ms (F0 m pc ls st0) rest (va_Qq post (ur_E D cl h1 H.size) (ur_A h1 H.size) av) (ur_A h1 H.size)) (hI : ur_I D cl A H0 h H locs) (hs : ∀ (a : Nat) (e : va_E), h1 a = some e → h a = some e)
    (kk : ∀ (r : Option Nat) (h1' : ur_M) (H1 : Heap) (locs1 : List Loc), post r h1' → (∀ (a : Nat) (e : va_E), h1' a = some e → (∃ e0, h1 a = some e0) ∨ h a = none) → ur_I D cl A H0 (ur_mix h h1 h1') H1 locs1 → W p l e R s m args below meth c H1 locs1 (cells + mc) (slots + ms) Q (F0 m (pc + 3) ls (va_rf r :: rest))) : W p l e R s m args below meth c H locs cells slots Q (F0 m pc ls st0) :=
  va_callq hr hI.2.2.1 (fun q _ hq => ur_sub hI hs q hq) (fun q hq => ur_sub hI hs q hq) (fun r u t H1 locs1 ht _ hw hB _ hk1 hS => kk r u H1 locs1 hw (fun a e q => Or.imp id (fun z => ur_none hI.1 z) (hB.2 a e q)) (ur_back hI hs ht hB hk1 hS))
/-- the ends -/
theorem ur_iret {post : Int32 → ur_M → Prop} {v : Int32} (hexec : p.tables.exec = Jvm.exec) (hb : c.code = cc) (hr : meth.sig.returnType = some .int) (hlocks : meth.locks = false) (hI : ur_I D cl (ur_A h0 s.heap.size) s.heap h H locs) (hp : post v h) (hdg : decode cc pc = .ok (.ireturn, 1)) : W p l e R s m args below meth c H locs cells slots (MQ below (va_Qi post (ur_E D cl h0 s.heap.size) (ur_A h0 s.heap.size)) args s cells slots (ur_A h0 s.heap.size)) (F0 m pc ls [.int v]) :=
  W.iret hexec hb hr (fun t ht _ => ⟨⟨v, h, rfl, hp, (ur_ret hI ht).1⟩, (ur_ret hI ht).2⟩) hI.2.2.1.2.2 hdg hlocks
theorem ur_zret {post : Int32 → ur_M → Prop} {v : Int32} {ty : FieldType} (hexec : p.tables.exec = Jvm.exec) (hb : c.code = cc) (hr : meth.sig.returnType = some ty) (hn : narrow ty (.int v) = .int v) (hlocks : meth.locks = false) (hI : ur_I D cl (ur_A h0 s.heap.size) s.heap h H locs) (hp : post v h) (hdg : decode cc pc = .ok (.ireturn, 1)) : W p l e R s m args below meth c H locs cells slots (MQ below (va_Qi post (ur_E D cl h0 s.heap.size) (ur_A h0 s.heap.size)) args s cells slots (ur_A h0 s.heap.size)) (F0 m pc ls [.int v]) :=
  W.zret hexec hb hr hn (fun t ht _ => ⟨⟨v, h, rfl, hp, (ur_ret hI ht).1⟩, (ur_ret hI ht).2⟩) hI.2.2.1.2.2 hdg hlocks
theorem ur_lret {post : Int64 → ur_M → Prop} {v : Int64} (hexec : p.tables.exec = Jvm.exec) (hb : c.code = cc) (hr : meth.sig.returnType = some .long) (hlocks : meth.locks = false) (hI : ur_I D cl (ur_A h0 s.heap.size) s.heap h H locs) (hp : post v h) (hdg : decode cc pc = .ok (.lreturn, 1)) : W p l e R s m args below meth c H locs cells slots (MQ below (va_Ql post (ur_E D cl h0 s.heap.size) (ur_A h0 s.heap.size)) args s cells slots (ur_A h0 s.heap.size)) (F0 m pc ls [.long v]) :=
  W.lret hexec hb hr (fun t ht _ => ⟨⟨v, h, rfl, hp, (ur_ret hI ht).1⟩, (ur_ret hI ht).2⟩) hI.2.2.1.2.2 hdg hlocks
theorem ur_vret {post : ur_M → Prop} (hexec : p.tables.exec = Jvm.exec) (hb : c.code = cc) (hr : meth.sig.returnType = none) (hlocks : meth.locks = false) (hI : ur_I D cl (ur_A h0 s.heap.size) s.heap h H locs) (hp : post h) (hdg : decode cc pc = .ok (.return_, 1)) : W p l e R s m args below meth c H locs cells slots (MQ below (va_Qv post (ur_E D cl h0 s.heap.size) (ur_A h0 s.heap.size)) args s cells slots (ur_A h0 s.heap.size)) (F0 m pc ls []) :=
  W.vret hexec hb hr (fun t ht _ => ⟨⟨h, rfl, hp, (ur_ret hI ht).1⟩, (ur_ret hI ht).2⟩) hI.2.2.1.2.2 hdg hlocks
theorem ur_qret {post : Option Nat → ur_M → Prop} {v : Option Nat} {rt : FieldType} (hexec : p.tables.exec = Jvm.exec) (hb : c.code = cc) (hr : meth.sig.returnType = some rt) (hrt : (∃ n, rt = .object n) ∨ ∃ t, rt = .array t) (hlocks : meth.locks = false) (hI : ur_I D cl (ur_A h0 s.heap.size) s.heap h H locs) (hp : post v h) (hdg : decode cc pc = .ok (.areturn, 1)) : W p l e R s m args below meth c H locs cells slots (MQ below (va_Qq post (ur_E D cl h0 s.heap.size) (ur_A h0 s.heap.size)) args s cells slots (ur_A h0 s.heap.size)) (F0 m pc ls [va_rf v]) :=
  W.aret hexec hb hr hrt (va_rf_or v) (fun t ht _ => ⟨⟨v, h, rfl, hp, (ur_ret hI ht).1⟩, (ur_ret hI ht).2⟩) hI.2.2.1.2.2 hdg hlocks
end URW
/-- contracts over the heap as a function: an int, a long, a reference or nothing comes back -/
def ur_Mi (l : Launch) (y : MethodName) (ws : List Cond) (rm : Room) (D : va_G) (cl : List vw_C) (V : ur_V) (av : List Value) (h : ur_M) (post : Int32 → ur_M → Prop) (mc ms : Nat) : Prop := ∀ sz : Nat, Met l y ws rm (va_Pc av (ur_B D cl V h sz)) (va_Qi post (ur_E D cl h sz) (ur_A h sz)) mc ms (ur_A h sz)
def ur_Ml (l : Launch) (y : MethodName) (ws : List Cond) (rm : Room) (D : va_G) (cl : List vw_C) (V : ur_V) (av : List Value) (h : ur_M) (post : Int64 → ur_M → Prop) (mc ms : Nat) : Prop := ∀ sz : Nat, Met l y ws rm (va_Pc av (ur_B D cl V h sz)) (va_Ql post (ur_E D cl h sz) (ur_A h sz)) mc ms (ur_A h sz)
def ur_Mq (l : Launch) (y : MethodName) (ws : List Cond) (rm : Room) (D : va_G) (cl : List vw_C) (V : ur_V) (av : List Value) (h : ur_M) (post : Option Nat → ur_M → Prop) (mc ms : Nat) : Prop := ∀ sz : Nat, Met l y ws rm (va_Pc av (ur_B D cl V h sz)) (va_Qq post (ur_E D cl h sz) (ur_A h sz)) mc ms (ur_A h sz)
def ur_Mv (l : Launch) (y : MethodName) (ws : List Cond) (rm : Room) (D : va_G) (cl : List vw_C) (V : ur_V) (av : List Value) (h : ur_M) (post : ur_M → Prop) (mc ms : Nat) : Prop := ∀ sz : Nat, Met l y ws rm (va_Pc av (ur_B D cl V h sz)) (va_Qv post (ur_E D cl h sz) (ur_A h sz)) mc ms (ur_A h sz)
section URC
variable {p : Program} {l : Launch} {e : Env} {R : Room} {s : State} {m : MethodId} {args : Array Value} {below : List Frame} {meth : Method} {c : Code} {H : Heap} {locs : List Loc} {cells slots : Nat} {Q : State → Prop}
variable {cc : ByteArray} {pc : Nat} {ls : Array Slot} {rest : List Value} {D : va_G} {cl : List vw_C} {A : Nat → Prop} {a : Nat} {tys : List (ClassId × FieldType)} {H0 : Heap} {h : ur_M}
theorem ur_nn (z : Int32) (hz : ¬ z < 0) : z.toInt = (z.toNatClampNeg : Int) := by
  have hz0 : (0 : Int) ≤ z.toInt := by
    have := Int32.not_lt.mp hz
    simpa using Int32.le_iff_toInt_le.mp this
  show z.toInt = ((z.toInt.toNat : Nat) : Int)
  omega
/-- System.arraycopy between two int arrays that are known -/
theorem ur_copyi (hexec : p.tables.exec = Jvm.exec) (hb : c.code = cc) (hml : c.maxLocals = ls.size) {own : String} {index : Nat} (hown : s.vm.findClass own = some m.cls) (hlink : (Cond.methodLink own index arraycopyName).before args s = true) (hnat : (Cond.native arraycopyName).before args s = true) (hstat : (Cond.static arraycopyName).before args s = true) (hini : (Cond.initialized "java/lang/System").before args s = true)
    (hK : va_K D cl tys s) (hI : ur_I D cl A H0 h H locs) (t0 : Nat) {a0 : Nat} {c0 : ClassId} {n0 n1 : Nat} {f g : Nat → Int32} (ha0 : h a0 = some (.inl (c0, n0, .inl f))) (ha1 : h a = some (.inl (c0, n1, .inl g))) (ht0 : tys[t0]? = some (c0, .int))
    {sp dp n : Int32} (h1 : ¬ sp < 0) (h2 : ¬ dp < 0) (h3 : ¬ n < 0) (h4 : sp.toNatClampNeg + n.toNatClampNeg ≤ n0) (h5 : dp.toNatClampNeg + n.toNatClampNeg ≤ n1)
    (hframes : 1 ≤ R.frames) (hlocals : (rest.map fun v => v.category).sum + (nativeFrameWords "java/lang/System" "arraycopy" 5 + 11) ≤ R.locals) (hdg : decode cc pc = .ok (.invokestatic index, 3))
    (kk : ∀ (H1 : Heap) (locs1 : List Loc), ur_I D cl A H0 (va_up h a (some (.inl (c0, n1, .inl (va_cpy f g sp.toNatClampNeg dp.toNatClampNeg n.toNatClampNeg))))) H1 locs1 → W p l e R s m args below meth c H1 locs1 cells slots Q (F0 m (pc + 3) ls rest)) : W p l e R s m args below meth c H locs cells slots Q (F0 m pc ls (.int n :: .int dp :: .ref a :: .int sp :: .ref a0 :: rest)) := by
  intro T hT X
  have hc0 : H[a0]? = some (vp_cell c0 (n0, .inl f)) := hI.1 _ _ ha0
  have hc1 : H[a]? = some (vp_cell c0 (n1, .inl g)) := hI.1 _ _ ha1
  obtain ⟨-, k0, hk0, cm0, hkk0⟩ := (hK.2 t0 _ ht0).1 n0 (fun j => .int (f j))
  obtain ⟨-, k1, hk1, cm1, hkk1⟩ := (hK.2 t0 _ ht0).1 n1 (fun j => .int (g j))
  obtain ⟨vm', X', step⟩ := X.arraycopy hexec hown hlink hnat hstat hini (src := a0) (dst := a) (cs := vp_cell c0 (n0, .inl f)) (cd := vp_cell c0 (n1, .inl g)) (srcPos := sp) (destPos := dp) (n := n) (by rw [hT]; exact hc0) (by rw [hT]; exact hc1)
    (fun _ h => by cases h) (fun _ h => by cases h) (fun h => by cases h) (fun h => by cases h) hk0 hk1 hkk0 hkk1 (by simp [refKind]) h1 h2 h3
    (by rw [ur_nn sp h1, ur_nn n h3]; show ¬ _ > ((arrV c0 n0 (fun j => .int (f j))).slots.size : Int); rw [arrV_size]; omega)
    (by rw [ur_nn dp h2, ur_nn n h3]; show ¬ _ > ((arrV c0 n1 (fun j => .int (g j))).slots.size : Int); rw [arrV_size]; omega)
    (fun vm₁ _ i hi => by
      have e : (vp_cell c0 (n0, .inl f)).slots.getD (sp.toNatClampNeg + i) .null = .int (f (sp.toNatClampNeg + i)) := by
        show (arrV c0 n0 (fun j => .int (f j))).slots.getD _ _ = _
        rw [Array.getD_eq_getD_getElem?, arrV_read _ _ (by omega)]
        rfl
      refine ⟨?_, ?_⟩
      · rw [e]
        rfl
      · rw [e]
        exact trivial)
    (g := F0 m pc ls (.int n :: .int dp :: .ref a :: .int sp :: .ref a0 :: rest)) rfl (by rw [hml]) (rest := rest) rfl (by rw [hb]; exact hdg) hframes (by show 2 * 0 + _ + _ ≤ _; omega)
  have e1 : copied (vp_cell c0 (n0, .inl f)) (vp_cell c0 (n1, .inl g)) sp dp n = vp_cell c0 (n1, .inl (va_cpy f g sp.toNatClampNeg dp.toNatClampNeg n.toNatClampNeg)) := va_copied (fun z => .int z) c0 c0 f g h4
  rw [e1] at X' step
  generalize va_cpy f g sp.toNatClampNeg dp.toNatClampNeg n.toNatClampNeg = f2 at X' step kk
  have hl : a < H.size := (Array.getElem?_eq_some_iff.mp hc1).1
  have hheap : ((T.setVm vm').setCell a (vp_cell c0 (n1, .inl f2))).heap = H.setIfInBounds a (vp_cell c0 (n1, .inl f2)) := by rw [← hT]; rfl
  have oq : ∀ q : Nat, q ≠ a → (H.setIfInBounds a (vp_cell c0 (n1, .inl f2)))[q]? = H[q]? := fun q hq => by simp [Array.getElem?_setIfInBounds, Ne.symm hq]
  have hz : (H.setIfInBounds a (vp_cell c0 (n1, .inl f2))).size = H.size := by simp
  have I1 := hI.put (k := 0) ha1 hz oq (e := .inl (c0, n1, .inl f2)) (show (H.setIfInBounds a _)[a]? = some _ by simp [Array.getElem?_setIfInBounds, hl])
  obtain ⟨t, a1, b1⟩ := kk _ _ ⟨I1.1, I1.2.1, ⟨I1.2.2.1.1, I1.2.2.1.2.1, fun q hq => by
      rcases List.mem_append.mp hq with h | h
      · exact hI.2.2.1.2.2 q h
      · obtain ⟨z, -, hz⟩ := List.mem_map.mp h
        rw [← hz]
        exact hI.2.1 _ _ ha1⟩, hI.2.2.2⟩ _ hheap X'
  exact ⟨t, step t a1, b1⟩
end URC
theorem ur_ne {h : ur_M} {a b : Nat} {x y : va_E} (ha : h a = some x) (hb : h b = some y) (n : x ≠ y) : a ≠ b := fun q => n (Option.some.inj (by rw [← ha, q, hb]))
theorem ur_same {h : ur_M} {a : Nat} {e : va_E} (ha : h a = some e) : va_up h a (some e) = h := by
  funext b
  by_cases q : b = a
  · subst q
    rw [va_up_self, ha]
  · rw [va_up_ne _ _ q]
end
section
/-! pure words: truth values, words that lie in memory -/
def um_b (b : Bool) : Int32 := if b = true then 1 else 0
theorem um_b_nar (b : Bool) : narrow .boolean (.int (um_b b)) = .int (um_b b) := by cases b <;> rfl
theorem um_b_fit (b : Bool) : fits .boolean (.int (um_b b)) = true := by cases b <;> rfl
theorem um_b0 {b : Bool} {r : Int32} (hr : r = um_b b) (h : r = 0) : b = false := by
  cases b with
  | false => rfl
  | true => rw [hr] at h; exact absurd h (by decide)
theorem um_b1 {b : Bool} {r : Int32} (hr : r = um_b b) (h : ¬ r = 0) : b = true := by
  cases b with
  | true => rfl
  | false => rw [hr] at h; exact absurd rfl h
/-- n words from an address on lie in memory -/
def um_holds (a n : Int32) : Bool := if a < 0 then false else if n < 0 then false else if 4000 < n then false else if 4000 - n < a then false else true
theorem um_holds_of {a n : Int32} (h : um_holds a n = true) : ¬ a < 0 ∧ ¬ n < 0 ∧ ¬ 4000 < n ∧ ¬ 4000 - n < a := by
  unfold um_holds at h
  by_cases h1 : a < 0
  · rw [if_pos h1] at h; cases h
  · rw [if_neg h1] at h
    by_cases h2 : n < 0
    · rw [if_pos h2] at h; cases h
    · rw [if_neg h2] at h
      by_cases h3 : 4000 < n
      · rw [if_pos h3] at h; cases h
      · rw [if_neg h3] at h
        by_cases h4 : 4000 - n < a
        · rw [if_pos h4] at h; cases h
        · exact ⟨h1, h2, h3, h4⟩
theorem um_holds_nat {a : Int32} {n : Nat} (hn : n ≤ 4000) (h : um_holds a (nI n) = true) : ∃ j : Nat, a = nI j ∧ j + n ≤ 4000 := by
  obtain ⟨h1, -, -, h4⟩ := um_holds_of h
  obtain ⟨j, hj, rfl⟩ := nI_of h1
  refine ⟨j, rfl, ?_⟩
  rw [show (4000 : Int32) = nI 4000 from rfl, pk_sub hn, nI_ltI (by omega) (by omega)] at h4
  omega
theorem um_holds_1 {a : Int32} (h : um_holds a 1 = true) : ∃ j : Nat, a = nI j ∧ j < 4000 := by
  obtain ⟨j, e, hj⟩ := um_holds_nat (n := 1) (by omega) h
  exact ⟨j, e, by omega⟩
theorem um_holds_in {a : Int32} (h : um_holds a 1 = true) : vp_in a 4000 := by
  obtain ⟨j, rfl, hj⟩ := um_holds_1 h
  exact vp_in_nI hj (by omega)
theorem um_holds_iff {j n : Nat} (hj : j < 2 ^ 31) (hn : n ≤ 4000) : um_holds (nI j) (nI n) = decide (j + n ≤ 4000) := by
  have e1 : ¬ nI j < 0 := nI_pos hj
  have e2 : ¬ nI n < 0 := nI_pos (by omega)
  have e3 : ¬ (4000 : Int32) < nI n := by
    rw [show (4000 : Int32) = nI 4000 from rfl, nI_ltI (by omega) (by omega)]
    omega
  have e4 : ((4000 : Int32) - nI n < nI j) ↔ 4000 - n < j := by
    rw [show (4000 : Int32) = nI 4000 from rfl, pk_sub hn, nI_ltI (by omega) hj]
  unfold um_holds
  rw [if_neg e1, if_neg e2, if_neg e3]
  by_cases q : j + n ≤ 4000
  · rw [decide_eq_true q, if_neg (fun z => by have := e4.mp z; omega)]
  · rw [decide_eq_false q, if_pos (e4.mpr (by omega))]
/-- the word at an address -/
def um_at (g : Nat → Int32) (a : Int32) : Int32 := if um_holds a 1 = true then g a.toNatClampNeg else 2147483647
def um_put (g : Nat → Int32) (a v : Int32) : Nat → Int32 := if um_holds a 1 = true then upd g a.toNatClampNeg v else g
theorem um_put_t {g : Nat → Int32} {a v : Int32} (k : um_holds a 1 = true) : um_put g a v = upd g a.toNatClampNeg v := if_pos k
theorem um_put_f {g : Nat → Int32} {a v : Int32} (k : um_holds a 1 = false) : um_put g a v = g := if_neg (by rw [k]; decide)
/-- n words of memory into a row, a row into memory -/
def um_cin (g f : Nat → Int32) (a : Int32) (n : Nat) : Nat → Int32 := if um_holds a (nI n) = true then va_cpy g f a.toNatClampNeg 0 n else f
def um_cout (g f : Nat → Int32) (a : Int32) (n : Nat) : Nat → Int32 := if um_holds a (nI n) = true then va_cpy f g 0 a.toNatClampNeg n else g
theorem um_cin_t {g f : Nat → Int32} {a : Int32} {n : Nat} (k : um_holds a (nI n) = true) : um_cin g f a n = va_cpy g f a.toNatClampNeg 0 n := if_pos k
theorem um_cin_f {g f : Nat → Int32} {a : Int32} {n : Nat} (k : um_holds a (nI n) = false) : um_cin g f a n = f := if_neg (by rw [k]; decide)
theorem um_cout_t {g f : Nat → Int32} {a : Int32} {n : Nat} (k : um_holds a (nI n) = true) : um_cout g f a n = va_cpy f g 0 a.toNatClampNeg n := if_pos k
theorem um_cout_f {g f : Nat → Int32} {a : Int32} {n : Nat} (k : um_holds a (nI n) = false) : um_cout g f a n = g := if_neg (by rw [k]; decide)
def um_size (w : Int32) : Int32 := if w = (-2147483648) then 0 else if 0 ≤ w then w else 0 - w
/-- byte k of the words from an address on -/
def um_byte (g : Nat → Int32) (a k : Int32) : Int32 := (um_size (um_at g (a + k / 5)) >>> (((4 - (k - k / 5 * 5)) * 6) &&& 31)) &&& 63
/-- the letters -/
def um_let : List Int32 := [32, 65, 66, 67, 68, 69, 70, 71, 72, 73, 126, 74, 75, 76, 77, 78, 79, 80, 81, 82, 91, 35, 83, 84, 85, 86, 87, 88, 89, 90, 48, 49, 50, 51, 52, 53, 54, 55, 56, 57, 46, 44, 40, 41, 43, 45, 42, 47, 61, 36, 60, 62, 64, 59, 58, 39]
def um_letter (x : Int32) : Int32 := if x < 0 then 63 else if x < 56 then um_let.getD x.toNatClampNeg 0 else 63
def um_great (x : Int32) : Int32 := if x < 97 then x else if 122 < x then x else x - 97 + 65
/-- where a letter stands from place i on, n places are left -/
def um_find (x : Int32) : Nat → Nat → Int32
  | 0, _ => -1
  | n + 1, i => if um_let.getD i 0 = x then nI i else um_find x n (i + 1)
def um_code (x : Int32) : Int32 := if 0 < um_find ((um_great x).toUInt32 % 65536).toInt32 56 0 then um_find ((um_great x).toUInt32 % 65536).toInt32 56 0 else 0
end
section
/-! the whole heap goes to the callee; starts and ends of a contract; references that may be null -/
section URX
variable {p : Program} {l : Launch} {e : Env} {R : Room} {s : State} {m : MethodId} {args : Array Value} {below : List Frame} {meth : Method} {c : Code} {H : Heap} {locs : List Loc} {cells slots : Nat} {Q : State → Prop}
variable {cc : ByteArray} {pc : Nat} {ls : Array Slot} {rest st0 : List Value} {D : va_G} {cl : List vw_C} {A : Nat → Prop} {a : Nat} {H0 : Heap} {h h0 : ur_M} {mc ms : Nat} {av : Array Value}
theorem ur_xi {post : Int32 → ur_M → Prop} (hr : va_Run p l e R s m args below meth c H locs cells slots mc ms (F0 m pc ls st0) rest (va_Qi post (ur_E D cl h H.size) (ur_A h H.size) av) (ur_A h H.size)) (hI : ur_I D cl A H0 h H locs)
    (kk : ∀ (r : Int32) (h' : ur_M) (H1 : Heap) (locs1 : List Loc), post r h' → ur_I D cl A H0 h' H1 locs1 → W p l e R s m args below meth c H1 locs1 (cells + mc) (slots + ms) Q (F0 m (pc + 3) ls (.int r :: rest))) : W p l e R s m args below meth c H locs cells slots Q (F0 m pc ls st0) :=
  ur_ci hr hI (fun _ _ q => q) (fun r h' H1 locs1 hp _ hI1 => kk r h' H1 locs1 hp (by rw [ur_mix_all] at hI1; exact hI1))
theorem ur_xl {post : Int64 → ur_M → Prop} (hr : va_Run p l e R s m args below meth c H locs cells slots mc ms (F0 m pc ls st0) rest (va_Ql post (ur_E D cl h H.size) (ur_A h H.size) av) (ur_A h H.size)) (hI : ur_I D cl A H0 h H locs)
    (kk : ∀ (r : Int64) (h' : ur_M) (H1 : Heap) (locs1 : List Loc), post r h' → ur_I D cl A H0 h' H1 locs1 → W p l e R s m args below meth c H1 locs1 (cells + mc) (slots + ms) Q (F0 m (pc + 3) ls (.long r :: rest))) : W p l e R s m args below meth c H locs cells slots Q (F0 m pc ls st0) :=
  ur_cl hr hI (fun _ _ q => q) (fun r h' H1 locs1 hp _ hI1 => kk r h' H1 locs1 hp (by rw [ur_mix_all] at hI1; exact hI1))
theorem ur_xq {post : Option Nat → ur_M → Prop} (hr : va_Run p l e R s m args below meth c H locs cells slots mc ms (F0 m pc ls st0) rest (va_Qq post (ur_E D cl h H.size) (ur_A h H.size) av) (ur_A h H.size)) (hI : ur_I D cl A H0 h H locs)
    (kk : ∀ (r : Option Nat) (h' : ur_M) (H1 : Heap) (locs1 : List Loc), post r h' → ur_I D cl A H0 h' H1 locs1 → W p l e R s m args below meth c H1 locs1 (cells + mc) (slots + ms) Q (F0 m (pc + 3) ls (va_rf r :: rest))) : W p l e R s m args below meth c H locs cells slots Q (F0 m pc ls st0) :=
  ur_cq hr hI (fun _ _ q => q) (fun r h' H1 locs1 hp _ hI1 => kk r h' H1 locs1 hp (by rw [ur_mix_all] at hI1; exact hI1))
theorem ur_xv {post : ur_M → Prop} (hr : va_Run p l e R s m args below meth c H locs cells slots mc ms (F0 m pc ls st0) rest (va_Qv post (ur_E D cl h H.size) (ur_A h H.size) av) (ur_A h H.size)) (hI : ur_I D cl A H0 h H locs)
    (kk : ∀ (h' : ur_M) (H1 : Heap) (locs1 : List Loc), post h' → ur_I D cl A H0 h' H1 locs1 → W p l e R s m args below meth c H1 locs1 (cells + mc) (slots + ms) Q (F0 m (pc + 3) ls rest)) : W p l e R s m args below meth c H locs cells slots Q (F0 m pc ls st0) :=
  ur_cv hr hI (fun _ _ q => q) (fun h' H1 locs1 hp _ hI1 => kk h' H1 locs1 hp (by rw [ur_mix_all] at hI1; exact hI1))
/-- the ends, with the goal's own name Q -/
theorem ur_ri {post : Int32 → ur_M → Prop} {v : Int32} (hexec : p.tables.exec = Jvm.exec) (hb : c.code = cc) (hr : meth.sig.returnType = some .int) (hlocks : meth.locks = false) (hI : ur_I D cl (ur_A h0 s.heap.size) s.heap h H locs) (hQ : Q = MQ below (va_Qi post (ur_E D cl h0 s.heap.size) (ur_A h0 s.heap.size)) args s cells slots (ur_A h0 s.heap.size)) (hp : post v h) (hdg : decode cc pc = .ok (.ireturn, 1)) : W p l e R s m args below meth c H locs cells slots Q (F0 m pc ls [.int v]) := by
  rw [hQ]; exact ur_iret hexec hb hr hlocks hI hp hdg
theorem ur_rz {post : Int32 → ur_M → Prop} {v : Int32} {ty : FieldType} (hexec : p.tables.exec = Jvm.exec) (hb : c.code = cc) (hr : meth.sig.returnType = some ty) (hlocks : meth.locks = false) (hI : ur_I D cl (ur_A h0 s.heap.size) s.heap h H locs) (hQ : Q = MQ below (va_Qi post (ur_E D cl h0 s.heap.size) (ur_A h0 s.heap.size)) args s cells slots (ur_A h0 s.heap.size)) (hn : narrow ty (.int v) = .int v) (hp : post v h) (hdg : decode cc pc = .ok (.ireturn, 1)) : W p l e R s m args below meth c H locs cells slots Q (F0 m pc ls [.int v]) := by
  rw [hQ]; exact ur_zret hexec hb hr hn hlocks hI hp hdg
theorem ur_rl {post : Int64 → ur_M → Prop} {v : Int64} (hexec : p.tables.exec = Jvm.exec) (hb : c.code = cc) (hr : meth.sig.returnType = some .long) (hlocks : meth.locks = false) (hI : ur_I D cl (ur_A h0 s.heap.size) s.heap h H locs) (hQ : Q = MQ below (va_Ql post (ur_E D cl h0 s.heap.size) (ur_A h0 s.heap.size)) args s cells slots (ur_A h0 s.heap.size)) (hp : post v h) (hdg : decode cc pc = .ok (.lreturn, 1)) : W p l e R s m args below meth c H locs cells slots Q (F0 m pc ls [.long v]) := by
  rw [hQ]; exact ur_lret hexec hb hr hlocks hI hp hdg
theorem ur_rv {post : ur_M → Prop} (hexec : p.tables.exec = Jvm.exec) (hb : c.code = cc) (hr : meth.sig.returnType = none) (hlocks : meth.locks = false) (hI : ur_I D cl (ur_A h0 s.heap.size) s.heap h H locs) (hQ : Q = MQ below (va_Qv post (ur_E D cl h0 s.heap.size) (ur_A h0 s.heap.size)) args s cells slots (ur_A h0 s.heap.size)) (hp : post h) (hdg : decode cc pc = .ok (.return_, 1)) : W p l e R s m args below meth c H locs cells slots Q (F0 m pc ls []) := by
  rw [hQ]; exact ur_vret hexec hb hr hlocks hI hp hdg
theorem ur_rq {post : Option Nat → ur_M → Prop} {v : Option Nat} {rt : FieldType} (hexec : p.tables.exec = Jvm.exec) (hb : c.code = cc) (hr : meth.sig.returnType = some rt) (hlocks : meth.locks = false) (hI : ur_I D cl (ur_A h0 s.heap.size) s.heap h H locs) (hQ : Q = MQ below (va_Qq post (ur_E D cl h0 s.heap.size) (ur_A h0 s.heap.size)) args s cells slots (ur_A h0 s.heap.size)) (hrt : (∃ n, rt = .object n) ∨ ∃ t, rt = .array t) (hp : post v h) (hdg : decode cc pc = .ok (.areturn, 1)) : W p l e R s m args below meth c H locs cells slots Q (F0 m pc ls [va_rf v]) := by
  rw [hQ]; exact ur_qret hexec hb hr hrt hlocks hI hp hdg
/-- a reference that may be null: loads, stores, tests -/
theorem ur_aln (hexec : p.tables.exec = Jvm.exec) (hb : c.code = cc) {k : Fin 4} {i : Nat} {x : Option Nat} (hdg : decode cc pc = .ok (.aload_n k, 1)) (hi : (k : Nat) = i) (hl : ls[i]? = some (.val (va_rf x)))
    (kk : W p l e R s m args below meth c H locs cells slots Q (F0 m (pc + 1) ls (va_rf x :: rest))) : W p l e R s m args below meth c H locs cells slots Q (F0 m pc ls rest) := by
  cases x with
  | none => exact lv_aload_nN hexec hb hdg hi hl kk
  | some x => exact lv_aload_n hexec hb hdg hi hl kk
theorem ur_al (hexec : p.tables.exec = Jvm.exec) (hb : c.code = cc) {i : Nat} {x : Option Nat} (hdg : decode cc pc = .ok (.aload i, 2)) (hl : ls[i]? = some (.val (va_rf x)))
    (kk : W p l e R s m args below meth c H locs cells slots Q (F0 m (pc + 2) ls (va_rf x :: rest))) : W p l e R s m args below meth c H locs cells slots Q (F0 m pc ls rest) := by
  cases x with
  | none => exact lv_aloadN hexec hb hdg hl kk
  | some x => exact lv_aload hexec hb hdg hl kk
theorem ur_asn (hexec : p.tables.exec = Jvm.exec) (hb : c.code = cc) {k : Fin 4} {i nL : Nat} {x : Option Nat} {lv lv' : List (Nat × Value)} (hdg : decode cc pc = .ok (.astore_n k, 1)) (hi : (k : Nat) = i) (h : lv_has ls nL lv) (hn : i < nL) (hl : (i, va_rf x) :: lv.filter (fun q => !(q.1 == i) && !(q.1 + 1 == i && q.2.category == 2)) = lv')
    (kk : ∀ ls' : Array Slot, lv_has ls' nL lv' → W p l e R s m args below meth c H locs cells slots Q (F0 m (pc + 1) ls' rest)) : W p l e R s m args below meth c H locs cells slots Q (F0 m pc ls (va_rf x :: rest)) := by
  cases x with
  | none => exact lv_astore_nN hexec hb hdg hi h hn hl kk
  | some x => exact lv_astore_n hexec hb hdg hi h hn hl kk
theorem ur_as (hexec : p.tables.exec = Jvm.exec) (hb : c.code = cc) {i nL : Nat} {x : Option Nat} {lv lv' : List (Nat × Value)} (hdg : decode cc pc = .ok (.astore i, 2)) (h : lv_has ls nL lv) (hn : i < nL) (hl : (i, va_rf x) :: lv.filter (fun q => !(q.1 == i) && !(q.1 + 1 == i && q.2.category == 2)) = lv')
    (kk : ∀ ls' : Array Slot, lv_has ls' nL lv' → W p l e R s m args below meth c H locs cells slots Q (F0 m (pc + 2) ls' rest)) : W p l e R s m args below meth c H locs cells slots Q (F0 m pc ls (va_rf x :: rest)) := by
  cases x with
  | none => exact lv_astoreN hexec hb hdg h hn hl kk
  | some x => exact lv_astore hexec hb hdg h hn hl kk
theorem ur_ifn (hexec : p.tables.exec = Jvm.exec) (hb : c.code = cc) {off : Int} {tgt : Nat} {x : Option Nat} (hdg : decode cc pc = .ok (.ifnull off, 3)) (ht : (pc : Int) + off = (tgt : Int)) (kn : x = none → W p l e R s m args below meth c H locs cells slots Q (F0 m tgt ls rest)) (ks : ∀ a : Nat, x = some a → W p l e R s m args below meth c H locs cells slots Q (F0 m (pc + 3) ls rest)) : W p l e R s m args below meth c H locs cells slots Q (F0 m pc ls (va_rf x :: rest)) := by
  cases x with
  | none => exact lv_ifnullN hexec hb hdg ht (kn rfl)
  | some x => exact lv_ifnull hexec hb hdg (ks x rfl)
theorem ur_ifnn (hexec : p.tables.exec = Jvm.exec) (hb : c.code = cc) {off : Int} {tgt : Nat} {x : Option Nat} (hdg : decode cc pc = .ok (.ifnonnull off, 3)) (ht : (pc : Int) + off = (tgt : Int)) (ks : ∀ a : Nat, x = some a → W p l e R s m args below meth c H locs cells slots Q (F0 m tgt ls rest)) (kn : x = none → W p l e R s m args below meth c H locs cells slots Q (F0 m (pc + 3) ls rest)) : W p l e R s m args below meth c H locs cells slots Q (F0 m pc ls (va_rf x :: rest)) := by
  cases x with
  | none => exact lv_ifnonnullN hexec hb hdg (kn rfl)
  | some x => exact lv_ifnonnull hexec hb hdg ht (ks x rfl)
end URX
/-- the start of a contract -/
theorem ur_of {l : Launch} {y : MethodName} {ws ws' : List Cond} {rm : Room} {D : va_G} {cl : List vw_C} {V : ur_V} {av : List Value} {h : ur_M} {mc ms sz : Nat} {cc : ByteArray} {maxL : Nat} {ret : Option FieldType} {Qc : Array Value → State → Outcome → State → Prop} (hy : plainName y.cls = true) (hw : ws = Cond.code y cc maxL ret :: ws') (hav : (lg_sl av).length ≤ maxL)
    (body : ∀ (p : Program) (e : Env) (s : State) (m : MethodId) (args : Array Value) (below : List Frame) (meth : Method) (c : Code) (ls : Array Slot) (Q : State → Prop), s.heap.size = sz → p.tables.exec = Jvm.exec → c.code = cc → c.maxLocals = maxL → meth.sig.returnType = ret → meth.locks = false → meth.name = y.name → s.vm.findClass y.cls = some m.cls → (∀ w ∈ ws, w.before args s = true) → ur_O V (ur_A h s.heap.size) s s.heap → ur_K D cl V s → ur_I D cl (ur_A h s.heap.size) s.heap h s.heap [] → Q = MQ below Qc args s mc ms (ur_A h sz) → lv_has ls maxL (lv_args 0 av) → W p l e rm s m args below meth c s.heap [] 0 0 Q (F0 m 0 ls [])) : Met l y ws rm (va_Pc av (ur_B D cl V h sz)) Qc mc ms (ur_A h sz) := by
  refine Met.ofW hy hw ?_
  intro p e s m args below meth c s₁ B hml hv
  obtain ⟨ha, hsz, hP0, hO, hK⟩ := hv
  have hl := lv_entry av (n := maxL) hav
  have hts := atoms_spec (ws := ws) B.pre
  have hnm := (name_of_methodNamed B.named B.method).1
  have hown := findClass_of_methodNamed B.named
  have hlocks := B.notSynchronized
  have hx := B.exec
  have hb := B.bytes
  have hr := B.returns
  clear B
  subst ha
  rw [lg_entry_eq]
  refine body p e s m _ below meth c _ _ hsz hx hb hml hr hlocks hnm hown hts ?_ hK (ur_begin hP0) rfl hl
  rw [hsz]
  exact hO
theorem ur_sw {h : ur_M} {a b : Nat} {x y x' : Option va_E} (n : a ≠ b) : va_up (va_up (va_up h a x) b y) a x' = va_up (va_up h a x') b y := by
  funext q
  by_cases qa : q = a
  · subst qa
    rw [va_up_self, va_up_ne _ _ n, va_up_self]
  · rw [va_up_ne _ _ qa]
    by_cases qb : q = b
    · subst qb
      rw [va_up_self, va_up_self]
    · rw [va_up_ne _ _ qb, va_up_ne _ _ qb, va_up_ne _ _ qa, va_up_ne _ _ qa]
theorem ur_com {h : ur_M} {a b : Nat} {x y : Option va_E} (n : a ≠ b) : va_up (va_up h a x) b y = va_up (va_up h b y) a x := by
  funext q
  by_cases qa : q = a
  · subst qa
    rw [va_up_self, va_up_ne _ _ n, va_up_self]
  · rw [va_up_ne _ _ qa]
    by_cases qb : q = b
    · subst qb
      rw [va_up_self, va_up_self]
    · rw [va_up_ne _ _ qb, va_up_ne _ _ qb, va_up_ne _ _ qa]
theorem ur_fresh {h : ur_M} {a q : Nat} {e : va_E} (ha : h a = some e) (hq : h q = none) : a ≠ q := fun z => by
  rw [z, hq] at ha
  cases ha
end
section
/-! what stays fixed: E = (classes of arrays, address of the text of letters, address of its bytes, a static of Preconditions) -/
abbrev ur_Ev : Type := (Nat → ClassId) × Nat × Nat × Option Nat
def ur_ty (k : Nat → ClassId) : List (ClassId × FieldType) := [(k 0, .int), (k 1, .byte), (k 2, .object "UnitRoom$Device"), (k 3, .array .int), (k 4, .array .byte), (k 5, .long), (k 6, .boolean)]
def ur_Z (E : ur_Ev) (A : Nat → Prop) (U : State) (H : Heap) : Prop := va_O "java/lang/String" E.2.1 A U H ∧ va_OF "java/lang/String" "coder" "B" (.int 0) E.2.1 A U H ∧ va_OF "java/lang/String" "value" "[B" (.ref E.2.2.1) E.2.1 A U H ∧ va_T .byte E.2.2.1 56 (fun j => .int (um_let.getD j 0)) A U H ∧ va_Z "java/lang/String" "COMPACT_STRINGS" "Z" (.int 1) A U H ∧ va_Z "jdk/internal/util/Preconditions" "SIOOBE_FORMATTER" "Ljava/util/function/BiFunction;" (va_rf E.2.2.2) A U H
theorem ur_Z_ok (E : ur_Ev) : ur_Zok (ur_Z E) := by
  refine ⟨fun A u U H hvm h => ?_, fun A U H H1 hq h => ?_, fun A B U H hAB h => ?_⟩
  · obtain ⟨h1, h2, h3, h4, h5, h6⟩ := h
    exact ⟨va_O.moved hvm h1, va_OF.moved hvm h2, va_OF.moved hvm h3, va_T.moved hvm h4, va_Z.moved hvm h5, va_Z.moved hvm h6⟩
  · obtain ⟨h1, h2, h3, h4, h5, h6⟩ := h
    exact ⟨h1.kept hq, h2.kept hq, h3.kept hq, h4.kept hq, h5.kept hq, h6.kept hq⟩
  · obtain ⟨h1, h2, h3, h4, h5, h6⟩ := h
    exact ⟨h1.narrow hAB, h2.narrow hAB, h3.narrow hAB, h4.narrow hAB, h5.narrow hAB, h6.narrow hAB⟩
def ur_nM : List (String × Nat × MethodName × String) := [("UnitRoom", 9, ⟨"UnitRoom$Memory", "<init>", "()V"⟩, "UnitRoom"), ("UnitRoom", 18, ⟨"UnitRoom$InputTape", "<init>", "()V"⟩, "UnitRoom"), ("UnitRoom$Writer", 43, ⟨"UnitRoom", "letterOf", "(I)C"⟩, "UnitRoom"), ("UnitRoom$InputTape", 17, ⟨"UnitRoom", "codeOf", "(I)I"⟩, "UnitRoom")]
def ur_nD : List MethodName := [⟨"UnitRoom$Device", "faultOf", "(III)I"⟩, ⟨"UnitRoom$Device", "work", "(IIILUnitRoom$Memory;)V"⟩, ⟨"UnitRoom$BlockDevice", "readBlock", "(II)V"⟩, ⟨"UnitRoom$Device", "bringTo", "(I)V"⟩, ⟨"UnitRoom$BlockDevice", "writeBlock", "(IILUnitRoom$Memory;)V"⟩, ⟨"UnitRoom$Device", "tell", "()I"⟩]
def ur_nC : List (String × String) := [("UnitRoom$Writer", "UnitRoom$Writer"), ("UnitRoom$Disk", "UnitRoom$BlockDevice"), ("UnitRoom$Tape", "UnitRoom$BlockDevice"), ("UnitRoom$Disk", "UnitRoom$Device"), ("UnitRoom$Reader", "UnitRoom$Device"), ("UnitRoom$Tape", "UnitRoom$Device"), ("UnitRoom$Writer", "UnitRoom$Device")]
def ur_nN : List (String × String) := [("UnitRoom$Reader", "UnitRoom$Writer"), ("UnitRoom$Tape", "UnitRoom$Writer"), ("UnitRoom$Disk", "UnitRoom$Writer"), ("UnitRoom$Reader", "UnitRoom$BlockDevice"), ("UnitRoom$Writer", "UnitRoom$BlockDevice")]
def ur_nO : List FieldType := [.object "UnitRoom$Device", .array .int, .array .byte]
/-- an array class of arrays, as the tables have it -/
def ur_AA (cA cR : ClassId) (t : FieldType) (U : State) : Prop := (∃ kA : Class, U.vm.classes[cA]? = some kA ∧ kA.kind = .array cR (.array t)) ∧ ∃ kR : Class, U.vm.classes[cR]? = some kR
theorem ur_AA.moved {cA cR : ClassId} {t : FieldType} {u U : State} (hvm : u.vm.Alike U.vm) (h : ur_AA cA cR t u) : ur_AA cA cR t U := by
  obtain ⟨⟨kA, h1, h2⟩, kR, h3⟩ := h
  obtain ⟨k', hk', he⟩ := hvm.2.2 _ _ h1
  obtain ⟨k2, hk2, -⟩ := hvm.2.2 _ _ h3
  exact ⟨⟨k', hk', by rw [he]; exact h2⟩, k2, hk2⟩
def ur_CD (U : State) : Prop := ∃ (comp : ClassId) (k : Class), U.vm.findClass "UnitRoom$Device" = some comp ∧ U.vm.classes[comp]? = some k
theorem ur_CD.moved {u U : State} (hvm : u.vm.Alike U.vm) (h : ur_CD u) : ur_CD U := by
  obtain ⟨comp, k, h1, h2⟩ := h
  obtain ⟨k', hk', -⟩ := hvm.2.2 _ _ h2
  exact ⟨comp, k', by rw [hvm.findClass]; exact h1, hk'⟩
theorem ur_AOs {t : FieldType} {u U : State} (hv : U.vm = u.vm) (h : va_Nw (.arrayOver t) u) : va_Nw (.arrayOver t) U := by
  unfold va_Nw at h ⊢
  simp only [Cond.before, Cond.holds, Cond.value, hv] at h ⊢
  exact h
def ur_X (E : ur_Ev) (U : State) : Prop := (∀ q ∈ ur_nM, va_Nw (.methodLinkNest q.1 q.2.1 q.2.2.1 q.2.2.2) U) ∧ (∀ x ∈ ur_nD, va_Nw (.declares x) U) ∧ (∀ q ∈ ur_nC, va_Nw (.castable q.1 q.2) U) ∧ (∀ q ∈ ur_nN, va_Nc q.1 q.2 U) ∧ (∀ t ∈ ur_nO, va_Nw (.arrayOver t) U) ∧ ur_AA (E.1 3) (E.1 0) .int U ∧ ur_AA (E.1 4) (E.1 1) .byte U ∧ ur_CD U ∧ vk_R "UnitRoom" 159 " ABCDEFGHI~JKLMNOPQR[#STUVWXYZ0123456789.,()+-*/=$<>@;:'" E.2.1 U
theorem ur_X_ok (E : ur_Ev) : ur_Xok (ur_X E) := by
  refine ⟨fun s U hW h => ?_, fun u U hv h => ?_⟩
  · obtain ⟨h1, h2, h3, h4, h5, h6, h7, h8, h9⟩ := h
    exact ⟨fun q hq => va_Nw.warmM hW (h1 q hq), fun x hx => va_Nw.warmD hW (h2 x hx), fun q hq => va_Nw.warmC hW (h3 q hq), fun q hq => va_Nc.moved hW.alike (h4 q hq), fun t ht => ur_AOs (u := s.setVm U.vm) rfl (by show (Cond.arrayOver t).before #[] _ = true; rw [Cond.arrayOver_setVmC hW.alike]; exact h5 t ht), h6.moved hW.alike, h7.moved hW.alike, h8.moved hW.alike, h9.warm hW⟩
  · obtain ⟨h1, h2, h3, h4, h5, h6, h7, h8, h9⟩ := h
    have ha : u.vm.Alike U.vm := by rw [hv]; exact Vm.Alike.refl _
    exact ⟨fun q hq => va_Nw.same rfl hv.symm (h1 q hq), fun x hx => va_Nw.same rfl hv.symm (h2 x hx), fun q hq => va_Nw.same rfl hv.symm (h3 q hq), fun q hq => va_Nc.moved ha (h4 q hq), fun t ht => ur_AOs hv (h5 t ht), h6.moved ha, h7.moved ha, h8.moved ha, vk_R.same hv h9⟩
def ur_v (E : ur_Ev) : ur_V := (ur_ty E.1, ur_Z E, ur_X E)
end
section
/-! the words of a callee are among all words -/
theorem ur_gI {y : MethodName} {b : ByteArray} {n : Nat} {r : Option FieldType} (h : Cond.code y b n r ∈ ur_G) : GoodIn ur_G (Cond.code y b n r :: ur_G) := ur_good (fun w hw => by
  rcases List.mem_cons.mp hw with q | q
  · rw [q]; exact h
  · exact q)
theorem ur_gV {own C : String} {idx : Nat} {y : MethodName} {b : ByteArray} {n : Nat} {r : Option FieldType} (h1 : Cond.methodLink own idx y ∈ ur_G) (h2 : Cond.instanceMethod y ∈ ur_G) (h3 : Cond.selects C y y ∈ ur_G) (h4 : Cond.initialized C ∈ ur_G) (h5 : Cond.code y b n r ∈ ur_G) : GoodIn ur_G (wsV own idx C y (Cond.code y b n r :: ur_G)) := ur_good (fun w hw => by
  rcases List.mem_append.mp hw with q | q
  · simp only [List.mem_cons, List.not_mem_nil, or_false] at q
    rcases q with q | q | q | q
    · rw [q]; exact h1
    · rw [q]; exact h2
    · rw [q]; exact h3
    · rw [q]; exact h4
  · rcases List.mem_cons.mp q with q | q
    · rw [q]; exact h5
    · exact q)
theorem ur_gS {own : String} {idx : Nat} {y : MethodName} {b : ByteArray} {n : Nat} {r : Option FieldType} (h1 : Cond.methodLink own idx y ∈ ur_G) (h2 : Cond.static y ∈ ur_G) (h4 : Cond.initialized own ∈ ur_G) (h5 : Cond.code y b n r ∈ ur_G) : GoodIn ur_G (wsS own idx y (Cond.code y b n r :: ur_G)) := ur_good (fun w hw => by
  rcases List.mem_append.mp hw with q | q
  · simp only [List.mem_cons, List.not_mem_nil, or_false] at q
    rcases q with q | q | q
    · rw [q]; exact h1
    · rw [q]; exact h2
    · rw [q]; exact h4
  · rcases List.mem_cons.mp q with q | q
    · rw [q]; exact h5
    · exact q)
theorem ur_gU {own C owner : String} {idx : Nat} {x y : MethodName} {b : ByteArray} {n : Nat} {r : Option FieldType} (h1 : Cond.methodLink own idx x ∈ ur_G) (h2 : Cond.sameMethod x.cls owner x.name x.desc ∈ ur_G) (h3 : Cond.selects C x y ∈ ur_G) (h4 : Cond.instanceMethod y ∈ ur_G) (h6 : Cond.initialized y.cls ∈ ur_G) (h5 : Cond.code y b n r ∈ ur_G) : GoodIn ur_G (va_wsU own idx C owner x y (Cond.code y b n r :: ur_G)) := ur_good (fun w hw => by
  rcases List.mem_append.mp hw with q | q
  · simp only [List.mem_cons, List.not_mem_nil, or_false] at q
    rcases q with q | q | q | q | q
    · rw [q]; exact h1
    · rw [q]; exact h2
    · rw [q]; exact h3
    · rw [q]; exact h4
    · rw [q]; exact h6
  · rcases List.mem_cons.mp q with q | q
    · rw [q]; exact h5
    · exact q)
theorem ur_gT {own : String} {idx : Nat} {y : MethodName} {b : ByteArray} {n : Nat} {r : Option FieldType} (h1 : Cond.methodLink own idx y ∈ ur_G) (h2 : Cond.static y ∈ ur_G) (h4 : Cond.initialized y.cls ∈ ur_G) (h5 : Cond.code y b n r ∈ ur_G) : GoodIn ur_G (va_wsS own idx y (Cond.code y b n r :: ur_G)) := ur_good (fun w hw => by
  rcases List.mem_append.mp hw with q | q
  · simp only [List.mem_cons, List.not_mem_nil, or_false] at q
    rcases q with q | q | q
    · rw [q]; exact h1
    · rw [q]; exact h2
    · rw [q]; exact h4
  · rcases List.mem_cons.mp q with q | q
    · rw [q]; exact h5
    · exact q)
theorem ur_recS {E : ur_Ev} {A : Nat → Prop} {s : State} {H : Heap} {locs : List Loc} (h : ur_Z E A s s.heap) (hS : va_S A s.heap H locs) : ∃ cell : Cell, H[E.2.1]? = some cell ∧ cell.vm.isStatics = false ∧ s.vm.findClass "java/lang/String" = some cell.cls := by
  obtain ⟨cell, h1, h2, h3, -⟩ := h.1.kept hS.2.1
  exact ⟨cell, h1, h2, h3⟩
end
section
/-! the letters: pure -/
theorem um_in {x : Int32} {n : Nat} (h0 : ¬ x < 0) (h1 : x < nI n) (hn : n < 2 ^ 31) : vp_in x n := by
  obtain ⟨j, hj, rfl⟩ := nI_of h0
  exact vp_in_nI ((nI_ltI hj hn).mp h1) hn
theorem um_ch0 : ∀ j, j < 56 → (((um_let.getD j 0 &&& 255).toUInt32 % 65536).toInt32 = um_let.getD j 0 ∧ narrow .char (.int (um_let.getD j 0)) = .int (um_let.getD j 0)) := by decide +kernel
theorem um_ch {x : Int32} (h0 : ¬ x < 0) (h1 : x < 56) : ((um_let.getD x.toNatClampNeg 0 &&& 255).toUInt32 % 65536).toInt32 = um_let.getD x.toNatClampNeg 0 ∧ narrow .char (.int (um_let.getD x.toNatClampNeg 0)) = .int (um_let.getD x.toNatClampNeg 0) := by
  obtain ⟨j, hj, rfl⟩ := nI_of h0
  have hj2 : j < 56 := (nI_ltI hj (by decide)).mp h1
  rw [nI_clamp hj]
  exact um_ch0 j hj2
def um_enc (x : Int32) : Bool := if x < 0 then false else if 255 < x then false else true
theorem um_fb0 : ∀ n, n < 256 → ∀ j, j < 56 → (um_let.getD j 0 = (nI n).toInt8.toInt32 ↔ um_let.getD j 0 = nI n) := by decide +kernel
theorem um_fb {x : Int32} (h : um_enc x = true) {j : Nat} (hj : j < 56) : um_let.getD j 0 = x.toInt8.toInt32 ↔ um_let.getD j 0 = x := by
  unfold um_enc at h
  by_cases h0 : x < 0
  · rw [if_pos h0] at h; cases h
  · rw [if_neg h0] at h
    by_cases h1 : 255 < x
    · rw [if_pos h1] at h; cases h
    · obtain ⟨n, hn, rfl⟩ := nI_of h0
      refine um_fb0 n ?_ j hj
      rcases Nat.lt_or_ge n 256 with q | q
      · exact q
      · exact absurd (nI_lt (a := 255) (b := n) (by omega) hn) h1
theorem um_lets : ∀ j, j < 56 → um_enc (um_let.getD j 0) = true := by decide +kernel
theorem um_find_no {x : Int32} (h : um_enc x = false) : ∀ n i, i + n = 56 → um_find x n i = -1 := by
  intro n
  induction n with
  | zero => intro i _; rfl
  | succ n ih =>
    intro i hi
    rw [um_find, if_neg (fun q => by have := um_lets i (by omega); rw [q, h] at this; cases this)]
    exact ih (i + 1) (by omega)
theorem um_shr0 (x : Int32) : x >>> ((0 : Int32) &&& 31) = x := sb_shr0 x
end
section
/-! pure words: the tape of bytes -/
theorem ur_alt {h : ur_M} {a b : Nat} {x1 y1 x2 y2 : Option va_E} (n : a ≠ b) : va_up (va_up (va_up (va_up h a x1) b y1) a x2) b y2 = va_up (va_up h a x2) b y2 := by
  rw [ur_sw n, bx_uu]
def um_sb (v k : Int32) : Int32 := vp_nar .byte (v >>> (k &&& 31)).toInt8.toInt32
/-- four bytes behind place n -/
def um_app (b : Nat → Int32) (n : Nat) (v : Int32) : Nat → Int32 := upd (upd (upd (upd b n (um_sb v 24)) (n + 1) (um_sb v 16)) (n + 1 + 1) (um_sb v 8)) (n + 1 + 1 + 1) (um_sb v 0)
def um_room (x : Int32) : Bool := if 400 - 20 < x then false else true
def um_cutok (x n : Int32) : Bool := if n < 0 then false else if n ≤ x then true else false
def um_cutn (x n : Int32) : Int32 := if n < 0 then x else if n ≤ x then n else x
def um_cAt (b : Nat → Int32) (n : Nat) (i : Int32) : Int32 := if i < 0 then 0 else if i < nI n then um_code (b i.toNatClampNeg &&& 255) else 0
/-- five letters from place i on, as a word -/
def um_wAt (b : Nat → Int32) (n : Nat) (i : Int32) : Int32 := ((((((0 : Int32) <<< ((6 : Int32) &&& 31)) ||| um_cAt b n (i + 0)) <<< ((6 : Int32) &&& 31) ||| um_cAt b n (i + 1)) <<< ((6 : Int32) &&& 31) ||| um_cAt b n (i + 2)) <<< ((6 : Int32) &&& 31) ||| um_cAt b n (i + 3)) <<< ((6 : Int32) &&& 31) ||| um_cAt b n (i + 4)
end
section
/-! pure words: blocks -/
def um_wordAt (R : Nat → Nat → Int32) (b i : Int32) : Int32 := if b < 0 then 2147483647 else if 64 ≤ b then 2147483647 else if i < 0 then 2147483647 else if i < 100 then R b.toNatClampNeg i.toNatClampNeg else 2147483647
theorem um_lt {x : Int32} {n : Nat} (h0 : ¬ x < 0) (h1 : ¬ nI n ≤ x) (hn : n < 2 ^ 31) : x.toNatClampNeg < n := by
  obtain ⟨j, hj, rfl⟩ := nI_of h0
  rw [nI_clamp hj]
  exact Nat.not_le.mp (fun z => h1 (nI_le z hj))
theorem um_lt2 {x : Int32} {n : Nat} (h0 : ¬ x < 0) (h1 : x < nI n) (hn : n < 2 ^ 31) : x.toNatClampNeg < n := by
  obtain ⟨j, hj, rfl⟩ := nI_of h0
  rw [nI_clamp hj]
  exact (nI_ltI hj hn).mp h1
theorem um_in' {x : Int32} {n : Nat} (h0 : ¬ x < 0) (h1 : ¬ nI n ≤ x) (hn : n < 2 ^ 31) : vp_in x n := by
  obtain ⟨j, hj, rfl⟩ := nI_of h0
  exact vp_in_nI (Nat.not_le.mp (fun z => h1 (nI_le z hj))) hn
/-- the rows of blocks: what is known of them -/
def um_rowsAt (E : ur_Ev) (h : ur_M) (f : Nat → Option Nat) (R : Nat → Nat → Int32) : Prop := (∀ j, j < 64 → ∀ a, f j = some a → h a = some (.inl (E.1 0, 100, .inl (R j)))) ∧ ∀ j, j < 64 → f j = none → R j = fun _ => 0
theorem um_rowsAt.up {E : ur_Ev} {h : ur_M} {f : Nat → Option Nat} {R : Nat → Nat → Int32} {b : Nat} {e : Option va_E} (hr : um_rowsAt E h f R) (hb : ∀ j, j < 64 → f j ≠ some b) : um_rowsAt E (va_up h b e) f R := ⟨fun j hj a ha => (va_up_ne _ _ (fun z => hb j hj (by rw [ha, z]))).trans (hr.1 j hj a ha), hr.2⟩
/-- what a block brings, n words of it -/
def um_bring (R : Nat → Nat → Int32) (b : Int32) (o : Nat → Int32) (n : Nat) : Nat → Int32 := fun i => if i < n then um_wordAt R b (nI i) else o i
theorem um_bring_succ (R : Nat → Nat → Int32) (b : Int32) (o : Nat → Int32) (n : Nat) : upd (um_bring R b o n) n (um_wordAt R b (nI n)) = um_bring R b o (n + 1) := by
  funext i
  unfold upd um_bring
  by_cases h : i = n
  · subst h
    rw [if_pos rfl, if_pos (Nat.lt_succ_self _)]
  · rw [if_neg h]
    by_cases h2 : i < n
    · rw [if_pos h2, if_pos (by omega)]
    · rw [if_neg h2, if_neg (by omega)]
def um_wrote (E : ur_Ev) (h : ur_M) (ql : Nat) (f : Nat → Option Nat) (k : Nat) (r : Nat → Int32) (h2 : ur_M) : Prop := (∃ a, f k = some a ∧ h2 = va_up h a (some (.inl (E.1 0, 100, .inl r)))) ∨ (f k = none ∧ ∃ a, h a = none ∧ h2 = va_up (va_up h a (some (.inl (E.1 0, 100, .inl r)))) ql (some (.inl (E.1 3, 64, .inr (.inr (.inr (.inr (va_up f k (some a)))))))))
end
section
theorem dM_holds_0 : decode cM_holds 0 = .ok (.iload_n 1, 1) := by decide +kernel
theorem dM_holds_1 : decode cM_holds 1 = .ok (.ifCond .lt 31, 3) := by decide +kernel
theorem dM_holds_4 : decode cM_holds 4 = .ok (.iload_n 2, 1) := by decide +kernel
theorem dM_holds_5 : decode cM_holds 5 = .ok (.ifCond .lt 27, 3) := by decide +kernel
theorem dM_holds_8 : decode cM_holds 8 = .ok (.iload_n 2, 1) := by decide +kernel
theorem dM_holds_9 : decode cM_holds 9 = .ok (.aload_n 0, 1) := by decide +kernel
theorem dM_holds_10 : decode cM_holds 10 = .ok (.getfield 9, 3) := by decide +kernel
theorem dM_holds_13 : decode cM_holds 13 = .ok (.arraylength, 1) := by decide +kernel
theorem dM_holds_14 : decode cM_holds 14 = .ok (.if_icmp .gt 18, 3) := by decide +kernel
theorem dM_holds_17 : decode cM_holds 17 = .ok (.iload_n 1, 1) := by decide +kernel
theorem dM_holds_18 : decode cM_holds 18 = .ok (.aload_n 0, 1) := by decide +kernel
theorem dM_holds_19 : decode cM_holds 19 = .ok (.getfield 9, 3) := by decide +kernel
theorem dM_holds_22 : decode cM_holds 22 = .ok (.arraylength, 1) := by decide +kernel
theorem dM_holds_23 : decode cM_holds 23 = .ok (.iload_n 2, 1) := by decide +kernel
theorem dM_holds_24 : decode cM_holds 24 = .ok (.isub, 1) := by decide +kernel
theorem dM_holds_25 : decode cM_holds 25 = .ok (.if_icmp .gt 7, 3) := by decide +kernel
theorem dM_holds_28 : decode cM_holds 28 = .ok (.iconst 1, 1) := by decide +kernel
theorem dM_holds_29 : decode cM_holds 29 = .ok (.goto 4, 3) := by decide +kernel
theorem dM_holds_32 : decode cM_holds 32 = .ok (.iconst 0, 1) := by decide +kernel
theorem dM_holds_33 : decode cM_holds 33 = .ok (.ireturn, 1) := by decide +kernel
abbrev rmkM_h : Room := { frames := 0, cells := 0, slots := 0, locals := 0 }
set_option maxHeartbeats 4000000 in
set_option maxRecDepth 100000 in
/-- holds(a, n) -/
theorem kM_h (l : Launch) (D : va_G) (E : ur_Ev) (h : ur_M) (q : Nat) (q1 : Nat) (g : Nat → Int32) (a : Int32) (n : Int32) (f0 : h q = some (.inr (1, [.ref q1]))) (f1 : h q1 = some (.inl (E.1 0, 4000, .inl g)))  : ur_Mi l yM_holds wsM_holds rmkM_h D vwCl (ur_v E) [.ref q, .int a, .int n] h (fun r h2 => r = um_b (um_holds a n) ∧ h2 = h) 0 0 := by
  intro sz
  refine ur_of (cc := cM_holds) (maxL := 3) (ret := (some .boolean)) (by decide) rfl (Nat.le_of_ble_eq_true rfl) ?_
  intro p e s m args below meth c ls Q hsz hx hb hml hr hlocks hnm hown hts hO hK hI hQ hl
  subst hsz
  have hV := hK.1
  have hts : ∀ w ∈ ur_G, w.before args s = true := fun w hw => hts w (List.mem_cons_of_mem _ hw)
  have hZ : ur_Z E (ur_A h s.heap.size) s s.heap := hO.1
  have hown : s.vm.findClass "UnitRoom$Memory" = some m.cls := hown
  have hl : lv_has ls 3 [(0, .ref q), (1, .int a), (2, .int n)] := hl
  refine lv_iload_n hx hb dM_holds_0 rfl (lv_at hl 1 rfl) ?_
  refine lv_if_lt (tgt := 32) hx hb dM_holds_1 (by decide) (fun c1 => ?_) (fun c1 => ?_)
  · refine lv_iconst (v := 0) hx hb dM_holds_32 (by decide) ?_
    exact ur_rz (v := 0) hx hb hr hlocks hI hQ rfl ⟨(by first | (simp only [um_holds, c1, ↓reduceIte]; done) | (simp only [um_holds, c1, ↓reduceIte]; rfl) | rfl), rfl⟩ dM_holds_33
  · refine lv_iload_n hx hb dM_holds_4 rfl (lv_at hl 2 rfl) ?_
    refine lv_if_lt (tgt := 32) hx hb dM_holds_5 (by decide) (fun c2 => ?_) (fun c2 => ?_)
    · refine lv_iconst (v := 0) hx hb dM_holds_32 (by decide) ?_
      exact ur_rz (v := 0) hx hb hr hlocks hI hQ rfl ⟨(by first | (simp only [um_holds, c1, c2, ↓reduceIte]; done) | (simp only [um_holds, c1, c2, ↓reduceIte]; rfl) | rfl), rfl⟩ dM_holds_33
    · refine lv_iload_n hx hb dM_holds_8 rfl (lv_at hl 2 rfl) ?_
      refine lv_aload_n hx hb dM_holds_9 rfl (lv_at hl 0 rfl) ?_
      refine va_get (D := D) (ci := 1) (v := .ref q1) (C := "UnitRoom$Memory") (T := TM) (N := 1) hx hb hts inM hown hV (ur_one hI.1 f0) 0 rfl rfl 0 (by decide) (hts _ mw32) (fun _ h9 => h9) rfl dM_holds_10 ?_
      refine va_alen (v := 4000) hx hb hV (ur_one hI.1 f1) 0 0 rfl rfl rfl dM_holds_13 ?_
      refine lv_icmp_gt (tgt := 32) hx hb dM_holds_14 (by decide) (fun c3 => ?_) (fun c3 => ?_)
      · refine lv_iconst (v := 0) hx hb dM_holds_32 (by decide) ?_
        exact ur_rz (v := 0) hx hb hr hlocks hI hQ rfl ⟨(by first | (simp only [um_holds, c1, c2, c3, ↓reduceIte]; done) | (simp only [um_holds, c1, c2, c3, ↓reduceIte]; rfl) | rfl), rfl⟩ dM_holds_33
      · refine lv_iload_n hx hb dM_holds_17 rfl (lv_at hl 1 rfl) ?_
        refine lv_aload_n hx hb dM_holds_18 rfl (lv_at hl 0 rfl) ?_
        refine va_get (D := D) (ci := 1) (v := .ref q1) (C := "UnitRoom$Memory") (T := TM) (N := 1) hx hb hts inM hown hV (ur_one hI.1 f0) 0 rfl rfl 0 (by decide) (hts _ mw32) (fun _ h9 => h9) rfl dM_holds_19 ?_
        refine va_alen (v := 4000) hx hb hV (ur_one hI.1 f1) 0 0 rfl rfl rfl dM_holds_22 ?_
        refine lv_iload_n hx hb dM_holds_23 rfl (lv_at hl 2 rfl) ?_
        refine lv_isub hx hb dM_holds_24 ?_
        refine lv_icmp_gt (tgt := 32) hx hb dM_holds_25 (by decide) (fun c4 => ?_) (fun c4 => ?_)
        · refine lv_iconst (v := 0) hx hb dM_holds_32 (by decide) ?_
          exact ur_rz (v := 0) hx hb hr hlocks hI hQ rfl ⟨(by first | (simp only [um_holds, c1, c2, c3, c4, ↓reduceIte]; done) | (simp only [um_holds, c1, c2, c3, c4, ↓reduceIte]; rfl) | rfl), rfl⟩ dM_holds_33
        · refine lv_iconst (v := 1) hx hb dM_holds_28 (by decide) ?_
          refine lv_goto (tgt := 33) hx hb dM_holds_29 (by decide) ?_
          exact ur_rz (v := 1) hx hb hr hlocks hI hQ rfl ⟨(by first | (simp only [um_holds, c1, c2, c3, c4, ↓reduceIte]; done) | (simp only [um_holds, c1, c2, c3, c4, ↓reduceIte]; rfl) | rfl), rfl⟩ dM_holds_33
theorem dM_at_0 : decode cM_at 0 = .ok (.aload_n 0, 1) := by decide +kernel
theorem dM_at_1 : decode cM_at 1 = .ok (.iload_n 1, 1) := by decide +kernel
theorem dM_at_2 : decode cM_at 2 = .ok (.iconst 1, 1) := by decide +kernel
theorem dM_at_3 : decode cM_at 3 = .ok (.invokevirtual 15, 3) := by decide +kernel
theorem dM_at_6 : decode cM_at 6 = .ok (.ifCond .eq 12, 3) := by decide +kernel
theorem dM_at_9 : decode cM_at 9 = .ok (.aload_n 0, 1) := by decide +kernel
theorem dM_at_10 : decode cM_at 10 = .ok (.getfield 9, 3) := by decide +kernel
theorem dM_at_13 : decode cM_at 13 = .ok (.iload_n 1, 1) := by decide +kernel
theorem dM_at_14 : decode cM_at 14 = .ok (.iaload, 1) := by decide +kernel
theorem dM_at_15 : decode cM_at 15 = .ok (.goto 5, 3) := by decide +kernel
theorem dM_at_18 : decode cM_at 18 = .ok (.ldc 19, 2) := by decide +kernel
theorem dM_at_20 : decode cM_at 20 = .ok (.ireturn, 1) := by decide +kernel
abbrev rmkM_at : Room := { frames := 1, cells := 0, slots := 0, locals := 22 }
set_option maxHeartbeats 4000000 in
set_option maxRecDepth 100000 in
/-- at(a) -/
theorem kM_at (l : Launch) (D : va_G) (E : ur_Ev) (h : ur_M) (q : Nat) (q1 : Nat) (g : Nat → Int32) (a : Int32) (f0 : h q = some (.inr (1, [.ref q1]))) (f1 : h q1 = some (.inl (E.1 0, 4000, .inl g)))  : ur_Mi l yM_at wsM_at rmkM_at D vwCl (ur_v E) [.ref q, .int a] h (fun r h2 => r = um_at g a ∧ h2 = h) 0 0 := by
  intro sz
  refine ur_of (cc := cM_at) (maxL := 2) (ret := (some .int)) (by decide) rfl (Nat.le_of_ble_eq_true rfl) ?_
  intro p e s m args below meth c ls Q hsz hx hb hml hr hlocks hnm hown hts hO hK hI hQ hl
  subst hsz
  have hV := hK.1
  have hts : ∀ w ∈ ur_G, w.before args s = true := fun w hw => hts w (List.mem_cons_of_mem _ hw)
  have hZ : ur_Z E (ur_A h s.heap.size) s s.heap := hO.1
  have hown : s.vm.findClass "UnitRoom$Memory" = some m.cls := hown
  have hl : lv_has ls 2 [(0, .ref q), (1, .int a)] := hl
  refine lv_aload_n hx hb dM_at_0 rfl (lv_at hl 0 rfl) ?_
  refine lv_iload_n hx hb dM_at_1 rfl (lv_at hl 1 rfl) ?_
  refine lv_iconst (v := 1) hx hb dM_at_2 (by decide) ?_
  refine ur_xi (va_runV (As := [.int a, .int 1]) (rest := []) ⟨hx, hb, hml, hown, hts⟩ (kM_h l D E h q q1 g a 1 f0 f1 s.heap.size) (cwV 2 hts (ur_gV mw224 mw214 mw215 mw2 mw216) rfl rfl rfl (by decide +kernel) ⟨(Nat.le_of_ble_eq_true rfl), (Nat.le_of_ble_eq_true rfl)⟩) ⟨ur_blind, va_recv hV (ur_one hI.1 f0) (ci := 1) (q0 := 0) rfl rfl, ur_pre hI hO hK (fun _ _ q => q)⟩ rfl rfl hl.1 rfl (lv_room (Nat.le_of_ble_eq_true rfl)) dM_at_3 ⟨Nat.le_of_ble_eq_true rfl, Nat.le_of_ble_eq_true rfl⟩) hI (fun r1 h1 H locs p1 hI => ?_)
  obtain ⟨er1, eh1⟩ := p1
  replace eh1 := eh1.symm; subst eh1
  refine lv_if_eq (tgt := 18) hx hb dM_at_6 (by decide) (fun c2 => ?_) (fun c2 => ?_)
  · have k3 : (um_holds a 1) = false := um_b0 er1 c2
    refine lv_ldc (v := 2147483647) hx hb hown (hts _ mw238) dM_at_18 ?_
    exact ur_ri (v := 2147483647) hx hb hr hlocks hI hQ ⟨(by first | (simp only [um_at, k3, ↓reduceIte]; done) | (simp only [um_at, k3, ↓reduceIte]; rfl) | rfl), rfl⟩ dM_at_20
  · have k4 : (um_holds a 1) = true := um_b1 er1 c2
    refine lv_aload_n hx hb dM_at_9 rfl (lv_at hl 0 rfl) ?_
    refine va_get (D := D) (ci := 1) (v := .ref q1) (C := "UnitRoom$Memory") (T := TM) (N := 1) hx hb hts inM hown hV (ur_one hI.1 f0) 0 rfl rfl 0 (by decide) (hts _ mw32) (fun _ h9 => h9) rfl dM_at_10 ?_
    refine lv_iload_n hx hb dM_at_13 rfl (lv_at hl 1 rfl) ?_
    refine va_iald hx hb hV (ur_one hI.1 f1) 0 0 rfl rfl (um_holds_in k4) dM_at_14 ?_
    refine lv_goto (tgt := 20) hx hb dM_at_15 (by decide) ?_
    exact ur_ri (v := (g a.toNatClampNeg)) hx hb hr hlocks hI hQ ⟨(by first | (simp only [um_at, k4, ↓reduceIte]; done) | (simp only [um_at, k4, ↓reduceIte]; rfl) | rfl), rfl⟩ dM_at_20
theorem dM_put_0 : decode cM_put 0 = .ok (.aload_n 0, 1) := by decide +kernel
theorem dM_put_1 : decode cM_put 1 = .ok (.iload_n 1, 1) := by decide +kernel
theorem dM_put_2 : decode cM_put 2 = .ok (.iconst 1, 1) := by decide +kernel
theorem dM_put_3 : decode cM_put 3 = .ok (.invokevirtual 15, 3) := by decide +kernel
theorem dM_put_6 : decode cM_put 6 = .ok (.ifCond .eq 10, 3) := by decide +kernel
theorem dM_put_9 : decode cM_put 9 = .ok (.aload_n 0, 1) := by decide +kernel
theorem dM_put_10 : decode cM_put 10 = .ok (.getfield 9, 3) := by decide +kernel
theorem dM_put_13 : decode cM_put 13 = .ok (.iload_n 1, 1) := by decide +kernel
theorem dM_put_14 : decode cM_put 14 = .ok (.iload_n 2, 1) := by decide +kernel
theorem dM_put_15 : decode cM_put 15 = .ok (.iastore, 1) := by decide +kernel
theorem dM_put_16 : decode cM_put 16 = .ok (.return_, 1) := by decide +kernel
abbrev rmkM_put : Room := { frames := 1, cells := 0, slots := 0, locals := 22 }
set_option maxHeartbeats 4000000 in
set_option maxRecDepth 100000 in
/-- put(a, v) -/
theorem kM_put (l : Launch) (D : va_G) (E : ur_Ev) (h : ur_M) (q : Nat) (q1 : Nat) (g : Nat → Int32) (a : Int32) (v : Int32) (f0 : h q = some (.inr (1, [.ref q1]))) (f1 : h q1 = some (.inl (E.1 0, 4000, .inl g)))  : ur_Mv l yM_put wsM_put rmkM_put D vwCl (ur_v E) [.ref q, .int a, .int v] h (fun h2 => h2 = va_up h q1 (some (.inl (E.1 0, 4000, .inl (um_put g a v))))) 0 0 := by
  intro sz
  refine ur_of (cc := cM_put) (maxL := 3) (ret := none) (by decide) rfl (Nat.le_of_ble_eq_true rfl) ?_
  intro p e s m args below meth c ls Q hsz hx hb hml hr hlocks hnm hown hts hO hK hI hQ hl
  subst hsz
  have hV := hK.1
  have hts : ∀ w ∈ ur_G, w.before args s = true := fun w hw => hts w (List.mem_cons_of_mem _ hw)
  have hZ : ur_Z E (ur_A h s.heap.size) s s.heap := hO.1
  have hown : s.vm.findClass "UnitRoom$Memory" = some m.cls := hown
  have hl : lv_has ls 3 [(0, .ref q), (1, .int a), (2, .int v)] := hl
  refine lv_aload_n hx hb dM_put_0 rfl (lv_at hl 0 rfl) ?_
  refine lv_iload_n hx hb dM_put_1 rfl (lv_at hl 1 rfl) ?_
  refine lv_iconst (v := 1) hx hb dM_put_2 (by decide) ?_
  refine ur_xi (va_runV (As := [.int a, .int 1]) (rest := []) ⟨hx, hb, hml, hown, hts⟩ (kM_h l D E h q q1 g a 1 f0 f1 s.heap.size) (cwV 2 hts (ur_gV mw224 mw214 mw215 mw2 mw216) rfl rfl rfl (by decide +kernel) ⟨(Nat.le_of_ble_eq_true rfl), (Nat.le_of_ble_eq_true rfl)⟩) ⟨ur_blind, va_recv hV (ur_one hI.1 f0) (ci := 1) (q0 := 0) rfl rfl, ur_pre hI hO hK (fun _ _ q => q)⟩ rfl rfl hl.1 rfl (lv_room (Nat.le_of_ble_eq_true rfl)) dM_put_3 ⟨Nat.le_of_ble_eq_true rfl, Nat.le_of_ble_eq_true rfl⟩) hI (fun r1 h1 H locs p1 hI => ?_)
  obtain ⟨er1, eh1⟩ := p1
  replace eh1 := eh1.symm; subst eh1
  refine lv_if_eq (tgt := 16) hx hb dM_put_6 (by decide) (fun c2 => ?_) (fun c2 => ?_)
  · have k3 : (um_holds a 1) = false := um_b0 er1 c2
    exact ur_rv hx hb hr hlocks hI hQ (by rw [um_put_f k3]; exact (ur_same f1).symm) dM_put_16
  · have k4 : (um_holds a 1) = true := um_b1 er1 c2
    refine lv_aload_n hx hb dM_put_9 rfl (lv_at hl 0 rfl) ?_
    refine va_get (D := D) (ci := 1) (v := .ref q1) (C := "UnitRoom$Memory") (T := TM) (N := 1) hx hb hts inM hown hV (ur_one hI.1 f0) 0 rfl rfl 0 (by decide) (hts _ mw32) (fun _ h9 => h9) rfl dM_put_10 ?_
    refine lv_iload_n hx hb dM_put_13 rfl (lv_at hl 1 rfl) ?_
    refine lv_iload_n hx hb dM_put_14 rfl (lv_at hl 2 rfl) ?_
    refine ur_iast hx hb hV hI 0 f1 rfl (um_holds_in k4) dM_put_15 (fun H locs hI => ?_)
    obtain ⟨h5, eh5⟩ : ∃ z : ur_M, z = va_up h q1 (some (.inl (E.1 0, 4000, .inl (upd g a.toNatClampNeg v)))) := ⟨_, rfl⟩
    rw [← eh5] at hI
    have q6 : h5 q = some (.inr (1, [.ref q1])) := by rw [eh5]; exact ((va_up_ne _ _ (ur_ne f0 f1 (by intro z; simp at z))).trans f0)
    have q7 : h5 q1 = some (.inl (E.1 0, 4000, .inl (upd g a.toNatClampNeg v))) := by rw [eh5]; exact (va_up_self _ _ _)
    exact ur_rv hx hb hr hlocks hI hQ (by rw [um_put_t k4, eh5]) dM_put_16
theorem dM_copyInto_0 : decode cM_copyInto 0 = .ok (.aload_n 0, 1) := by decide +kernel
theorem dM_copyInto_1 : decode cM_copyInto 1 = .ok (.iload_n 2, 1) := by decide +kernel
theorem dM_copyInto_2 : decode cM_copyInto 2 = .ok (.aload_n 1, 1) := by decide +kernel
theorem dM_copyInto_3 : decode cM_copyInto 3 = .ok (.arraylength, 1) := by decide +kernel
theorem dM_copyInto_4 : decode cM_copyInto 4 = .ok (.invokevirtual 15, 3) := by decide +kernel
theorem dM_copyInto_7 : decode cM_copyInto 7 = .ok (.ifCond .eq 15, 3) := by decide +kernel
theorem dM_copyInto_10 : decode cM_copyInto 10 = .ok (.aload_n 0, 1) := by decide +kernel
theorem dM_copyInto_11 : decode cM_copyInto 11 = .ok (.getfield 9, 3) := by decide +kernel
theorem dM_copyInto_14 : decode cM_copyInto 14 = .ok (.iload_n 2, 1) := by decide +kernel
theorem dM_copyInto_15 : decode cM_copyInto 15 = .ok (.aload_n 1, 1) := by decide +kernel
theorem dM_copyInto_16 : decode cM_copyInto 16 = .ok (.iconst 0, 1) := by decide +kernel
theorem dM_copyInto_17 : decode cM_copyInto 17 = .ok (.aload_n 1, 1) := by decide +kernel
theorem dM_copyInto_18 : decode cM_copyInto 18 = .ok (.arraylength, 1) := by decide +kernel
theorem dM_copyInto_19 : decode cM_copyInto 19 = .ok (.invokestatic 20, 3) := by decide +kernel
theorem dM_copyInto_22 : decode cM_copyInto 22 = .ok (.return_, 1) := by decide +kernel
abbrev rmkM_ci : Room := { frames := 1, cells := 0, slots := 0, locals := 26 }
set_option maxHeartbeats 4000000 in
set_option maxRecDepth 100000 in
/-- copyInto(row, a) -/
theorem kM_ci (l : Launch) (D : va_G) (E : ur_Ev) (h : ur_M) (q : Nat) (q1 : Nat) (w : Nat) (g : Nat → Int32) (f : Nat → Int32) (n : Nat) (a : Int32) (f0 : h q = some (.inr (1, [.ref q1]))) (f1 : h q1 = some (.inl (E.1 0, 4000, .inl g))) (f2 : h w = some (.inl (E.1 0, n, .inl f))) (hn : n ≤ 4000) (hne : q1 ≠ w) : ur_Mv l yM_copyInto wsM_copyInto rmkM_ci D vwCl (ur_v E) [.ref q, .ref w, .int a] h (fun h2 => h2 = va_up h w (some (.inl (E.1 0, n, .inl (um_cin g f a n))))) 0 0 := by
  intro sz
  refine ur_of (cc := cM_copyInto) (maxL := 3) (ret := none) (by decide) rfl (Nat.le_of_ble_eq_true rfl) ?_
  intro p e s m args below meth c ls Q hsz hx hb hml hr hlocks hnm hown hts hO hK hI hQ hl
  subst hsz
  have hV := hK.1
  have hts : ∀ w ∈ ur_G, w.before args s = true := fun w hw => hts w (List.mem_cons_of_mem _ hw)
  have hZ : ur_Z E (ur_A h s.heap.size) s s.heap := hO.1
  have hown : s.vm.findClass "UnitRoom$Memory" = some m.cls := hown
  have hl : lv_has ls 3 [(0, .ref q), (1, .ref w), (2, .int a)] := hl
  refine lv_aload_n hx hb dM_copyInto_0 rfl (lv_at hl 0 rfl) ?_
  refine lv_iload_n hx hb dM_copyInto_1 rfl (lv_at hl 2 rfl) ?_
  refine lv_aload_n hx hb dM_copyInto_2 rfl (lv_at hl 1 rfl) ?_
  refine va_alen (v := (nI n)) hx hb hV (ur_one hI.1 f2) 0 0 rfl rfl rfl dM_copyInto_3 ?_
  refine ur_xi (va_runV (As := [.int a, .int (nI n)]) (rest := []) ⟨hx, hb, hml, hown, hts⟩ (kM_h l D E h q q1 g a (nI n) f0 f1 s.heap.size) (cwV 2 hts (ur_gV mw224 mw214 mw215 mw2 mw216) rfl rfl rfl (by decide +kernel) ⟨(Nat.le_of_ble_eq_true rfl), (Nat.le_of_ble_eq_true rfl)⟩) ⟨ur_blind, va_recv hV (ur_one hI.1 f0) (ci := 1) (q0 := 0) rfl rfl, ur_pre hI hO hK (fun _ _ q => q)⟩ rfl rfl hl.1 rfl (lv_room (Nat.le_of_ble_eq_true rfl)) dM_copyInto_4 ⟨Nat.le_of_ble_eq_true rfl, Nat.le_of_ble_eq_true rfl⟩) hI (fun r1 h1 H locs p1 hI => ?_)
  obtain ⟨er1, eh1⟩ := p1
  replace eh1 := eh1.symm; subst eh1
  refine lv_if_eq (tgt := 22) hx hb dM_copyInto_7 (by decide) (fun c2 => ?_) (fun c2 => ?_)
  · have k3 : (um_holds a (nI n)) = false := um_b0 er1 c2
    exact ur_rv hx hb hr hlocks hI hQ (by rw [um_cin_f k3]; exact (ur_same f2).symm) dM_copyInto_22
  · have k4 : (um_holds a (nI n)) = true := um_b1 er1 c2
    refine lv_aload_n hx hb dM_copyInto_10 rfl (lv_at hl 0 rfl) ?_
    refine va_get (D := D) (ci := 1) (v := .ref q1) (C := "UnitRoom$Memory") (T := TM) (N := 1) hx hb hts inM hown hV (ur_one hI.1 f0) 0 rfl rfl 0 (by decide) (hts _ mw32) (fun _ h9 => h9) rfl dM_copyInto_11 ?_
    refine lv_iload_n hx hb dM_copyInto_14 rfl (lv_at hl 2 rfl) ?_
    refine lv_aload_n hx hb dM_copyInto_15 rfl (lv_at hl 1 rfl) ?_
    refine lv_iconst (v := 0) hx hb dM_copyInto_16 (by decide) ?_
    refine lv_aload_n hx hb dM_copyInto_17 rfl (lv_at hl 1 rfl) ?_
    refine va_alen (v := (nI n)) hx hb hV (ur_one hI.1 f2) 0 0 rfl rfl rfl dM_copyInto_18 ?_
    refine ur_copyi hx hb (hml.trans hl.1.symm) hown (hts _ mw297) (hts _ mw299) (hts _ mw298) (hts _ mw12) hV hI 0 f1 f2 rfl (sp := a) (dp := 0) (n := (nI n)) (um_holds_of k4).1 (by decide) (nI_pos (by omega)) (by obtain ⟨j9, e9, h9⟩ := um_holds_nat hn k4; rw [e9, nI_clamp (by omega), nI_clamp (by omega)]; omega) (by rw [nI_clamp (by omega)]; exact Nat.le_of_eq (Nat.zero_add n)) (Nat.le_of_ble_eq_true rfl) (Nat.le_of_ble_eq_true rfl) dM_copyInto_19 (fun H locs hI => ?_)
    obtain ⟨h5, eh5⟩ : ∃ z : ur_M, z = va_up h w (some (.inl (E.1 0, n, .inl (va_cpy g f a.toNatClampNeg (Int32.toNatClampNeg 0) (Int32.toNatClampNeg (nI n)))))) := ⟨_, rfl⟩
    rw [← eh5] at hI
    have q6 : h5 q = some (.inr (1, [.ref q1])) := by rw [eh5]; exact ((va_up_ne _ _ (ur_ne f0 f2 (by intro z; simp at z))).trans f0)
    have q7 : h5 q1 = some (.inl (E.1 0, 4000, .inl g)) := by rw [eh5]; exact ((va_up_ne _ _ hne).trans f1)
    have q8 : h5 w = some (.inl (E.1 0, n, .inl (va_cpy g f a.toNatClampNeg (Int32.toNatClampNeg 0) (Int32.toNatClampNeg (nI n))))) := by rw [eh5]; exact (va_up_self _ _ _)
    exact ur_rv hx hb hr hlocks hI hQ (by rw [um_cin_t k4, eh5, nI_clamp (show n < 2 ^ 31 by omega)]; rfl) dM_copyInto_22
theorem dM_takeFrom_0 : decode cM_takeFrom 0 = .ok (.aload_n 0, 1) := by decide +kernel
theorem dM_takeFrom_1 : decode cM_takeFrom 1 = .ok (.iload_n 2, 1) := by decide +kernel
theorem dM_takeFrom_2 : decode cM_takeFrom 2 = .ok (.aload_n 1, 1) := by decide +kernel
theorem dM_takeFrom_3 : decode cM_takeFrom 3 = .ok (.arraylength, 1) := by decide +kernel
theorem dM_takeFrom_4 : decode cM_takeFrom 4 = .ok (.invokevirtual 15, 3) := by decide +kernel
theorem dM_takeFrom_7 : decode cM_takeFrom 7 = .ok (.ifCond .eq 15, 3) := by decide +kernel
theorem dM_takeFrom_10 : decode cM_takeFrom 10 = .ok (.aload_n 1, 1) := by decide +kernel
theorem dM_takeFrom_11 : decode cM_takeFrom 11 = .ok (.iconst 0, 1) := by decide +kernel
theorem dM_takeFrom_12 : decode cM_takeFrom 12 = .ok (.aload_n 0, 1) := by decide +kernel
theorem dM_takeFrom_13 : decode cM_takeFrom 13 = .ok (.getfield 9, 3) := by decide +kernel
theorem dM_takeFrom_16 : decode cM_takeFrom 16 = .ok (.iload_n 2, 1) := by decide +kernel
theorem dM_takeFrom_17 : decode cM_takeFrom 17 = .ok (.aload_n 1, 1) := by decide +kernel
theorem dM_takeFrom_18 : decode cM_takeFrom 18 = .ok (.arraylength, 1) := by decide +kernel
theorem dM_takeFrom_19 : decode cM_takeFrom 19 = .ok (.invokestatic 20, 3) := by decide +kernel
theorem dM_takeFrom_22 : decode cM_takeFrom 22 = .ok (.return_, 1) := by decide +kernel
abbrev rmkM_co : Room := { frames := 1, cells := 0, slots := 0, locals := 26 }
set_option maxHeartbeats 4000000 in
set_option maxRecDepth 100000 in
/-- takeFrom(row, a) -/
theorem kM_co (l : Launch) (D : va_G) (E : ur_Ev) (h : ur_M) (q : Nat) (q1 : Nat) (w : Nat) (g : Nat → Int32) (f : Nat → Int32) (n : Nat) (a : Int32) (f0 : h q = some (.inr (1, [.ref q1]))) (f1 : h q1 = some (.inl (E.1 0, 4000, .inl g))) (f2 : h w = some (.inl (E.1 0, n, .inl f))) (hn : n ≤ 4000) (hne : q1 ≠ w) : ur_Mv l yM_takeFrom wsM_takeFrom rmkM_co D vwCl (ur_v E) [.ref q, .ref w, .int a] h (fun h2 => h2 = va_up h q1 (some (.inl (E.1 0, 4000, .inl (um_cout g f a n))))) 0 0 := by
  intro sz
  refine ur_of (cc := cM_takeFrom) (maxL := 3) (ret := none) (by decide) rfl (Nat.le_of_ble_eq_true rfl) ?_
  intro p e s m args below meth c ls Q hsz hx hb hml hr hlocks hnm hown hts hO hK hI hQ hl
  subst hsz
  have hV := hK.1
  have hts : ∀ w ∈ ur_G, w.before args s = true := fun w hw => hts w (List.mem_cons_of_mem _ hw)
  have hZ : ur_Z E (ur_A h s.heap.size) s s.heap := hO.1
  have hown : s.vm.findClass "UnitRoom$Memory" = some m.cls := hown
  have hl : lv_has ls 3 [(0, .ref q), (1, .ref w), (2, .int a)] := hl
  refine lv_aload_n hx hb dM_takeFrom_0 rfl (lv_at hl 0 rfl) ?_
  refine lv_iload_n hx hb dM_takeFrom_1 rfl (lv_at hl 2 rfl) ?_
  refine lv_aload_n hx hb dM_takeFrom_2 rfl (lv_at hl 1 rfl) ?_
  refine va_alen (v := (nI n)) hx hb hV (ur_one hI.1 f2) 0 0 rfl rfl rfl dM_takeFrom_3 ?_
  refine ur_xi (va_runV (As := [.int a, .int (nI n)]) (rest := []) ⟨hx, hb, hml, hown, hts⟩ (kM_h l D E h q q1 g a (nI n) f0 f1 s.heap.size) (cwV 2 hts (ur_gV mw224 mw214 mw215 mw2 mw216) rfl rfl rfl (by decide +kernel) ⟨(Nat.le_of_ble_eq_true rfl), (Nat.le_of_ble_eq_true rfl)⟩) ⟨ur_blind, va_recv hV (ur_one hI.1 f0) (ci := 1) (q0 := 0) rfl rfl, ur_pre hI hO hK (fun _ _ q => q)⟩ rfl rfl hl.1 rfl (lv_room (Nat.le_of_ble_eq_true rfl)) dM_takeFrom_4 ⟨Nat.le_of_ble_eq_true rfl, Nat.le_of_ble_eq_true rfl⟩) hI (fun r1 h1 H locs p1 hI => ?_)
  obtain ⟨er1, eh1⟩ := p1
  replace eh1 := eh1.symm; subst eh1
  refine lv_if_eq (tgt := 22) hx hb dM_takeFrom_7 (by decide) (fun c2 => ?_) (fun c2 => ?_)
  · have k3 : (um_holds a (nI n)) = false := um_b0 er1 c2
    exact ur_rv hx hb hr hlocks hI hQ (by rw [um_cout_f k3]; exact (ur_same f1).symm) dM_takeFrom_22
  · have k4 : (um_holds a (nI n)) = true := um_b1 er1 c2
    refine lv_aload_n hx hb dM_takeFrom_10 rfl (lv_at hl 1 rfl) ?_
    refine lv_iconst (v := 0) hx hb dM_takeFrom_11 (by decide) ?_
    refine lv_aload_n hx hb dM_takeFrom_12 rfl (lv_at hl 0 rfl) ?_
    refine va_get (D := D) (ci := 1) (v := .ref q1) (C := "UnitRoom$Memory") (T := TM) (N := 1) hx hb hts inM hown hV (ur_one hI.1 f0) 0 rfl rfl 0 (by decide) (hts _ mw32) (fun _ h9 => h9) rfl dM_takeFrom_13 ?_
    refine lv_iload_n hx hb dM_takeFrom_16 rfl (lv_at hl 2 rfl) ?_
    refine lv_aload_n hx hb dM_takeFrom_17 rfl (lv_at hl 1 rfl) ?_
    refine va_alen (v := (nI n)) hx hb hV (ur_one hI.1 f2) 0 0 rfl rfl rfl dM_takeFrom_18 ?_
    refine ur_copyi hx hb (hml.trans hl.1.symm) hown (hts _ mw297) (hts _ mw299) (hts _ mw298) (hts _ mw12) hV hI 0 f2 f1 rfl (sp := 0) (dp := a) (n := (nI n)) (by decide) (um_holds_of k4).1 (nI_pos (by omega)) (by rw [nI_clamp (by omega)]; exact Nat.le_of_eq (Nat.zero_add n)) (by obtain ⟨j9, e9, h9⟩ := um_holds_nat hn k4; rw [e9, nI_clamp (by omega), nI_clamp (by omega)]; omega) (Nat.le_of_ble_eq_true rfl) (Nat.le_of_ble_eq_true rfl) dM_takeFrom_19 (fun H locs hI => ?_)
    obtain ⟨h5, eh5⟩ : ∃ z : ur_M, z = va_up h q1 (some (.inl (E.1 0, 4000, .inl (va_cpy f g (Int32.toNatClampNeg 0) a.toNatClampNeg (Int32.toNatClampNeg (nI n)))))) := ⟨_, rfl⟩
    rw [← eh5] at hI
    have q6 : h5 q = some (.inr (1, [.ref q1])) := by rw [eh5]; exact ((va_up_ne _ _ (ur_ne f0 f1 (by intro z; simp at z))).trans f0)
    have q7 : h5 q1 = some (.inl (E.1 0, 4000, .inl (va_cpy f g (Int32.toNatClampNeg 0) a.toNatClampNeg (Int32.toNatClampNeg (nI n))))) := by rw [eh5]; exact (va_up_self _ _ _)
    have q8 : h5 w = some (.inl (E.1 0, n, .inl f)) := by rw [eh5]; exact ((va_up_ne _ _ (Ne.symm hne)).trans f2)
    exact ur_rv hx hb hr hlocks hI hQ (by rw [um_cout_t k4, eh5, nI_clamp (show n < 2 ^ 31 by omega)]; rfl) dM_takeFrom_22
theorem dM_byteAt_0 : decode cM_byteAt 0 = .ok (.aload_n 0, 1) := by decide +kernel
theorem dM_byteAt_1 : decode cM_byteAt 1 = .ok (.iload_n 1, 1) := by decide +kernel
theorem dM_byteAt_2 : decode cM_byteAt 2 = .ok (.iload_n 2, 1) := by decide +kernel
theorem dM_byteAt_3 : decode cM_byteAt 3 = .ok (.iconst 5, 1) := by decide +kernel
theorem dM_byteAt_4 : decode cM_byteAt 4 = .ok (.idiv, 1) := by decide +kernel
theorem dM_byteAt_5 : decode cM_byteAt 5 = .ok (.iadd, 1) := by decide +kernel
theorem dM_byteAt_6 : decode cM_byteAt 6 = .ok (.invokevirtual 26, 3) := by decide +kernel
theorem dM_byteAt_9 : decode cM_byteAt 9 = .ok (.istore_n 3, 1) := by decide +kernel
theorem dM_byteAt_10 : decode cM_byteAt 10 = .ok (.iload_n 3, 1) := by decide +kernel
theorem dM_byteAt_11 : decode cM_byteAt 11 = .ok (.ldc 30, 2) := by decide +kernel
theorem dM_byteAt_13 : decode cM_byteAt 13 = .ok (.if_icmp .ne 7, 3) := by decide +kernel
theorem dM_byteAt_16 : decode cM_byteAt 16 = .ok (.iconst 0, 1) := by decide +kernel
theorem dM_byteAt_17 : decode cM_byteAt 17 = .ok (.goto 7, 3) := by decide +kernel
theorem dM_byteAt_20 : decode cM_byteAt 20 = .ok (.iload_n 3, 1) := by decide +kernel
theorem dM_byteAt_21 : decode cM_byteAt 21 = .ok (.invokestatic 31, 3) := by decide +kernel
theorem dM_byteAt_24 : decode cM_byteAt 24 = .ok (.istore 4, 2) := by decide +kernel
theorem dM_byteAt_26 : decode cM_byteAt 26 = .ok (.iconst 4, 1) := by decide +kernel
theorem dM_byteAt_27 : decode cM_byteAt 27 = .ok (.iload_n 2, 1) := by decide +kernel
theorem dM_byteAt_28 : decode cM_byteAt 28 = .ok (.iconst 5, 1) := by decide +kernel
theorem dM_byteAt_29 : decode cM_byteAt 29 = .ok (.irem, 1) := by decide +kernel
theorem dM_byteAt_30 : decode cM_byteAt 30 = .ok (.isub, 1) := by decide +kernel
theorem dM_byteAt_31 : decode cM_byteAt 31 = .ok (.istore 5, 2) := by decide +kernel
theorem dM_byteAt_33 : decode cM_byteAt 33 = .ok (.iload 4, 2) := by decide +kernel
theorem dM_byteAt_35 : decode cM_byteAt 35 = .ok (.iload 5, 2) := by decide +kernel
theorem dM_byteAt_37 : decode cM_byteAt 37 = .ok (.bipush 6, 2) := by decide +kernel
theorem dM_byteAt_39 : decode cM_byteAt 39 = .ok (.imul, 1) := by decide +kernel
theorem dM_byteAt_40 : decode cM_byteAt 40 = .ok (.ishr, 1) := by decide +kernel
theorem dM_byteAt_41 : decode cM_byteAt 41 = .ok (.bipush 63, 2) := by decide +kernel
theorem dM_byteAt_43 : decode cM_byteAt 43 = .ok (.iand, 1) := by decide +kernel
theorem dM_byteAt_44 : decode cM_byteAt 44 = .ok (.ireturn, 1) := by decide +kernel
abbrev rmkM_by : Room := { frames := 2, cells := 0, slots := 0, locals := 43 }
set_option maxHeartbeats 4000000 in
set_option maxRecDepth 100000 in
/-- byteAt(a, k) -/
theorem kM_by (l : Launch) (D : va_G) (E : ur_Ev) (h : ur_M) (q : Nat) (q1 : Nat) (g : Nat → Int32) (a : Int32) (k : Int32) (f0 : h q = some (.inr (1, [.ref q1]))) (f1 : h q1 = some (.inl (E.1 0, 4000, .inl g)))  : ur_Mi l yM_byteAt wsM_byteAt rmkM_by D vwCl (ur_v E) [.ref q, .int a, .int k] h (fun r h2 => r = um_byte g a k ∧ h2 = h) 0 0 := by
  intro sz
  refine ur_of (cc := cM_byteAt) (maxL := 6) (ret := (some .int)) (by decide) rfl (Nat.le_of_ble_eq_true rfl) ?_
  intro p e s m args below meth c ls Q hsz hx hb hml hr hlocks hnm hown hts hO hK hI hQ hl
  subst hsz
  have hV := hK.1
  have hts : ∀ w ∈ ur_G, w.before args s = true := fun w hw => hts w (List.mem_cons_of_mem _ hw)
  have hZ : ur_Z E (ur_A h s.heap.size) s s.heap := hO.1
  have hown : s.vm.findClass "UnitRoom$Memory" = some m.cls := hown
  have hl : lv_has ls 6 [(0, .ref q), (1, .int a), (2, .int k)] := hl
  refine lv_aload_n hx hb dM_byteAt_0 rfl (lv_at hl 0 rfl) ?_
  refine lv_iload_n hx hb dM_byteAt_1 rfl (lv_at hl 1 rfl) ?_
  refine lv_iload_n hx hb dM_byteAt_2 rfl (lv_at hl 2 rfl) ?_
  refine lv_iconst (v := 5) hx hb dM_byteAt_3 (by decide) ?_
  refine lv_idiv hx hb dM_byteAt_4 (by decide) ?_
  refine lv_iadd hx hb dM_byteAt_5 ?_
  refine ur_xi (va_runV (As := [.int (a + (k / 5))]) (rest := []) ⟨hx, hb, hml, hown, hts⟩ (kM_at l D E h q q1 g (a + (k / 5)) f0 f1 s.heap.size) (cwV 1 hts (ur_gV mw387 mw235 mw236 mw2 mw237) rfl rfl rfl (by decide +kernel) ⟨(Nat.le_of_ble_eq_true rfl), (Nat.le_of_ble_eq_true rfl)⟩) ⟨ur_blind, va_recv hV (ur_one hI.1 f0) (ci := 1) (q0 := 0) rfl rfl, ur_pre hI hO hK (fun _ _ q => q)⟩ rfl rfl hl.1 rfl (lv_room (Nat.le_of_ble_eq_true rfl)) dM_byteAt_6 ⟨Nat.le_of_ble_eq_true rfl, Nat.le_of_ble_eq_true rfl⟩) hI (fun r1 h1 H locs p1 hI => ?_)
  obtain ⟨er1, eh1⟩ := p1
  replace eh1 := eh1.symm; subst eh1
  replace er1 := er1.symm; subst er1
  refine lv_istore_n (lv' := [(3, .int (um_at g (a + (k / 5)))), (0, .ref q), (1, .int a), (2, .int k)]) hx hb dM_byteAt_9 rfl hl (by decide) rfl (fun ls hl => ?_)
  refine lv_iload_n hx hb dM_byteAt_10 rfl (lv_at hl 0 rfl) ?_
  refine lv_ldc (v := (-2147483648)) hx hb hown (hts _ mw388) dM_byteAt_11 ?_
  refine lv_icmp_ne (tgt := 20) hx hb dM_byteAt_13 (by decide) (fun c2 => ?_) (fun c2 => ?_)
  · refine lv_iload_n hx hb dM_byteAt_20 rfl (lv_at hl 0 rfl) ?_
    refine va_mabs hx hb (hml.trans hl.1.symm) hown (hts _ mw389) (hts _ mw390) (hts _ mw6) (hts _ mw391) (Nat.le_of_ble_eq_true rfl) (Nat.le_of_ble_eq_true rfl) (Nat.le_of_ble_eq_true rfl) (Nat.le_of_ble_eq_true rfl) dM_byteAt_21 ?_
    refine lv_istore (lv' := [(4, .int (if 0 ≤ (um_at g (a + (k / 5))) then (um_at g (a + (k / 5))) else 0 - (um_at g (a + (k / 5))))), (3, .int (um_at g (a + (k / 5)))), (0, .ref q), (1, .int a), (2, .int k)]) hx hb dM_byteAt_24 hl (by decide) rfl (fun ls hl => ?_)
    refine lv_iconst (v := 4) hx hb dM_byteAt_26 (by decide) ?_
    refine lv_iload_n hx hb dM_byteAt_27 rfl (lv_at hl 4 rfl) ?_
    refine lv_iconst (v := 5) hx hb dM_byteAt_28 (by decide) ?_
    refine lv_irem hx hb dM_byteAt_29 (by decide) ?_
    refine lv_isub hx hb dM_byteAt_30 ?_
    refine lv_istore (lv' := [(5, .int (4 - (k - k / 5 * 5))), (4, .int (if 0 ≤ (um_at g (a + (k / 5))) then (um_at g (a + (k / 5))) else 0 - (um_at g (a + (k / 5))))), (3, .int (um_at g (a + (k / 5)))), (0, .ref q), (1, .int a), (2, .int k)]) hx hb dM_byteAt_31 hl (by decide) rfl (fun ls hl => ?_)
    refine lv_iload hx hb dM_byteAt_33 (lv_at hl 1 rfl) ?_
    refine lv_iload hx hb dM_byteAt_35 (lv_at hl 0 rfl) ?_
    refine lv_bipush (v := 6) hx hb dM_byteAt_37 (by decide) ?_
    refine lv_imul hx hb dM_byteAt_39 ?_
    refine lv_ishr hx hb dM_byteAt_40 ?_
    refine lv_bipush (v := 63) hx hb dM_byteAt_41 (by decide) ?_
    refine lv_iand hx hb dM_byteAt_43 ?_
    exact ur_ri (v := (((if 0 ≤ (um_at g (a + (k / 5))) then (um_at g (a + (k / 5))) else 0 - (um_at g (a + (k / 5)))) >>> (((4 - (k - k / 5 * 5)) * 6) &&& 31)) &&& 63)) hx hb hr hlocks hI hQ ⟨(by first | (simp only [um_byte, um_size, c2, ↓reduceIte]; done) | (simp only [um_byte, um_size, c2, ↓reduceIte]; rfl) | rfl), rfl⟩ dM_byteAt_44
  · refine lv_iconst (v := 0) hx hb dM_byteAt_16 (by decide) ?_
    refine lv_goto (tgt := 24) hx hb dM_byteAt_17 (by decide) ?_
    refine lv_istore (lv' := [(4, .int 0), (3, .int (um_at g (a + (k / 5)))), (0, .ref q), (1, .int a), (2, .int k)]) hx hb dM_byteAt_24 hl (by decide) rfl (fun ls hl => ?_)
    refine lv_iconst (v := 4) hx hb dM_byteAt_26 (by decide) ?_
    refine lv_iload_n hx hb dM_byteAt_27 rfl (lv_at hl 4 rfl) ?_
    refine lv_iconst (v := 5) hx hb dM_byteAt_28 (by decide) ?_
    refine lv_irem hx hb dM_byteAt_29 (by decide) ?_
    refine lv_isub hx hb dM_byteAt_30 ?_
    refine lv_istore (lv' := [(5, .int (4 - (k - k / 5 * 5))), (4, .int 0), (3, .int (um_at g (a + (k / 5)))), (0, .ref q), (1, .int a), (2, .int k)]) hx hb dM_byteAt_31 hl (by decide) rfl (fun ls hl => ?_)
    refine lv_iload hx hb dM_byteAt_33 (lv_at hl 1 rfl) ?_
    refine lv_iload hx hb dM_byteAt_35 (lv_at hl 0 rfl) ?_
    refine lv_bipush (v := 6) hx hb dM_byteAt_37 (by decide) ?_
    refine lv_imul hx hb dM_byteAt_39 ?_
    refine lv_ishr hx hb dM_byteAt_40 ?_
    refine lv_bipush (v := 63) hx hb dM_byteAt_41 (by decide) ?_
    refine lv_iand hx hb dM_byteAt_43 ?_
    exact ur_ri (v := ((0 >>> (((4 - (k - k / 5 * 5)) * 6) &&& 31)) &&& 63)) hx hb hr hlocks hI hQ ⟨(by first | (simp only [um_byte, um_size, c2, ↓reduceIte]; done) | (simp only [um_byte, um_size, c2, ↓reduceIte]; rfl) | rfl), rfl⟩ dM_byteAt_44
end
section
theorem dS_coder_0 : decode cS_coder 0 = .ok (.getstatic 38, 3) := by decide +kernel
theorem dS_coder_3 : decode cS_coder 3 = .ok (.ifCond .eq 10, 3) := by decide +kernel
theorem dS_coder_6 : decode cS_coder 6 = .ok (.aload_n 0, 1) := by decide +kernel
theorem dS_coder_7 : decode cS_coder 7 = .ok (.getfield 15, 3) := by decide +kernel
theorem dS_coder_10 : decode cS_coder 10 = .ok (.goto 4, 3) := by decide +kernel
theorem dS_coder_13 : decode cS_coder 13 = .ok (.iconst 1, 1) := by decide +kernel
theorem dS_coder_14 : decode cS_coder 14 = .ok (.ireturn, 1) := by decide +kernel
abbrev rmkS_coder : Room := { frames := 0, cells := 0, slots := 0, locals := 0 }
set_option maxHeartbeats 4000000 in
set_option maxRecDepth 100000 in
theorem kS_coder (l : Launch) (D : va_G) (E : ur_Ev) (h : ur_M)    : ur_Mi l yS_coder wsS_coder rmkS_coder D vwCl (ur_v E) [.ref E.2.1] h (fun r h2 => r = 0 ∧ h2 = h) 0 0 := by
  intro sz
  refine ur_of (cc := cS_coder) (maxL := 1) (ret := (some .byte)) (by decide) rfl (Nat.le_of_ble_eq_true rfl) ?_
  intro p e s m args below meth c ls Q hsz hx hb hml hr hlocks hnm hown hts hO hK hI hQ hl
  subst hsz
  have hV := hK.1
  have hts : ∀ w ∈ ur_G, w.before args s = true := fun w hw => hts w (List.mem_cons_of_mem _ hw)
  have hZ : ur_Z E (ur_A h s.heap.size) s s.heap := hO.1
  have hown : s.vm.findClass "java/lang/String" = some m.cls := hown
  have hl : lv_has ls 1 [(0, .ref E.2.1)] := hl
  refine va_gets hx hb hZ.2.2.2.2.1 hI.2.2.1 hown (hts _ mw404) (fun _ h9 => h9) dS_coder_0 ?_
  refine lv_if_eq (tgt := 13) hx hb dS_coder_3 (by decide) (fun c1 => absurd c1 (by decide)) (fun c1 => ?_)
  refine lv_aload_n hx hb dS_coder_6 rfl (lv_at hl 0 rfl) ?_
  refine vk_getf hx hb hZ.2.1 hI.2.2.1 hown (hts _ mw754) (fun _ h9 => h9) dS_coder_7 ?_
  refine lv_goto (tgt := 14) hx hb dS_coder_10 (by decide) ?_
  exact ur_rz hx hb hr hlocks hI hQ rfl ⟨(by first | (simp only [c1, ↓reduceIte]; done) | (simp only [c1, ↓reduceIte]; rfl) | rfl), rfl⟩ dS_coder_14
theorem dS_isLatin1_0 : decode cS_isLatin1 0 = .ok (.getstatic 38, 3) := by decide +kernel
theorem dS_isLatin1_3 : decode cS_isLatin1 3 = .ok (.ifCond .eq 14, 3) := by decide +kernel
theorem dS_isLatin1_6 : decode cS_isLatin1 6 = .ok (.aload_n 0, 1) := by decide +kernel
theorem dS_isLatin1_7 : decode cS_isLatin1 7 = .ok (.getfield 15, 3) := by decide +kernel
theorem dS_isLatin1_10 : decode cS_isLatin1 10 = .ok (.ifCond .ne 7, 3) := by decide +kernel
theorem dS_isLatin1_13 : decode cS_isLatin1 13 = .ok (.iconst 1, 1) := by decide +kernel
theorem dS_isLatin1_14 : decode cS_isLatin1 14 = .ok (.goto 4, 3) := by decide +kernel
theorem dS_isLatin1_17 : decode cS_isLatin1 17 = .ok (.iconst 0, 1) := by decide +kernel
theorem dS_isLatin1_18 : decode cS_isLatin1 18 = .ok (.ireturn, 1) := by decide +kernel
abbrev rmkS_lat : Room := { frames := 0, cells := 0, slots := 0, locals := 0 }
set_option maxHeartbeats 4000000 in
set_option maxRecDepth 100000 in
theorem kS_lat (l : Launch) (D : va_G) (E : ur_Ev) (h : ur_M)    : ur_Mi l yS_isLatin1 wsS_isLatin1 rmkS_lat D vwCl (ur_v E) [.ref E.2.1] h (fun r h2 => r = um_b (true) ∧ h2 = h) 0 0 := by
  intro sz
  refine ur_of (cc := cS_isLatin1) (maxL := 1) (ret := (some .boolean)) (by decide) rfl (Nat.le_of_ble_eq_true rfl) ?_
  intro p e s m args below meth c ls Q hsz hx hb hml hr hlocks hnm hown hts hO hK hI hQ hl
  subst hsz
  have hV := hK.1
  have hts : ∀ w ∈ ur_G, w.before args s = true := fun w hw => hts w (List.mem_cons_of_mem _ hw)
  have hZ : ur_Z E (ur_A h s.heap.size) s s.heap := hO.1
  have hown : s.vm.findClass "java/lang/String" = some m.cls := hown
  have hl : lv_has ls 1 [(0, .ref E.2.1)] := hl
  refine va_gets hx hb hZ.2.2.2.2.1 hI.2.2.1 hown (hts _ mw404) (fun _ h9 => h9) dS_isLatin1_0 ?_
  refine lv_if_eq (tgt := 17) hx hb dS_isLatin1_3 (by decide) (fun c1 => absurd c1 (by decide)) (fun c1 => ?_)
  refine lv_aload_n hx hb dS_isLatin1_6 rfl (lv_at hl 0 rfl) ?_
  refine vk_getf hx hb hZ.2.1 hI.2.2.1 hown (hts _ mw754) (fun _ h9 => h9) dS_isLatin1_7 ?_
  refine lv_if_ne (tgt := 17) hx hb dS_isLatin1_10 (by decide) (fun c2 => absurd c2 (by decide)) (fun c2 => ?_)
  refine lv_iconst (v := 1) hx hb dS_isLatin1_13 (by decide) ?_
  refine lv_goto (tgt := 18) hx hb dS_isLatin1_14 (by decide) ?_
  exact ur_rz hx hb hr hlocks hI hQ rfl ⟨(by first | (simp only [c1, c2, ↓reduceIte]; done) | (simp only [c1, c2, ↓reduceIte]; rfl) | rfl), rfl⟩ dS_isLatin1_18
theorem dS_length_0 : decode cS_length 0 = .ok (.aload_n 0, 1) := by decide +kernel
theorem dS_length_1 : decode cS_length 1 = .ok (.getfield 9, 3) := by decide +kernel
theorem dS_length_4 : decode cS_length 4 = .ok (.arraylength, 1) := by decide +kernel
theorem dS_length_5 : decode cS_length 5 = .ok (.aload_n 0, 1) := by decide +kernel
theorem dS_length_6 : decode cS_length 6 = .ok (.invokevirtual 335, 3) := by decide +kernel
theorem dS_length_9 : decode cS_length 9 = .ok (.ishr, 1) := by decide +kernel
theorem dS_length_10 : decode cS_length 10 = .ok (.ireturn, 1) := by decide +kernel
abbrev rmkS_len : Room := { frames := 1, cells := 0, slots := 0, locals := 20 }
set_option maxHeartbeats 4000000 in
set_option maxRecDepth 100000 in
theorem kS_len (l : Launch) (D : va_G) (E : ur_Ev) (h : ur_M)    : ur_Mi l yS_length wsS_length rmkS_len D vwCl (ur_v E) [.ref E.2.1] h (fun r h2 => r = 56 ∧ h2 = h) 0 0 := by
  intro sz
  refine ur_of (cc := cS_length) (maxL := 1) (ret := (some .int)) (by decide) rfl (Nat.le_of_ble_eq_true rfl) ?_
  intro p e s m args below meth c ls Q hsz hx hb hml hr hlocks hnm hown hts hO hK hI hQ hl
  subst hsz
  have hV := hK.1
  have hts : ∀ w ∈ ur_G, w.before args s = true := fun w hw => hts w (List.mem_cons_of_mem _ hw)
  have hZ : ur_Z E (ur_A h s.heap.size) s s.heap := hO.1
  have hown : s.vm.findClass "java/lang/String" = some m.cls := hown
  have hl : lv_has ls 1 [(0, .ref E.2.1)] := hl
  refine lv_aload_n hx hb dS_length_0 rfl (lv_at hl 0 rfl) ?_
  refine vk_getf hx hb hZ.2.2.1 hI.2.2.1 hown (hts _ mw753) (fun _ h9 => h9) dS_length_1 ?_
  refine va_tlen (v := 56) hx hb hZ.2.2.2.1 hI.2.2.1 rfl dS_length_4 ?_
  refine lv_aload_n hx hb dS_length_5 rfl (lv_at hl 0 rfl) ?_
  refine ur_xi (va_runV (As := []) (rest := [.int 56]) ⟨hx, hb, hml, hown, hts⟩ (kS_coder l D E h s.heap.size) (cwV 0 hts (ur_gV mw400 mw401 mw402 mw13 mw403) rfl rfl rfl (by decide +kernel) ⟨(Nat.le_of_ble_eq_true rfl), (Nat.le_of_ble_eq_true rfl)⟩) ⟨ur_blind, ur_recS hZ hI.2.2.1, ur_pre hI hO hK (fun _ _ q => q)⟩ rfl rfl hl.1 rfl (lv_room (Nat.le_of_ble_eq_true rfl)) dS_length_6 ⟨Nat.le_of_ble_eq_true rfl, Nat.le_of_ble_eq_true rfl⟩) hI (fun r1 h1 H locs p1 hI => ?_)
  obtain ⟨er1, eh1⟩ := p1
  replace eh1 := eh1.symm; subst eh1
  replace er1 := er1.symm; subst er1
  refine lv_ishr hx hb dS_length_9 ?_
  exact ur_ri hx hb hr hlocks hI hQ ⟨um_shr0 56, rfl⟩ dS_length_10
theorem dP_checkIndex_0 : decode cP_checkIndex 0 = .ok (.iload_n 0, 1) := by decide +kernel
theorem dP_checkIndex_1 : decode cP_checkIndex 1 = .ok (.ifCond .lt 8, 3) := by decide +kernel
theorem dP_checkIndex_4 : decode cP_checkIndex 4 = .ok (.iload_n 0, 1) := by decide +kernel
theorem dP_checkIndex_5 : decode cP_checkIndex 5 = .ok (.iload_n 1, 1) := by decide +kernel
theorem dP_checkIndex_6 : decode cP_checkIndex 6 = .ok (.if_icmp .lt 10, 3) := by decide +kernel
theorem dP_checkIndex_9 : decode cP_checkIndex 9 = .ok (.aload_n 2, 1) := by decide +kernel
theorem dP_checkIndex_10 : decode cP_checkIndex 10 = .ok (.iload_n 0, 1) := by decide +kernel
theorem dP_checkIndex_11 : decode cP_checkIndex 11 = .ok (.iload_n 1, 1) := by decide +kernel
theorem dP_checkIndex_12 : decode cP_checkIndex 12 = .ok (.invokestatic 95, 3) := by decide +kernel
theorem dP_checkIndex_15 : decode cP_checkIndex 15 = .ok (.athrow, 1) := by decide +kernel
theorem dP_checkIndex_16 : decode cP_checkIndex 16 = .ok (.iload_n 0, 1) := by decide +kernel
theorem dP_checkIndex_17 : decode cP_checkIndex 17 = .ok (.ireturn, 1) := by decide +kernel
abbrev rmkP_ci : Room := { frames := 0, cells := 0, slots := 0, locals := 0 }
set_option maxHeartbeats 4000000 in
set_option maxRecDepth 100000 in
theorem kP_ci (l : Launch) (D : va_G) (E : ur_Ev) (h : ur_M) (x : Int32) (n : Int32) (o : Option Nat)  (hlo : ¬ x < 0) (hhi : x < n) : ur_Mi l yP_checkIndex wsP_checkIndex rmkP_ci D vwCl (ur_v E) [.int x, .int n, va_rf o] h (fun r h2 => r = x ∧ h2 = h) 0 0 := by
  intro sz
  refine ur_of (cc := cP_checkIndex) (maxL := 3) (ret := (some .int)) (by decide) rfl (by rcases o with _ | _ <;> exact Nat.le_of_ble_eq_true rfl) ?_
  intro p e s m args below meth c ls Q hsz hx hb hml hr hlocks hnm hown hts hO hK hI hQ hl
  subst hsz
  have hV := hK.1
  have hts : ∀ w ∈ ur_G, w.before args s = true := fun w hw => hts w (List.mem_cons_of_mem _ hw)
  have hZ : ur_Z E (ur_A h s.heap.size) s s.heap := hO.1
  have hown : s.vm.findClass "jdk/internal/util/Preconditions" = some m.cls := hown
  have hl : lv_has ls 3 [(0, .int x), (1, .int n), (2, va_rf o)] := hl
  refine lv_iload_n hx hb dP_checkIndex_0 rfl (lv_at hl 0 rfl) ?_
  refine lv_if_lt (tgt := 9) hx hb dP_checkIndex_1 (by decide) (fun c1 => absurd c1 hlo) (fun c1 => ?_)
  refine lv_iload_n hx hb dP_checkIndex_4 rfl (lv_at hl 0 rfl) ?_
  refine lv_iload_n hx hb dP_checkIndex_5 rfl (lv_at hl 1 rfl) ?_
  refine lv_icmp_lt (tgt := 16) hx hb dP_checkIndex_6 (by decide) (fun c2 => ?_) (fun c2 => absurd c2 (not_not_intro hhi))
  refine lv_iload_n hx hb dP_checkIndex_16 rfl (lv_at hl 0 rfl) ?_
  exact ur_ri hx hb hr hlocks hI hQ ⟨(by first | (simp only [c1, c2, ↓reduceIte]; done) | (simp only [c1, c2, ↓reduceIte]; rfl) | rfl), rfl⟩ dP_checkIndex_17
theorem dS_checkIndex_0 : decode cS_checkIndex 0 = .ok (.iload_n 0, 1) := by decide +kernel
theorem dS_checkIndex_1 : decode cS_checkIndex 1 = .ok (.iload_n 1, 1) := by decide +kernel
theorem dS_checkIndex_2 : decode cS_checkIndex 2 = .ok (.getstatic 1053, 3) := by decide +kernel
theorem dS_checkIndex_5 : decode cS_checkIndex 5 = .ok (.invokestatic 1059, 3) := by decide +kernel
theorem dS_checkIndex_8 : decode cS_checkIndex 8 = .ok (.pop, 1) := by decide +kernel
theorem dS_checkIndex_9 : decode cS_checkIndex 9 = .ok (.return_, 1) := by decide +kernel
abbrev rmkS_ci : Room := { frames := 1, cells := 0, slots := 0, locals := 22 }
set_option maxHeartbeats 4000000 in
set_option maxRecDepth 100000 in
theorem kS_ci (l : Launch) (D : va_G) (E : ur_Ev) (h : ur_M) (x : Int32) (n : Int32)  (hlo : ¬ x < 0) (hhi : x < n) : ur_Mv l yS_checkIndex wsS_checkIndex rmkS_ci D vwCl (ur_v E) [.int x, .int n] h (fun h2 => h2 = h) 0 0 := by
  intro sz
  refine ur_of (cc := cS_checkIndex) (maxL := 2) (ret := none) (by decide) rfl (Nat.le_of_ble_eq_true rfl) ?_
  intro p e s m args below meth c ls Q hsz hx hb hml hr hlocks hnm hown hts hO hK hI hQ hl
  subst hsz
  have hV := hK.1
  have hts : ∀ w ∈ ur_G, w.before args s = true := fun w hw => hts w (List.mem_cons_of_mem _ hw)
  have hZ : ur_Z E (ur_A h s.heap.size) s s.heap := hO.1
  have hown : s.vm.findClass "java/lang/String" = some m.cls := hown
  have hl : lv_has ls 2 [(0, .int x), (1, .int n)] := hl
  refine lv_iload_n hx hb dS_checkIndex_0 rfl (lv_at hl 0 rfl) ?_
  refine lv_iload_n hx hb dS_checkIndex_1 rfl (lv_at hl 1 rfl) ?_
  refine va_gets hx hb hZ.2.2.2.2.2 hI.2.2.1 hown (hts _ mw420) (fun _ h9 => h9) dS_checkIndex_2 ?_
  refine ur_xi (va_runS (As := [.int x, .int n, va_rf E.2.2.2]) (rest := []) ⟨hx, hb, hml, hown, hts⟩ (kP_ci l D E h x n E.2.2.2 (by first | assumption | omega | decide) (by first | assumption | omega | decide) s.heap.size) (va_cwS 3 hts (ur_gT mw422 mw423 mw15 mw424) rfl rfl rfl (by decide +kernel) ⟨(Nat.le_of_ble_eq_true rfl), (Nat.le_of_ble_eq_true rfl)⟩) ⟨ur_blind, ur_pre hI hO hK (fun _ _ q => q)⟩ rfl rfl hl.1 rfl (lv_room (Nat.le_of_ble_eq_true rfl)) dS_checkIndex_5 ⟨Nat.le_of_ble_eq_true rfl, Nat.le_of_ble_eq_true rfl⟩) hI (fun r1 h1 H locs p1 hI => ?_)
  obtain ⟨er1, eh1⟩ := p1
  replace eh1 := eh1.symm; subst eh1
  replace er1 := er1.symm; subst er1
  refine lv_pop hx hb dS_checkIndex_8 rfl ?_
  exact ur_rv hx hb hr hlocks hI hQ rfl dS_checkIndex_9
theorem dZ_charAt_0 : decode cZ_charAt 0 = .ok (.iload_n 1, 1) := by decide +kernel
theorem dZ_charAt_1 : decode cZ_charAt 1 = .ok (.aload_n 0, 1) := by decide +kernel
theorem dZ_charAt_2 : decode cZ_charAt 2 = .ok (.arraylength, 1) := by decide +kernel
theorem dZ_charAt_3 : decode cZ_charAt 3 = .ok (.invokestatic 9, 3) := by decide +kernel
theorem dZ_charAt_6 : decode cZ_charAt 6 = .ok (.aload_n 0, 1) := by decide +kernel
theorem dZ_charAt_7 : decode cZ_charAt 7 = .ok (.iload_n 1, 1) := by decide +kernel
theorem dZ_charAt_8 : decode cZ_charAt 8 = .ok (.baload, 1) := by decide +kernel
theorem dZ_charAt_9 : decode cZ_charAt 9 = .ok (.sipush 255, 3) := by decide +kernel
theorem dZ_charAt_12 : decode cZ_charAt 12 = .ok (.iand, 1) := by decide +kernel
theorem dZ_charAt_13 : decode cZ_charAt 13 = .ok (.i2c, 1) := by decide +kernel
theorem dZ_charAt_14 : decode cZ_charAt 14 = .ok (.ireturn, 1) := by decide +kernel
abbrev rmkZ_at : Room := { frames := 2, cells := 0, slots := 0, locals := 43 }
set_option maxHeartbeats 4000000 in
set_option maxRecDepth 100000 in
theorem kZ_at (l : Launch) (D : va_G) (E : ur_Ev) (h : ur_M) (x : Int32)  (hlo : ¬ x < 0) (hhi : x < 56) : ur_Mi l yZ_charAt wsZ_charAt rmkZ_at D vwCl (ur_v E) [.ref E.2.2.1, .int x] h (fun r h2 => r = um_let.getD x.toNatClampNeg 0 ∧ h2 = h) 0 0 := by
  intro sz
  refine ur_of (cc := cZ_charAt) (maxL := 2) (ret := (some .char)) (by decide) rfl (Nat.le_of_ble_eq_true rfl) ?_
  intro p e s m args below meth c ls Q hsz hx hb hml hr hlocks hnm hown hts hO hK hI hQ hl
  subst hsz
  have hV := hK.1
  have hts : ∀ w ∈ ur_G, w.before args s = true := fun w hw => hts w (List.mem_cons_of_mem _ hw)
  have hZ : ur_Z E (ur_A h s.heap.size) s s.heap := hO.1
  have hown : s.vm.findClass "java/lang/StringLatin1" = some m.cls := hown
  have hl : lv_has ls 2 [(0, .ref E.2.2.1), (1, .int x)] := hl
  refine lv_iload_n hx hb dZ_charAt_0 rfl (lv_at hl 1 rfl) ?_
  refine lv_aload_n hx hb dZ_charAt_1 rfl (lv_at hl 0 rfl) ?_
  refine va_tlen (v := 56) hx hb hZ.2.2.2.1 hI.2.2.1 rfl dZ_charAt_2 ?_
  refine ur_xv (va_runS (As := [.int x, .int 56]) (rest := []) ⟨hx, hb, hml, hown, hts⟩ (kS_ci l D E h x 56 (by first | assumption | omega | decide) (by first | assumption | omega | decide) s.heap.size) (va_cwS 2 hts (ur_gT mw417 mw418 mw13 mw419) rfl rfl rfl (by decide +kernel) ⟨(Nat.le_of_ble_eq_true rfl), (Nat.le_of_ble_eq_true rfl)⟩) ⟨ur_blind, ur_pre hI hO hK (fun _ _ q => q)⟩ rfl rfl hl.1 rfl (lv_room (Nat.le_of_ble_eq_true rfl)) dZ_charAt_3 ⟨Nat.le_of_ble_eq_true rfl, Nat.le_of_ble_eq_true rfl⟩) hI (fun h1 H locs p1 hI => ?_)
  have eh1 := p1
  replace eh1 := eh1.symm; subst eh1
  refine lv_aload_n hx hb dZ_charAt_6 rfl (lv_at hl 0 rfl) ?_
  refine lv_iload_n hx hb dZ_charAt_7 rfl (lv_at hl 1 rfl) ?_
  refine va_tb (v := .int (um_let.getD x.toNatClampNeg 0)) hx hb hZ.2.2.2.1 hI.2.2.1 (um_in hlo hhi (by decide)) rfl dZ_charAt_8 ?_
  refine lv_sipush (v := 255) hx hb dZ_charAt_9 (by decide) ?_
  refine lv_iand hx hb dZ_charAt_12 ?_
  refine lv_i2c hx hb dZ_charAt_13 rfl ?_
  exact ur_rz hx hb hr hlocks hI hQ (by rw [(um_ch hlo hhi).1]; exact (um_ch hlo hhi).2) ⟨(um_ch hlo hhi).1, rfl⟩ dZ_charAt_14
theorem dS_charAt_0 : decode cS_charAt 0 = .ok (.aload_n 0, 1) := by decide +kernel
theorem dS_charAt_1 : decode cS_charAt 1 = .ok (.invokevirtual 492, 3) := by decide +kernel
theorem dS_charAt_4 : decode cS_charAt 4 = .ok (.ifCond .eq 12, 3) := by decide +kernel
theorem dS_charAt_7 : decode cS_charAt 7 = .ok (.aload_n 0, 1) := by decide +kernel
theorem dS_charAt_8 : decode cS_charAt 8 = .ok (.getfield 9, 3) := by decide +kernel
theorem dS_charAt_11 : decode cS_charAt 11 = .ok (.iload_n 1, 1) := by decide +kernel
theorem dS_charAt_12 : decode cS_charAt 12 = .ok (.invokestatic 495, 3) := by decide +kernel
theorem dS_charAt_15 : decode cS_charAt 15 = .ok (.ireturn, 1) := by decide +kernel
theorem dS_charAt_16 : decode cS_charAt 16 = .ok (.aload_n 0, 1) := by decide +kernel
theorem dS_charAt_17 : decode cS_charAt 17 = .ok (.getfield 9, 3) := by decide +kernel
theorem dS_charAt_20 : decode cS_charAt 20 = .ok (.iload_n 1, 1) := by decide +kernel
theorem dS_charAt_21 : decode cS_charAt 21 = .ok (.invokestatic 498, 3) := by decide +kernel
theorem dS_charAt_24 : decode cS_charAt 24 = .ok (.ireturn, 1) := by decide +kernel
abbrev rmkS_at : Room := { frames := 3, cells := 0, slots := 0, locals := 64 }
set_option maxHeartbeats 4000000 in
set_option maxRecDepth 100000 in
theorem kS_at (l : Launch) (D : va_G) (E : ur_Ev) (h : ur_M) (x : Int32)  (hlo : ¬ x < 0) (hhi : x < 56) : ur_Mi l yS_charAt wsS_charAt rmkS_at D vwCl (ur_v E) [.ref E.2.1, .int x] h (fun r h2 => r = um_let.getD x.toNatClampNeg 0 ∧ h2 = h) 0 0 := by
  intro sz
  refine ur_of (cc := cS_charAt) (maxL := 2) (ret := (some .char)) (by decide) rfl (Nat.le_of_ble_eq_true rfl) ?_
  intro p e s m args below meth c ls Q hsz hx hb hml hr hlocks hnm hown hts hO hK hI hQ hl
  subst hsz
  have hV := hK.1
  have hts : ∀ w ∈ ur_G, w.before args s = true := fun w hw => hts w (List.mem_cons_of_mem _ hw)
  have hZ : ur_Z E (ur_A h s.heap.size) s s.heap := hO.1
  have hown : s.vm.findClass "java/lang/String" = some m.cls := hown
  have hl : lv_has ls 2 [(0, .ref E.2.1), (1, .int x)] := hl
  refine lv_aload_n hx hb dS_charAt_0 rfl (lv_at hl 0 rfl) ?_
  refine ur_xi (va_runV (As := []) (rest := []) ⟨hx, hb, hml, hown, hts⟩ (kS_lat l D E h s.heap.size) (cwV 0 hts (ur_gV mw410 mw411 mw412 mw13 mw413) rfl rfl rfl (by decide +kernel) ⟨(Nat.le_of_ble_eq_true rfl), (Nat.le_of_ble_eq_true rfl)⟩) ⟨ur_blind, ur_recS hZ hI.2.2.1, ur_pre hI hO hK (fun _ _ q => q)⟩ rfl rfl hl.1 rfl (lv_room (Nat.le_of_ble_eq_true rfl)) dS_charAt_1 ⟨Nat.le_of_ble_eq_true rfl, Nat.le_of_ble_eq_true rfl⟩) hI (fun r1 h1 H locs p1 hI => ?_)
  obtain ⟨er1, eh1⟩ := p1
  replace eh1 := eh1.symm; subst eh1
  refine lv_if_eq (tgt := 16) hx hb dS_charAt_4 (by decide) (fun c2 => absurd c2 (by rw [er1]; decide)) (fun c2 => ?_)
  refine lv_aload_n hx hb dS_charAt_7 rfl (lv_at hl 0 rfl) ?_
  refine vk_getf hx hb hZ.2.2.1 hI.2.2.1 hown (hts _ mw753) (fun _ h9 => h9) dS_charAt_8 ?_
  refine lv_iload_n hx hb dS_charAt_11 rfl (lv_at hl 1 rfl) ?_
  refine ur_xi (va_runS (As := [.ref E.2.2.1, .int x]) (rest := []) ⟨hx, hb, hml, hown, hts⟩ (kZ_at l D E h x (by first | assumption | omega | decide) (by first | assumption | omega | decide) H.size) (va_cwS 2 hts (ur_gT mw414 mw415 mw14 mw416) rfl rfl rfl (by decide +kernel) ⟨(Nat.le_of_ble_eq_true rfl), (Nat.le_of_ble_eq_true rfl)⟩) ⟨ur_blind, ur_pre hI hO hK (fun _ _ q => q)⟩ rfl rfl hl.1 rfl (lv_room (Nat.le_of_ble_eq_true rfl)) dS_charAt_12 ⟨Nat.le_of_ble_eq_true rfl, Nat.le_of_ble_eq_true rfl⟩) hI (fun r3 h3 H locs p3 hI => ?_)
  obtain ⟨er3, eh3⟩ := p3
  replace eh3 := eh3.symm; subst eh3
  replace er3 := er3.symm; subst er3
  exact ur_rz hx hb hr hlocks hI hQ (um_ch hlo hhi).2 ⟨(by first | (simp only [c2, ↓reduceIte]; done) | (simp only [c2, ↓reduceIte]; rfl) | rfl), rfl⟩ dS_charAt_15
theorem dU_letterOf_0 : decode cU_letterOf 0 = .ok (.iload_n 0, 1) := by decide +kernel
theorem dU_letterOf_1 : decode cU_letterOf 1 = .ok (.ifCond .lt 12, 3) := by decide +kernel
theorem dU_letterOf_4 : decode cU_letterOf 4 = .ok (.iload_n 0, 1) := by decide +kernel
theorem dU_letterOf_5 : decode cU_letterOf 5 = .ok (.ldc 159, 2) := by decide +kernel
theorem dU_letterOf_7 : decode cU_letterOf 7 = .ok (.invokevirtual 161, 3) := by decide +kernel
theorem dU_letterOf_10 : decode cU_letterOf 10 = .ok (.if_icmp .lt 8, 3) := by decide +kernel
theorem dU_letterOf_13 : decode cU_letterOf 13 = .ok (.bipush 63, 2) := by decide +kernel
theorem dU_letterOf_15 : decode cU_letterOf 15 = .ok (.goto 9, 3) := by decide +kernel
theorem dU_letterOf_18 : decode cU_letterOf 18 = .ok (.ldc 159, 2) := by decide +kernel
theorem dU_letterOf_20 : decode cU_letterOf 20 = .ok (.iload_n 0, 1) := by decide +kernel
theorem dU_letterOf_21 : decode cU_letterOf 21 = .ok (.invokevirtual 166, 3) := by decide +kernel
theorem dU_letterOf_24 : decode cU_letterOf 24 = .ok (.ireturn, 1) := by decide +kernel
abbrev rmkU_letterOf : Room := { frames := 4, cells := 0, slots := 0, locals := 85 }
set_option maxHeartbeats 4000000 in
set_option maxRecDepth 100000 in
theorem kU_letterOf (l : Launch) (D : va_G) (E : ur_Ev) (h : ur_M) (x : Int32)   : ur_Mi l yU_letterOf wsU_letterOf rmkU_letterOf D vwCl (ur_v E) [.int x] h (fun r h2 => r = um_letter x ∧ h2 = h) 0 0 := by
  intro sz
  refine ur_of (cc := cU_letterOf) (maxL := 1) (ret := (some .char)) (by decide) rfl (Nat.le_of_ble_eq_true rfl) ?_
  intro p e s m args below meth c ls Q hsz hx hb hml hr hlocks hnm hown hts hO hK hI hQ hl
  subst hsz
  have hV := hK.1
  have hts : ∀ w ∈ ur_G, w.before args s = true := fun w hw => hts w (List.mem_cons_of_mem _ hw)
  have hZ : ur_Z E (ur_A h s.heap.size) s s.heap := hO.1
  have hown : s.vm.findClass "UnitRoom" = some m.cls := hown
  have hl : lv_has ls 1 [(0, .int x)] := hl
  refine lv_iload_n hx hb dU_letterOf_0 rfl (lv_at hl 0 rfl) ?_
  refine lv_if_lt (tgt := 13) hx hb dU_letterOf_1 (by decide) (fun c1 => ?_) (fun c1 => ?_)
  · refine lv_bipush (v := 63) hx hb dU_letterOf_13 (by decide) ?_
    refine lv_goto (tgt := 24) hx hb dU_letterOf_15 (by decide) ?_
    exact ur_rz hx hb hr hlocks hI hQ rfl ⟨(by first | (simp only [um_letter, c1, ↓reduceIte]; done) | (simp only [um_letter, c1, ↓reduceIte]; rfl) | rfl), rfl⟩ dU_letterOf_24
  · refine lv_iload_n hx hb dU_letterOf_4 rfl (lv_at hl 0 rfl) ?_
    refine va_ldcS hx hb hown hK.2.1.2.2.2.2.2.2.2.2 dU_letterOf_5 ?_
    refine ur_xi (va_runV (As := []) (rest := [.int x]) ⟨hx, hb, hml, hown, hts⟩ (kS_len l D E h s.heap.size) (cwV 0 hts (ur_gV mw396 mw397 mw398 mw13 mw399) rfl rfl rfl (by decide +kernel) ⟨(Nat.le_of_ble_eq_true rfl), (Nat.le_of_ble_eq_true rfl)⟩) ⟨ur_blind, ur_recS hZ hI.2.2.1, ur_pre hI hO hK (fun _ _ q => q)⟩ rfl rfl hl.1 rfl (lv_room (Nat.le_of_ble_eq_true rfl)) dU_letterOf_7 ⟨Nat.le_of_ble_eq_true rfl, Nat.le_of_ble_eq_true rfl⟩) hI (fun r2 h2 H locs p2 hI => ?_)
    obtain ⟨er2, eh2⟩ := p2
    replace eh2 := eh2.symm; subst eh2
    replace er2 := er2.symm; subst er2
    refine lv_icmp_lt (tgt := 18) hx hb dU_letterOf_10 (by decide) (fun c3 => ?_) (fun c3 => ?_)
    · refine va_ldcS hx hb hown hK.2.1.2.2.2.2.2.2.2.2 dU_letterOf_18 ?_
      refine lv_iload_n hx hb dU_letterOf_20 rfl (lv_at hl 0 rfl) ?_
      refine ur_xi (va_runV (As := [.int x]) (rest := []) ⟨hx, hb, hml, hown, hts⟩ (kS_at l D E h x (by first | assumption | omega | decide) (by first | assumption | omega | decide) H.size) (cwV 1 hts (ur_gV mw406 mw407 mw408 mw13 mw409) rfl rfl rfl (by decide +kernel) ⟨(Nat.le_of_ble_eq_true rfl), (Nat.le_of_ble_eq_true rfl)⟩) ⟨ur_blind, ur_recS hZ hI.2.2.1, ur_pre hI hO hK (fun _ _ q => q)⟩ rfl rfl hl.1 rfl (lv_room (Nat.le_of_ble_eq_true rfl)) dU_letterOf_21 ⟨Nat.le_of_ble_eq_true rfl, Nat.le_of_ble_eq_true rfl⟩) hI (fun r4 h4 H locs p4 hI => ?_)
      obtain ⟨er4, eh4⟩ := p4
      replace eh4 := eh4.symm; subst eh4
      replace er4 := er4.symm; subst er4
      exact ur_rz hx hb hr hlocks hI hQ (um_ch (by assumption) (by assumption)).2 ⟨(by first | (simp only [um_letter, c1, c3, ↓reduceIte]; done) | (simp only [um_letter, c1, c3, ↓reduceIte]; rfl) | rfl), rfl⟩ dU_letterOf_24
    · refine lv_bipush (v := 63) hx hb dU_letterOf_13 (by decide) ?_
      refine lv_goto (tgt := 24) hx hb dU_letterOf_15 (by decide) ?_
      exact ur_rz hx hb hr hlocks hI hQ rfl ⟨(by first | (simp only [um_letter, c1, c3, ↓reduceIte]; done) | (simp only [um_letter, c1, c3, ↓reduceIte]; rfl) | rfl), rfl⟩ dU_letterOf_24
theorem dZ_canEncode_0 : decode cZ_canEncode 0 = .ok (.iload_n 0, 1) := by decide +kernel
theorem dZ_canEncode_1 : decode cZ_canEncode 1 = .ok (.ifCond .lt 14, 3) := by decide +kernel
theorem dZ_canEncode_4 : decode cZ_canEncode 4 = .ok (.iload_n 0, 1) := by decide +kernel
theorem dZ_canEncode_5 : decode cZ_canEncode 5 = .ok (.sipush 255, 3) := by decide +kernel
theorem dZ_canEncode_8 : decode cZ_canEncode 8 = .ok (.if_icmp .gt 7, 3) := by decide +kernel
theorem dZ_canEncode_11 : decode cZ_canEncode 11 = .ok (.iconst 1, 1) := by decide +kernel
theorem dZ_canEncode_12 : decode cZ_canEncode 12 = .ok (.goto 4, 3) := by decide +kernel
theorem dZ_canEncode_15 : decode cZ_canEncode 15 = .ok (.iconst 0, 1) := by decide +kernel
theorem dZ_canEncode_16 : decode cZ_canEncode 16 = .ok (.ireturn, 1) := by decide +kernel
abbrev rmkZ_enc : Room := { frames := 0, cells := 0, slots := 0, locals := 0 }
set_option maxHeartbeats 4000000 in
set_option maxRecDepth 100000 in
theorem kZ_enc (l : Launch) (D : va_G) (E : ur_Ev) (h : ur_M) (x : Int32)   : ur_Mi l yZ_canEncode wsZ_canEncode rmkZ_enc D vwCl (ur_v E) [.int x] h (fun r h2 => r = um_b (um_enc x) ∧ h2 = h) 0 0 := by
  intro sz
  refine ur_of (cc := cZ_canEncode) (maxL := 1) (ret := (some .boolean)) (by decide) rfl (Nat.le_of_ble_eq_true rfl) ?_
  intro p e s m args below meth c ls Q hsz hx hb hml hr hlocks hnm hown hts hO hK hI hQ hl
  subst hsz
  have hV := hK.1
  have hts : ∀ w ∈ ur_G, w.before args s = true := fun w hw => hts w (List.mem_cons_of_mem _ hw)
  have hZ : ur_Z E (ur_A h s.heap.size) s s.heap := hO.1
  have hown : s.vm.findClass "java/lang/StringLatin1" = some m.cls := hown
  have hl : lv_has ls 1 [(0, .int x)] := hl
  refine lv_iload_n hx hb dZ_canEncode_0 rfl (lv_at hl 0 rfl) ?_
  refine lv_if_lt (tgt := 15) hx hb dZ_canEncode_1 (by decide) (fun c1 => ?_) (fun c1 => ?_)
  · refine lv_iconst (v := 0) hx hb dZ_canEncode_15 (by decide) ?_
    exact ur_rz hx hb hr hlocks hI hQ rfl ⟨(by first | (simp only [um_enc, c1, ↓reduceIte]; done) | (simp only [um_enc, c1, ↓reduceIte]; rfl) | rfl), rfl⟩ dZ_canEncode_16
  · refine lv_iload_n hx hb dZ_canEncode_4 rfl (lv_at hl 0 rfl) ?_
    refine lv_sipush (v := 255) hx hb dZ_canEncode_5 (by decide) ?_
    refine lv_icmp_gt (tgt := 15) hx hb dZ_canEncode_8 (by decide) (fun c2 => ?_) (fun c2 => ?_)
    · refine lv_iconst (v := 0) hx hb dZ_canEncode_15 (by decide) ?_
      exact ur_rz hx hb hr hlocks hI hQ rfl ⟨(by first | (simp only [um_enc, c1, c2, ↓reduceIte]; done) | (simp only [um_enc, c1, c2, ↓reduceIte]; rfl) | rfl), rfl⟩ dZ_canEncode_16
    · refine lv_iconst (v := 1) hx hb dZ_canEncode_11 (by decide) ?_
      refine lv_goto (tgt := 16) hx hb dZ_canEncode_12 (by decide) ?_
      exact ur_rz hx hb hr hlocks hI hQ rfl ⟨(by first | (simp only [um_enc, c1, c2, ↓reduceIte]; done) | (simp only [um_enc, c1, c2, ↓reduceIte]; rfl) | rfl), rfl⟩ dZ_canEncode_16
theorem dZ_indexOfChar_0 : decode cZ_indexOfChar 0 = .ok (.iload_n 1, 1) := by decide +kernel
theorem dZ_indexOfChar_1 : decode cZ_indexOfChar 1 = .ok (.i2b, 1) := by decide +kernel
theorem dZ_indexOfChar_2 : decode cZ_indexOfChar 2 = .ok (.istore 4, 2) := by decide +kernel
theorem dZ_indexOfChar_4 : decode cZ_indexOfChar 4 = .ok (.iload_n 2, 1) := by decide +kernel
theorem dZ_indexOfChar_5 : decode cZ_indexOfChar 5 = .ok (.istore 5, 2) := by decide +kernel
theorem dZ_indexOfChar_7 : decode cZ_indexOfChar 7 = .ok (.iload 5, 2) := by decide +kernel
theorem dZ_indexOfChar_9 : decode cZ_indexOfChar 9 = .ok (.iload_n 3, 1) := by decide +kernel
theorem dZ_indexOfChar_10 : decode cZ_indexOfChar 10 = .ok (.if_icmp .ge 21, 3) := by decide +kernel
theorem dZ_indexOfChar_13 : decode cZ_indexOfChar 13 = .ok (.aload_n 0, 1) := by decide +kernel
theorem dZ_indexOfChar_14 : decode cZ_indexOfChar 14 = .ok (.iload 5, 2) := by decide +kernel
theorem dZ_indexOfChar_16 : decode cZ_indexOfChar 16 = .ok (.baload, 1) := by decide +kernel
theorem dZ_indexOfChar_17 : decode cZ_indexOfChar 17 = .ok (.iload 4, 2) := by decide +kernel
theorem dZ_indexOfChar_19 : decode cZ_indexOfChar 19 = .ok (.if_icmp .ne 6, 3) := by decide +kernel
theorem dZ_indexOfChar_22 : decode cZ_indexOfChar 22 = .ok (.iload 5, 2) := by decide +kernel
theorem dZ_indexOfChar_24 : decode cZ_indexOfChar 24 = .ok (.ireturn, 1) := by decide +kernel
theorem dZ_indexOfChar_25 : decode cZ_indexOfChar 25 = .ok (.iinc 5 1, 3) := by decide +kernel
theorem dZ_indexOfChar_28 : decode cZ_indexOfChar 28 = .ok (.goto (-21), 3) := by decide +kernel
theorem dZ_indexOfChar_31 : decode cZ_indexOfChar 31 = .ok (.iconst (-1), 1) := by decide +kernel
theorem dZ_indexOfChar_32 : decode cZ_indexOfChar 32 = .ok (.ireturn, 1) := by decide +kernel
abbrev rmkZ_ioc : Room := { frames := 0, cells := 0, slots := 0, locals := 0 }
set_option maxHeartbeats 4000000 in
set_option maxRecDepth 100000 in
theorem kZ_ioc (l : Launch) (D : va_G) (E : ur_Ev) (h : ur_M) (x : Int32)  (hk : um_enc x = true) : ur_Mi l yZ_indexOfChar wsZ_indexOfChar rmkZ_ioc D vwCl (ur_v E) [.ref E.2.2.1, .int x, .int 0, .int 56] h (fun r h2 => r = um_find x 56 0 ∧ h2 = h) 0 0 := by
  intro sz
  refine ur_of (cc := cZ_indexOfChar) (maxL := 6) (ret := (some .int)) (by decide) rfl (Nat.le_of_ble_eq_true rfl) ?_
  intro p e s m args below meth c ls Q hsz hx hb hml hr hlocks hnm hown hts hO hK hI hQ hl
  subst hsz
  have hV := hK.1
  have hts : ∀ w ∈ ur_G, w.before args s = true := fun w hw => hts w (List.mem_cons_of_mem _ hw)
  have hZ : ur_Z E (ur_A h s.heap.size) s s.heap := hO.1
  have hown : s.vm.findClass "java/lang/StringLatin1" = some m.cls := hown
  have hl : lv_has ls 6 [(0, .ref E.2.2.1), (1, .int x), (2, .int 0), (3, .int 56)] := hl
  refine lv_iload_n hx hb dZ_indexOfChar_0 rfl (lv_at hl 1 rfl) ?_
  refine lv_i2b hx hb dZ_indexOfChar_1 rfl ?_
  refine lv_istore (lv' := [(4, .int (x.toInt8.toInt32)), (0, .ref E.2.2.1), (1, .int x), (2, .int 0), (3, .int 56)]) hx hb dZ_indexOfChar_2 hl (by decide) rfl (fun ls hl => ?_)
  refine lv_iload_n hx hb dZ_indexOfChar_4 rfl (lv_at hl 3 rfl) ?_
  refine lv_istore (lv' := [(5, .int 0), (4, .int (x.toInt8.toInt32)), (0, .ref E.2.2.1), (1, .int x), (2, .int 0), (3, .int 56)]) hx hb dZ_indexOfChar_5 hl (by decide) rfl (fun ls hl => ?_)
  have lpn1 : ∀ (n1 : Nat) (i : Nat) (H : Heap) (locs : List Loc) (ls : Array Slot), 56 - i < n1 → (i ≤ 56) → (um_find x 56 0 = um_find x (56 - i) i) → ur_I D vwCl (ur_A h s.heap.size) s.heap h H locs → lv_has ls 6 [(0, .ref E.2.2.1), (1, .int x), (3, .int 56), (4, .int (x.toInt8.toInt32)), (5, .int (nI i))] → W p l e rmkZ_ioc s m args below meth c H locs 0 0 Q (F0 m 7 ls []) := by
    intro n1
    induction n1 with
    | zero => intro i H locs ls hnn1; exact absurd hnn1 (Nat.not_lt_zero _)
    | succ n1 ihn1 =>
      intro i H locs ls hnn1 hi hf hI hl
      refine lv_iload hx hb dZ_indexOfChar_7 (lv_at hl 4 rfl) ?_
      refine lv_iload_n hx hb dZ_indexOfChar_9 rfl (lv_at hl 2 rfl) ?_
      refine lv_icmp_ge (tgt := 31) hx hb dZ_indexOfChar_10 (by decide) (fun c2 => ?_) (fun c2 => ?_)
      · refine lv_iconst (v := (-1)) hx hb dZ_indexOfChar_31 (by decide) ?_
        exact ur_ri hx hb hr hlocks hI hQ ⟨(by rw [hf, show i = 56 from Nat.le_antisymm hi (Nat.not_lt.mp (fun z9 => nI_ge z9 (by decide) c2))]; rfl), rfl⟩ dZ_indexOfChar_32
      · have hlt : i < 56 := Nat.not_le.mp (fun z9 => c2 (nI_le z9 (by omega)))
        refine lv_aload_n hx hb dZ_indexOfChar_13 rfl (lv_at hl 0 rfl) ?_
        refine lv_iload hx hb dZ_indexOfChar_14 (lv_at hl 4 rfl) ?_
        refine va_tb (v := .int (um_let.getD (Int32.toNatClampNeg (nI i)) 0)) hx hb hZ.2.2.2.1 hI.2.2.1 (vp_in_nI hlt (by decide)) rfl dZ_indexOfChar_16 ?_
        refine lv_iload hx hb dZ_indexOfChar_17 (lv_at hl 3 rfl) ?_
        refine lv_icmp_ne (tgt := 25) hx hb dZ_indexOfChar_19 (by decide) (fun c3 => ?_) (fun c3 => ?_)
        · refine lv_iinc (v := ((nI i) + 1)) (lv' := [(5, .int ((nI i) + 1)), (0, .ref E.2.2.1), (1, .int x), (3, .int 56), (4, .int (x.toInt8.toInt32))]) hx hb dZ_indexOfChar_25 hl (k := 4) rfl rfl (by decide) rfl (fun ls hl => ?_)
          refine lv_goto (tgt := 7) hx hb dZ_indexOfChar_28 (by decide) ?_
          rw [nI_clamp (by omega)] at c3
          rw [nI_1] at hl
          exact ihn1 (i + 1) H locs ls (by omega) hlt (by rw [hf, show 56 - i = (56 - (i + 1)) + 1 by omega, um_find, if_neg (fun z9 => c3 ((um_fb hk hlt).mpr z9))]) hI (lv_sub hl [1, 2, 3, 4, 0] rfl)
        · refine lv_iload hx hb dZ_indexOfChar_22 (lv_at hl 4 rfl) ?_
          exact ur_ri hx hb hr hlocks hI hQ ⟨(by rw [hf, show 56 - i = (56 - (i + 1)) + 1 by omega, um_find, if_pos ((um_fb hk hlt).mp (by rw [nI_clamp (by omega)] at c3; exact c3))]), rfl⟩ dZ_indexOfChar_24
  exact lpn1 _ 0 _ _ ls (Nat.lt_succ_self _) (by decide) rfl hI (lv_sub hl [2, 3, 5, 1, 0] rfl)
theorem dZ_indexOf_0 : decode cZ_indexOf 0 = .ok (.iload_n 1, 1) := by decide +kernel
theorem dZ_indexOf_1 : decode cZ_indexOf 1 = .ok (.invokestatic 88, 3) := by decide +kernel
theorem dZ_indexOf_4 : decode cZ_indexOf 4 = .ok (.ifCond .ne 5, 3) := by decide +kernel
theorem dZ_indexOf_7 : decode cZ_indexOf 7 = .ok (.iconst (-1), 1) := by decide +kernel
theorem dZ_indexOf_8 : decode cZ_indexOf 8 = .ok (.ireturn, 1) := by decide +kernel
theorem dZ_indexOf_9 : decode cZ_indexOf 9 = .ok (.iload_n 2, 1) := by decide +kernel
theorem dZ_indexOf_10 : decode cZ_indexOf 10 = .ok (.iconst 0, 1) := by decide +kernel
theorem dZ_indexOf_11 : decode cZ_indexOf 11 = .ok (.invokestatic 92, 3) := by decide +kernel
theorem dZ_indexOf_14 : decode cZ_indexOf 14 = .ok (.istore_n 2, 1) := by decide +kernel
theorem dZ_indexOf_15 : decode cZ_indexOf 15 = .ok (.iload_n 3, 1) := by decide +kernel
theorem dZ_indexOf_16 : decode cZ_indexOf 16 = .ok (.aload_n 0, 1) := by decide +kernel
theorem dZ_indexOf_17 : decode cZ_indexOf 17 = .ok (.arraylength, 1) := by decide +kernel
theorem dZ_indexOf_18 : decode cZ_indexOf 18 = .ok (.invokestatic 38, 3) := by decide +kernel
theorem dZ_indexOf_21 : decode cZ_indexOf 21 = .ok (.istore_n 3, 1) := by decide +kernel
theorem dZ_indexOf_22 : decode cZ_indexOf 22 = .ok (.iload_n 2, 1) := by decide +kernel
theorem dZ_indexOf_23 : decode cZ_indexOf 23 = .ok (.iload_n 3, 1) := by decide +kernel
theorem dZ_indexOf_24 : decode cZ_indexOf 24 = .ok (.if_icmp .lt 5, 3) := by decide +kernel
theorem dZ_indexOf_27 : decode cZ_indexOf 27 = .ok (.iconst (-1), 1) := by decide +kernel
theorem dZ_indexOf_28 : decode cZ_indexOf 28 = .ok (.ireturn, 1) := by decide +kernel
theorem dZ_indexOf_29 : decode cZ_indexOf 29 = .ok (.aload_n 0, 1) := by decide +kernel
theorem dZ_indexOf_30 : decode cZ_indexOf 30 = .ok (.iload_n 1, 1) := by decide +kernel
theorem dZ_indexOf_31 : decode cZ_indexOf 31 = .ok (.iload_n 2, 1) := by decide +kernel
theorem dZ_indexOf_32 : decode cZ_indexOf 32 = .ok (.iload_n 3, 1) := by decide +kernel
theorem dZ_indexOf_33 : decode cZ_indexOf 33 = .ok (.invokestatic 95, 3) := by decide +kernel
theorem dZ_indexOf_36 : decode cZ_indexOf 36 = .ok (.ireturn, 1) := by decide +kernel
abbrev rmkZ_io : Room := { frames := 1, cells := 0, slots := 0, locals := 25 }
set_option maxHeartbeats 4000000 in
set_option maxRecDepth 100000 in
theorem kZ_io (l : Launch) (D : va_G) (E : ur_Ev) (h : ur_M) (x : Int32)   : ur_Mi l yZ_indexOf wsZ_indexOf rmkZ_io D vwCl (ur_v E) [.ref E.2.2.1, .int x, .int 0, .int 56] h (fun r h2 => r = um_find x 56 0 ∧ h2 = h) 0 0 := by
  intro sz
  refine ur_of (cc := cZ_indexOf) (maxL := 4) (ret := (some .int)) (by decide) rfl (Nat.le_of_ble_eq_true rfl) ?_
  intro p e s m args below meth c ls Q hsz hx hb hml hr hlocks hnm hown hts hO hK hI hQ hl
  subst hsz
  have hV := hK.1
  have hts : ∀ w ∈ ur_G, w.before args s = true := fun w hw => hts w (List.mem_cons_of_mem _ hw)
  have hZ : ur_Z E (ur_A h s.heap.size) s s.heap := hO.1
  have hown : s.vm.findClass "java/lang/StringLatin1" = some m.cls := hown
  have hl : lv_has ls 4 [(0, .ref E.2.2.1), (1, .int x), (2, .int 0), (3, .int 56)] := hl
  refine lv_iload_n hx hb dZ_indexOf_0 rfl (lv_at hl 1 rfl) ?_
  refine ur_xi (va_runS (As := [.int x]) (rest := []) ⟨hx, hb, hml, hown, hts⟩ (kZ_enc l D E h x s.heap.size) (va_cwS 1 hts (ur_gT mw490 mw491 mw14 mw492) rfl rfl rfl (by decide +kernel) ⟨(Nat.le_of_ble_eq_true rfl), (Nat.le_of_ble_eq_true rfl)⟩) ⟨ur_blind, ur_pre hI hO hK (fun _ _ q => q)⟩ rfl rfl hl.1 rfl (lv_room (Nat.le_of_ble_eq_true rfl)) dZ_indexOf_1 ⟨Nat.le_of_ble_eq_true rfl, Nat.le_of_ble_eq_true rfl⟩) hI (fun r1 h1 H locs p1 hI => ?_)
  obtain ⟨er1, eh1⟩ := p1
  replace eh1 := eh1.symm; subst eh1
  refine lv_if_ne (tgt := 9) hx hb dZ_indexOf_4 (by decide) (fun c2 => ?_) (fun c2 => ?_)
  · have k3 : (um_enc x) = true := um_b1 er1 c2
    refine lv_iload_n hx hb dZ_indexOf_9 rfl (lv_at hl 2 rfl) ?_
    refine lv_iconst (v := 0) hx hb dZ_indexOf_10 (by decide) ?_
    refine va_mmax hx hb (hml.trans hl.1.symm) hown (hts _ mw493) (hts _ mw61) (hts _ mw6) (hts _ mw62) (Nat.le_of_ble_eq_true rfl) (Nat.le_of_ble_eq_true rfl) (Nat.le_of_ble_eq_true rfl) (Nat.le_of_ble_eq_true rfl) dZ_indexOf_11 ?_
    refine lv_istore_n (lv' := [(2, .int (if 0 < 0 then 0 else 0)), (0, .ref E.2.2.1), (1, .int x), (3, .int 56)]) hx hb dZ_indexOf_14 rfl hl (by decide) rfl (fun ls hl => ?_)
    refine lv_iload_n hx hb dZ_indexOf_15 rfl (lv_at hl 3 rfl) ?_
    refine lv_aload_n hx hb dZ_indexOf_16 rfl (lv_at hl 1 rfl) ?_
    refine va_tlen (v := 56) hx hb hZ.2.2.2.1 hI.2.2.1 rfl dZ_indexOf_17 ?_
    refine va_mmin hx hb (hml.trans hl.1.symm) hown (hts _ mw494) (hts _ mw453) (hts _ mw6) (hts _ mw454) (Nat.le_of_ble_eq_true rfl) (Nat.le_of_ble_eq_true rfl) (Nat.le_of_ble_eq_true rfl) (Nat.le_of_ble_eq_true rfl) dZ_indexOf_18 ?_
    refine lv_istore_n (lv' := [(3, .int (if 56 < 56 then 56 else 56)), (2, .int (if 0 < 0 then 0 else 0)), (0, .ref E.2.2.1), (1, .int x)]) hx hb dZ_indexOf_21 rfl hl (by decide) rfl (fun ls hl => ?_)
    refine lv_iload_n hx hb dZ_indexOf_22 rfl (lv_at hl 1 rfl) ?_
    refine lv_iload_n hx hb dZ_indexOf_23 rfl (lv_at hl 0 rfl) ?_
    refine lv_icmp_lt (tgt := 29) hx hb dZ_indexOf_24 (by decide) (fun c4 => ?_) (fun c4 => absurd c4 (by decide))
    refine lv_aload_n hx hb dZ_indexOf_29 rfl (lv_at hl 2 rfl) ?_
    refine lv_iload_n hx hb dZ_indexOf_30 rfl (lv_at hl 3 rfl) ?_
    refine lv_iload_n hx hb dZ_indexOf_31 rfl (lv_at hl 1 rfl) ?_
    refine lv_iload_n hx hb dZ_indexOf_32 rfl (lv_at hl 0 rfl) ?_
    refine ur_xi (va_runS (As := [.ref E.2.2.1, .int x, .int (if 0 < 0 then 0 else 0), .int (if 56 < 56 then 56 else 56)]) (rest := []) ⟨hx, hb, hml, hown, hts⟩ (kZ_ioc l D E h x (by first | assumption | omega | decide) H.size) (va_cwS 4 hts (ur_gT mw495 mw496 mw14 mw497) rfl rfl rfl (by decide +kernel) ⟨(Nat.le_of_ble_eq_true rfl), (Nat.le_of_ble_eq_true rfl)⟩) ⟨ur_blind, ur_pre hI hO hK (fun _ _ q => q)⟩ rfl rfl hl.1 rfl (lv_room (Nat.le_of_ble_eq_true rfl)) dZ_indexOf_33 ⟨Nat.le_of_ble_eq_true rfl, Nat.le_of_ble_eq_true rfl⟩) hI (fun r5 h5 H locs p5 hI => ?_)
    obtain ⟨er5, eh5⟩ := p5
    replace eh5 := eh5.symm; subst eh5
    replace er5 := er5.symm; subst er5
    exact ur_ri hx hb hr hlocks hI hQ ⟨rfl, rfl⟩ dZ_indexOf_36
  · have k6 : (um_enc x) = false := um_b0 er1 c2
    refine lv_iconst (v := (-1)) hx hb dZ_indexOf_7 (by decide) ?_
    exact ur_ri hx hb hr hlocks hI hQ ⟨(um_find_no k6 56 0 rfl).symm, rfl⟩ dZ_indexOf_8
theorem dS_indexOf2_0 : decode cS_indexOf2 0 = .ok (.aload_n 0, 1) := by decide +kernel
theorem dS_indexOf2_1 : decode cS_indexOf2 1 = .ok (.invokevirtual 492, 3) := by decide +kernel
theorem dS_indexOf2_4 : decode cS_indexOf2 4 = .ok (.ifCond .eq 19, 3) := by decide +kernel
theorem dS_indexOf2_7 : decode cS_indexOf2 7 = .ok (.aload_n 0, 1) := by decide +kernel
theorem dS_indexOf2_8 : decode cS_indexOf2 8 = .ok (.getfield 9, 3) := by decide +kernel
theorem dS_indexOf2_11 : decode cS_indexOf2 11 = .ok (.iload_n 1, 1) := by decide +kernel
theorem dS_indexOf2_12 : decode cS_indexOf2 12 = .ok (.iload_n 2, 1) := by decide +kernel
theorem dS_indexOf2_13 : decode cS_indexOf2 13 = .ok (.aload_n 0, 1) := by decide +kernel
theorem dS_indexOf2_14 : decode cS_indexOf2 14 = .ok (.invokevirtual 505, 3) := by decide +kernel
theorem dS_indexOf2_17 : decode cS_indexOf2 17 = .ok (.invokestatic 637, 3) := by decide +kernel
theorem dS_indexOf2_20 : decode cS_indexOf2 20 = .ok (.goto 16, 3) := by decide +kernel
theorem dS_indexOf2_23 : decode cS_indexOf2 23 = .ok (.aload_n 0, 1) := by decide +kernel
theorem dS_indexOf2_24 : decode cS_indexOf2 24 = .ok (.getfield 9, 3) := by decide +kernel
theorem dS_indexOf2_27 : decode cS_indexOf2 27 = .ok (.iload_n 1, 1) := by decide +kernel
theorem dS_indexOf2_28 : decode cS_indexOf2 28 = .ok (.iload_n 2, 1) := by decide +kernel
theorem dS_indexOf2_29 : decode cS_indexOf2 29 = .ok (.aload_n 0, 1) := by decide +kernel
theorem dS_indexOf2_30 : decode cS_indexOf2 30 = .ok (.invokevirtual 505, 3) := by decide +kernel
theorem dS_indexOf2_33 : decode cS_indexOf2 33 = .ok (.invokestatic 640, 3) := by decide +kernel
theorem dS_indexOf2_36 : decode cS_indexOf2 36 = .ok (.ireturn, 1) := by decide +kernel
abbrev rmkS_io2 : Room := { frames := 2, cells := 0, slots := 0, locals := 48 }
set_option maxHeartbeats 4000000 in
set_option maxRecDepth 100000 in
theorem kS_io2 (l : Launch) (D : va_G) (E : ur_Ev) (h : ur_M) (x : Int32)   : ur_Mi l yS_indexOf2 wsS_indexOf2 rmkS_io2 D vwCl (ur_v E) [.ref E.2.1, .int x, .int 0] h (fun r h2 => r = um_find x 56 0 ∧ h2 = h) 0 0 := by
  intro sz
  refine ur_of (cc := cS_indexOf2) (maxL := 3) (ret := (some .int)) (by decide) rfl (Nat.le_of_ble_eq_true rfl) ?_
  intro p e s m args below meth c ls Q hsz hx hb hml hr hlocks hnm hown hts hO hK hI hQ hl
  subst hsz
  have hV := hK.1
  have hts : ∀ w ∈ ur_G, w.before args s = true := fun w hw => hts w (List.mem_cons_of_mem _ hw)
  have hZ : ur_Z E (ur_A h s.heap.size) s s.heap := hO.1
  have hown : s.vm.findClass "java/lang/String" = some m.cls := hown
  have hl : lv_has ls 3 [(0, .ref E.2.1), (1, .int x), (2, .int 0)] := hl
  refine lv_aload_n hx hb dS_indexOf2_0 rfl (lv_at hl 0 rfl) ?_
  refine ur_xi (va_runV (As := []) (rest := []) ⟨hx, hb, hml, hown, hts⟩ (kS_lat l D E h s.heap.size) (cwV 0 hts (ur_gV mw410 mw411 mw412 mw13 mw413) rfl rfl rfl (by decide +kernel) ⟨(Nat.le_of_ble_eq_true rfl), (Nat.le_of_ble_eq_true rfl)⟩) ⟨ur_blind, ur_recS hZ hI.2.2.1, ur_pre hI hO hK (fun _ _ q => q)⟩ rfl rfl hl.1 rfl (lv_room (Nat.le_of_ble_eq_true rfl)) dS_indexOf2_1 ⟨Nat.le_of_ble_eq_true rfl, Nat.le_of_ble_eq_true rfl⟩) hI (fun r1 h1 H locs p1 hI => ?_)
  obtain ⟨er1, eh1⟩ := p1
  replace eh1 := eh1.symm; subst eh1
  refine lv_if_eq (tgt := 23) hx hb dS_indexOf2_4 (by decide) (fun c2 => absurd c2 (by rw [er1]; decide)) (fun c2 => ?_)
  refine lv_aload_n hx hb dS_indexOf2_7 rfl (lv_at hl 0 rfl) ?_
  refine vk_getf hx hb hZ.2.2.1 hI.2.2.1 hown (hts _ mw753) (fun _ h9 => h9) dS_indexOf2_8 ?_
  refine lv_iload_n hx hb dS_indexOf2_11 rfl (lv_at hl 1 rfl) ?_
  refine lv_iload_n hx hb dS_indexOf2_12 rfl (lv_at hl 2 rfl) ?_
  refine lv_aload_n hx hb dS_indexOf2_13 rfl (lv_at hl 0 rfl) ?_
  refine ur_xi (va_runV (As := []) (rest := [.int 0, .int x, .ref E.2.2.1]) ⟨hx, hb, hml, hown, hts⟩ (kS_len l D E h H.size) (cwV 0 hts (ur_gV mw486 mw397 mw398 mw13 mw399) rfl rfl rfl (by decide +kernel) ⟨(Nat.le_of_ble_eq_true rfl), (Nat.le_of_ble_eq_true rfl)⟩) ⟨ur_blind, ur_recS hZ hI.2.2.1, ur_pre hI hO hK (fun _ _ q => q)⟩ rfl rfl hl.1 rfl (lv_room (Nat.le_of_ble_eq_true rfl)) dS_indexOf2_14 ⟨Nat.le_of_ble_eq_true rfl, Nat.le_of_ble_eq_true rfl⟩) hI (fun r3 h3 H locs p3 hI => ?_)
  obtain ⟨er3, eh3⟩ := p3
  replace eh3 := eh3.symm; subst eh3
  replace er3 := er3.symm; subst er3
  refine ur_xi (va_runS (As := [.ref E.2.2.1, .int x, .int 0, .int (56)]) (rest := []) ⟨hx, hb, hml, hown, hts⟩ (kZ_io l D E h x H.size) (va_cwS 4 hts (ur_gT mw487 mw488 mw14 mw489) rfl rfl rfl (by decide +kernel) ⟨(Nat.le_of_ble_eq_true rfl), (Nat.le_of_ble_eq_true rfl)⟩) ⟨ur_blind, ur_pre hI hO hK (fun _ _ q => q)⟩ rfl rfl hl.1 rfl (lv_room (Nat.le_of_ble_eq_true rfl)) dS_indexOf2_17 ⟨Nat.le_of_ble_eq_true rfl, Nat.le_of_ble_eq_true rfl⟩) hI (fun r4 h4 H locs p4 hI => ?_)
  obtain ⟨er4, eh4⟩ := p4
  replace eh4 := eh4.symm; subst eh4
  replace er4 := er4.symm; subst er4
  refine lv_goto (tgt := 36) hx hb dS_indexOf2_20 (by decide) ?_
  exact ur_ri hx hb hr hlocks hI hQ ⟨(by first | (simp only [c2, ↓reduceIte]; done) | (simp only [c2, ↓reduceIte]; rfl) | rfl), rfl⟩ dS_indexOf2_36
theorem dS_indexOf_0 : decode cS_indexOf 0 = .ok (.aload_n 0, 1) := by decide +kernel
theorem dS_indexOf_1 : decode cS_indexOf 1 = .ok (.iload_n 1, 1) := by decide +kernel
theorem dS_indexOf_2 : decode cS_indexOf 2 = .ok (.iconst 0, 1) := by decide +kernel
theorem dS_indexOf_3 : decode cS_indexOf 3 = .ok (.invokevirtual 633, 3) := by decide +kernel
theorem dS_indexOf_6 : decode cS_indexOf 6 = .ok (.ireturn, 1) := by decide +kernel
abbrev rmkS_io : Room := { frames := 3, cells := 0, slots := 0, locals := 70 }
set_option maxHeartbeats 4000000 in
set_option maxRecDepth 100000 in
theorem kS_io (l : Launch) (D : va_G) (E : ur_Ev) (h : ur_M) (x : Int32)   : ur_Mi l yS_indexOf wsS_indexOf rmkS_io D vwCl (ur_v E) [.ref E.2.1, .int x] h (fun r h2 => r = um_find x 56 0 ∧ h2 = h) 0 0 := by
  intro sz
  refine ur_of (cc := cS_indexOf) (maxL := 2) (ret := (some .int)) (by decide) rfl (Nat.le_of_ble_eq_true rfl) ?_
  intro p e s m args below meth c ls Q hsz hx hb hml hr hlocks hnm hown hts hO hK hI hQ hl
  subst hsz
  have hV := hK.1
  have hts : ∀ w ∈ ur_G, w.before args s = true := fun w hw => hts w (List.mem_cons_of_mem _ hw)
  have hZ : ur_Z E (ur_A h s.heap.size) s s.heap := hO.1
  have hown : s.vm.findClass "java/lang/String" = some m.cls := hown
  have hl : lv_has ls 2 [(0, .ref E.2.1), (1, .int x)] := hl
  refine lv_aload_n hx hb dS_indexOf_0 rfl (lv_at hl 0 rfl) ?_
  refine lv_iload_n hx hb dS_indexOf_1 rfl (lv_at hl 1 rfl) ?_
  refine lv_iconst (v := 0) hx hb dS_indexOf_2 (by decide) ?_
  refine ur_xi (va_runV (As := [.int x, .int 0]) (rest := []) ⟨hx, hb, hml, hown, hts⟩ (kS_io2 l D E h x s.heap.size) (cwV 2 hts (ur_gV mw482 mw483 mw484 mw13 mw485) rfl rfl rfl (by decide +kernel) ⟨(Nat.le_of_ble_eq_true rfl), (Nat.le_of_ble_eq_true rfl)⟩) ⟨ur_blind, ur_recS hZ hI.2.2.1, ur_pre hI hO hK (fun _ _ q => q)⟩ rfl rfl hl.1 rfl (lv_room (Nat.le_of_ble_eq_true rfl)) dS_indexOf_3 ⟨Nat.le_of_ble_eq_true rfl, Nat.le_of_ble_eq_true rfl⟩) hI (fun r1 h1 H locs p1 hI => ?_)
  obtain ⟨er1, eh1⟩ := p1
  replace eh1 := eh1.symm; subst eh1
  replace er1 := er1.symm; subst er1
  exact ur_ri hx hb hr hlocks hI hQ ⟨(by first | (simp only [↓reduceIte]; done) | (simp only [↓reduceIte]; rfl) | rfl), rfl⟩ dS_indexOf_6
theorem dU_codeOf_0 : decode cU_codeOf 0 = .ok (.iload_n 0, 1) := by decide +kernel
theorem dU_codeOf_1 : decode cU_codeOf 1 = .ok (.bipush 97, 2) := by decide +kernel
theorem dU_codeOf_3 : decode cU_codeOf 3 = .ok (.if_icmp .lt 19, 3) := by decide +kernel
theorem dU_codeOf_6 : decode cU_codeOf 6 = .ok (.iload_n 0, 1) := by decide +kernel
theorem dU_codeOf_7 : decode cU_codeOf 7 = .ok (.bipush 122, 2) := by decide +kernel
theorem dU_codeOf_9 : decode cU_codeOf 9 = .ok (.if_icmp .gt 13, 3) := by decide +kernel
theorem dU_codeOf_12 : decode cU_codeOf 12 = .ok (.iload_n 0, 1) := by decide +kernel
theorem dU_codeOf_13 : decode cU_codeOf 13 = .ok (.bipush 97, 2) := by decide +kernel
theorem dU_codeOf_15 : decode cU_codeOf 15 = .ok (.isub, 1) := by decide +kernel
theorem dU_codeOf_16 : decode cU_codeOf 16 = .ok (.bipush 65, 2) := by decide +kernel
theorem dU_codeOf_18 : decode cU_codeOf 18 = .ok (.iadd, 1) := by decide +kernel
theorem dU_codeOf_19 : decode cU_codeOf 19 = .ok (.goto 4, 3) := by decide +kernel
theorem dU_codeOf_22 : decode cU_codeOf 22 = .ok (.iload_n 0, 1) := by decide +kernel
theorem dU_codeOf_23 : decode cU_codeOf 23 = .ok (.istore_n 1, 1) := by decide +kernel
theorem dU_codeOf_24 : decode cU_codeOf 24 = .ok (.iconst 0, 1) := by decide +kernel
theorem dU_codeOf_25 : decode cU_codeOf 25 = .ok (.ldc 159, 2) := by decide +kernel
theorem dU_codeOf_27 : decode cU_codeOf 27 = .ok (.iload_n 1, 1) := by decide +kernel
theorem dU_codeOf_28 : decode cU_codeOf 28 = .ok (.i2c, 1) := by decide +kernel
theorem dU_codeOf_29 : decode cU_codeOf 29 = .ok (.invokevirtual 170, 3) := by decide +kernel
theorem dU_codeOf_32 : decode cU_codeOf 32 = .ok (.invokestatic 116, 3) := by decide +kernel
theorem dU_codeOf_35 : decode cU_codeOf 35 = .ok (.ireturn, 1) := by decide +kernel
abbrev rmkU_codeOf : Room := { frames := 4, cells := 0, slots := 0, locals := 91 }
set_option maxHeartbeats 4000000 in
set_option maxRecDepth 100000 in
theorem kU_codeOf (l : Launch) (D : va_G) (E : ur_Ev) (h : ur_M) (x : Int32)   : ur_Mi l yU_codeOf wsU_codeOf rmkU_codeOf D vwCl (ur_v E) [.int x] h (fun r h2 => r = um_code x ∧ h2 = h) 0 0 := by
  intro sz
  refine ur_of (cc := cU_codeOf) (maxL := 2) (ret := (some .int)) (by decide) rfl (Nat.le_of_ble_eq_true rfl) ?_
  intro p e s m args below meth c ls Q hsz hx hb hml hr hlocks hnm hown hts hO hK hI hQ hl
  subst hsz
  have hV := hK.1
  have hts : ∀ w ∈ ur_G, w.before args s = true := fun w hw => hts w (List.mem_cons_of_mem _ hw)
  have hZ : ur_Z E (ur_A h s.heap.size) s s.heap := hO.1
  have hown : s.vm.findClass "UnitRoom" = some m.cls := hown
  have hl : lv_has ls 2 [(0, .int x)] := hl
  refine lv_iload_n hx hb dU_codeOf_0 rfl (lv_at hl 0 rfl) ?_
  refine lv_bipush (v := 97) hx hb dU_codeOf_1 (by decide) ?_
  refine lv_icmp_lt (tgt := 22) hx hb dU_codeOf_3 (by decide) (fun c1 => ?_) (fun c1 => ?_)
  · refine lv_iload_n hx hb dU_codeOf_22 rfl (lv_at hl 0 rfl) ?_
    refine lv_istore_n (lv' := [(1, .int x), (0, .int x)]) hx hb dU_codeOf_23 rfl hl (by decide) rfl (fun ls hl => ?_)
    refine lv_iconst (v := 0) hx hb dU_codeOf_24 (by decide) ?_
    refine va_ldcS hx hb hown hK.2.1.2.2.2.2.2.2.2.2 dU_codeOf_25 ?_
    refine lv_iload_n hx hb dU_codeOf_27 rfl (lv_at hl 0 rfl) ?_
    refine lv_i2c hx hb dU_codeOf_28 rfl ?_
    refine ur_xi (va_runV (As := [.int ((x.toUInt32 % 65536).toInt32)]) (rest := [.int 0]) ⟨hx, hb, hml, hown, hts⟩ (kS_io l D E h ((x.toUInt32 % 65536).toInt32) s.heap.size) (cwV 1 hts (ur_gV mw478 mw479 mw480 mw13 mw481) rfl rfl rfl (by decide +kernel) ⟨(Nat.le_of_ble_eq_true rfl), (Nat.le_of_ble_eq_true rfl)⟩) ⟨ur_blind, ur_recS hZ hI.2.2.1, ur_pre hI hO hK (fun _ _ q => q)⟩ rfl rfl hl.1 rfl (lv_room (Nat.le_of_ble_eq_true rfl)) dU_codeOf_29 ⟨Nat.le_of_ble_eq_true rfl, Nat.le_of_ble_eq_true rfl⟩) hI (fun r2 h2 H locs p2 hI => ?_)
    obtain ⟨er2, eh2⟩ := p2
    replace eh2 := eh2.symm; subst eh2
    replace er2 := er2.symm; subst er2
    refine va_mmax hx hb (hml.trans hl.1.symm) hown (hts _ mw455) (hts _ mw61) (hts _ mw6) (hts _ mw62) (Nat.le_of_ble_eq_true rfl) (Nat.le_of_ble_eq_true rfl) (Nat.le_of_ble_eq_true rfl) (Nat.le_of_ble_eq_true rfl) dU_codeOf_32 ?_
    exact ur_ri hx hb hr hlocks hI hQ ⟨(by first | (simp only [um_code, um_great, c1, ↓reduceIte]; done) | (simp only [um_code, um_great, c1, ↓reduceIte]; rfl) | rfl), rfl⟩ dU_codeOf_35
  · refine lv_iload_n hx hb dU_codeOf_6 rfl (lv_at hl 0 rfl) ?_
    refine lv_bipush (v := 122) hx hb dU_codeOf_7 (by decide) ?_
    refine lv_icmp_gt (tgt := 22) hx hb dU_codeOf_9 (by decide) (fun c3 => ?_) (fun c3 => ?_)
    · refine lv_iload_n hx hb dU_codeOf_22 rfl (lv_at hl 0 rfl) ?_
      refine lv_istore_n (lv' := [(1, .int x), (0, .int x)]) hx hb dU_codeOf_23 rfl hl (by decide) rfl (fun ls hl => ?_)
      refine lv_iconst (v := 0) hx hb dU_codeOf_24 (by decide) ?_
      refine va_ldcS hx hb hown hK.2.1.2.2.2.2.2.2.2.2 dU_codeOf_25 ?_
      refine lv_iload_n hx hb dU_codeOf_27 rfl (lv_at hl 0 rfl) ?_
      refine lv_i2c hx hb dU_codeOf_28 rfl ?_
      refine ur_xi (va_runV (As := [.int ((x.toUInt32 % 65536).toInt32)]) (rest := [.int 0]) ⟨hx, hb, hml, hown, hts⟩ (kS_io l D E h ((x.toUInt32 % 65536).toInt32) s.heap.size) (cwV 1 hts (ur_gV mw478 mw479 mw480 mw13 mw481) rfl rfl rfl (by decide +kernel) ⟨(Nat.le_of_ble_eq_true rfl), (Nat.le_of_ble_eq_true rfl)⟩) ⟨ur_blind, ur_recS hZ hI.2.2.1, ur_pre hI hO hK (fun _ _ q => q)⟩ rfl rfl hl.1 rfl (lv_room (Nat.le_of_ble_eq_true rfl)) dU_codeOf_29 ⟨Nat.le_of_ble_eq_true rfl, Nat.le_of_ble_eq_true rfl⟩) hI (fun r4 h4 H locs p4 hI => ?_)
      obtain ⟨er4, eh4⟩ := p4
      replace eh4 := eh4.symm; subst eh4
      replace er4 := er4.symm; subst er4
      refine va_mmax hx hb (hml.trans hl.1.symm) hown (hts _ mw455) (hts _ mw61) (hts _ mw6) (hts _ mw62) (Nat.le_of_ble_eq_true rfl) (Nat.le_of_ble_eq_true rfl) (Nat.le_of_ble_eq_true rfl) (Nat.le_of_ble_eq_true rfl) dU_codeOf_32 ?_
      exact ur_ri hx hb hr hlocks hI hQ ⟨(by first | (simp only [um_code, um_great, c1, c3, ↓reduceIte]; done) | (simp only [um_code, um_great, c1, c3, ↓reduceIte]; rfl) | rfl), rfl⟩ dU_codeOf_35
    · refine lv_iload_n hx hb dU_codeOf_12 rfl (lv_at hl 0 rfl) ?_
      refine lv_bipush (v := 97) hx hb dU_codeOf_13 (by decide) ?_
      refine lv_isub hx hb dU_codeOf_15 ?_
      refine lv_bipush (v := 65) hx hb dU_codeOf_16 (by decide) ?_
      refine lv_iadd hx hb dU_codeOf_18 ?_
      refine lv_goto (tgt := 23) hx hb dU_codeOf_19 (by decide) ?_
      refine lv_istore_n (lv' := [(1, .int ((x - 97) + 65)), (0, .int x)]) hx hb dU_codeOf_23 rfl hl (by decide) rfl (fun ls hl => ?_)
      refine lv_iconst (v := 0) hx hb dU_codeOf_24 (by decide) ?_
      refine va_ldcS hx hb hown hK.2.1.2.2.2.2.2.2.2.2 dU_codeOf_25 ?_
      refine lv_iload_n hx hb dU_codeOf_27 rfl (lv_at hl 0 rfl) ?_
      refine lv_i2c hx hb dU_codeOf_28 rfl ?_
      refine ur_xi (va_runV (As := [.int ((((x - 97) + 65).toUInt32 % 65536).toInt32)]) (rest := [.int 0]) ⟨hx, hb, hml, hown, hts⟩ (kS_io l D E h ((((x - 97) + 65).toUInt32 % 65536).toInt32) s.heap.size) (cwV 1 hts (ur_gV mw478 mw479 mw480 mw13 mw481) rfl rfl rfl (by decide +kernel) ⟨(Nat.le_of_ble_eq_true rfl), (Nat.le_of_ble_eq_true rfl)⟩) ⟨ur_blind, ur_recS hZ hI.2.2.1, ur_pre hI hO hK (fun _ _ q => q)⟩ rfl rfl hl.1 rfl (lv_room (Nat.le_of_ble_eq_true rfl)) dU_codeOf_29 ⟨Nat.le_of_ble_eq_true rfl, Nat.le_of_ble_eq_true rfl⟩) hI (fun r5 h5 H locs p5 hI => ?_)
      obtain ⟨er5, eh5⟩ := p5
      replace eh5 := eh5.symm; subst eh5
      replace er5 := er5.symm; subst er5
      refine va_mmax hx hb (hml.trans hl.1.symm) hown (hts _ mw455) (hts _ mw61) (hts _ mw6) (hts _ mw62) (Nat.le_of_ble_eq_true rfl) (Nat.le_of_ble_eq_true rfl) (Nat.le_of_ble_eq_true rfl) (Nat.le_of_ble_eq_true rfl) dU_codeOf_32 ?_
      exact ur_ri hx hb hr hlocks hI hQ ⟨(by first | (simp only [um_code, um_great, c1, c3, ↓reduceIte]; done) | (simp only [um_code, um_great, c1, c3, ↓reduceIte]; rfl) | rfl), rfl⟩ dU_codeOf_35
end
section
theorem dN_hasRoom_0 : decode cN_hasRoom 0 = .ok (.aload_n 0, 1) := by decide +kernel
theorem dN_hasRoom_1 : decode cN_hasRoom 1 = .ok (.getfield 13, 3) := by decide +kernel
theorem dN_hasRoom_4 : decode cN_hasRoom 4 = .ok (.aload_n 0, 1) := by decide +kernel
theorem dN_hasRoom_5 : decode cN_hasRoom 5 = .ok (.getfield 7, 3) := by decide +kernel
theorem dN_hasRoom_8 : decode cN_hasRoom 8 = .ok (.arraylength, 1) := by decide +kernel
theorem dN_hasRoom_9 : decode cN_hasRoom 9 = .ok (.bipush 20, 2) := by decide +kernel
theorem dN_hasRoom_11 : decode cN_hasRoom 11 = .ok (.isub, 1) := by decide +kernel
theorem dN_hasRoom_12 : decode cN_hasRoom 12 = .ok (.if_icmp .gt 7, 3) := by decide +kernel
theorem dN_hasRoom_15 : decode cN_hasRoom 15 = .ok (.iconst 1, 1) := by decide +kernel
theorem dN_hasRoom_16 : decode cN_hasRoom 16 = .ok (.goto 4, 3) := by decide +kernel
theorem dN_hasRoom_19 : decode cN_hasRoom 19 = .ok (.iconst 0, 1) := by decide +kernel
theorem dN_hasRoom_20 : decode cN_hasRoom 20 = .ok (.ireturn, 1) := by decide +kernel
abbrev rmkN_hasRoom : Room := { frames := 0, cells := 0, slots := 0, locals := 0 }
set_option maxHeartbeats 4000000 in
set_option maxRecDepth 100000 in
theorem kN_hasRoom (l : Launch) (D : va_G) (E : ur_Ev) (h : ur_M) (q : Nat) (q1 : Nat) (b : Nat → Int32) (x : Int32) (f0 : h q = some (.inr (2, [.ref q1, .int x]))) (f1 : h q1 = some (.inl (E.1 1, 400, .inl b)))  : ur_Mi l yN_hasRoom wsN_hasRoom rmkN_hasRoom D vwCl (ur_v E) [.ref q] h (fun r h2 => r = um_b (um_room x) ∧ h2 = h) 0 0 := by
  intro sz
  refine ur_of (cc := cN_hasRoom) (maxL := 1) (ret := (some .boolean)) (by decide) rfl (Nat.le_of_ble_eq_true rfl) ?_
  intro p e s m args below meth c ls Q hsz hx hb hml hr hlocks hnm hown hts hO hK hI hQ hl
  subst hsz
  have hV := hK.1
  have hts : ∀ w ∈ ur_G, w.before args s = true := fun w hw => hts w (List.mem_cons_of_mem _ hw)
  have hZ : ur_Z E (ur_A h s.heap.size) s s.heap := hO.1
  have hown : s.vm.findClass "UnitRoom$InputTape" = some m.cls := hown
  have hl : lv_has ls 1 [(0, .ref q)] := hl
  refine lv_aload_n hx hb dN_hasRoom_0 rfl (lv_at hl 0 rfl) ?_
  refine va_get (D := D) (ci := 2) (v := .int x) (C := "UnitRoom$InputTape") (T := TN) (N := 2) hx hb hts inN hown hV (ur_one hI.1 f0) 0 rfl rfl 1 (by decide) (hts _ mw44) (fun _ h9 => h9) rfl dN_hasRoom_1 ?_
  refine lv_aload_n hx hb dN_hasRoom_4 rfl (lv_at hl 0 rfl) ?_
  refine va_get (D := D) (ci := 2) (v := .ref q1) (C := "UnitRoom$InputTape") (T := TN) (N := 2) hx hb hts inN hown hV (ur_one hI.1 f0) 0 rfl rfl 0 (by decide) (hts _ mw43) (fun _ h9 => h9) rfl dN_hasRoom_5 ?_
  refine va_alen (v := 400) hx hb hV (ur_one hI.1 f1) 0 1 rfl rfl rfl dN_hasRoom_8 ?_
  refine lv_bipush (v := 20) hx hb dN_hasRoom_9 (by decide) ?_
  refine lv_isub hx hb dN_hasRoom_11 ?_
  refine lv_icmp_gt (tgt := 19) hx hb dN_hasRoom_12 (by decide) (fun c1 => ?_) (fun c1 => ?_)
  · refine lv_iconst (v := 0) hx hb dN_hasRoom_19 (by decide) ?_
    exact ur_rz hx hb hr hlocks hI hQ rfl ⟨(by first | (simp only [um_room, c1, ↓reduceIte]; done) | (simp only [um_room, c1, ↓reduceIte]; rfl) | rfl), rfl⟩ dN_hasRoom_20
  · refine lv_iconst (v := 1) hx hb dN_hasRoom_15 (by decide) ?_
    refine lv_goto (tgt := 20) hx hb dN_hasRoom_16 (by decide) ?_
    exact ur_rz hx hb hr hlocks hI hQ rfl ⟨(by first | (simp only [um_room, c1, ↓reduceIte]; done) | (simp only [um_room, c1, ↓reduceIte]; rfl) | rfl), rfl⟩ dN_hasRoom_20
theorem dN_append_0 : decode cN_append 0 = .ok (.bipush 24, 2) := by decide +kernel
theorem dN_append_2 : decode cN_append 2 = .ok (.istore_n 2, 1) := by decide +kernel
theorem dN_append_3 : decode cN_append 3 = .ok (.iload_n 2, 1) := by decide +kernel
theorem dN_append_4 : decode cN_append 4 = .ok (.ifCond .lt 44, 3) := by decide +kernel
theorem dN_append_7 : decode cN_append 7 = .ok (.aload_n 0, 1) := by decide +kernel
theorem dN_append_8 : decode cN_append 8 = .ok (.getfield 13, 3) := by decide +kernel
theorem dN_append_11 : decode cN_append 11 = .ok (.aload_n 0, 1) := by decide +kernel
theorem dN_append_12 : decode cN_append 12 = .ok (.getfield 7, 3) := by decide +kernel
theorem dN_append_15 : decode cN_append 15 = .ok (.arraylength, 1) := by decide +kernel
theorem dN_append_16 : decode cN_append 16 = .ok (.if_icmp .ge 32, 3) := by decide +kernel
theorem dN_append_19 : decode cN_append 19 = .ok (.aload_n 0, 1) := by decide +kernel
theorem dN_append_20 : decode cN_append 20 = .ok (.getfield 7, 3) := by decide +kernel
theorem dN_append_23 : decode cN_append 23 = .ok (.aload_n 0, 1) := by decide +kernel
theorem dN_append_24 : decode cN_append 24 = .ok (.getfield 13, 3) := by decide +kernel
theorem dN_append_27 : decode cN_append 27 = .ok (.iload_n 1, 1) := by decide +kernel
theorem dN_append_28 : decode cN_append 28 = .ok (.iload_n 2, 1) := by decide +kernel
theorem dN_append_29 : decode cN_append 29 = .ok (.ishr, 1) := by decide +kernel
theorem dN_append_30 : decode cN_append 30 = .ok (.i2b, 1) := by decide +kernel
theorem dN_append_31 : decode cN_append 31 = .ok (.bastore, 1) := by decide +kernel
theorem dN_append_32 : decode cN_append 32 = .ok (.aload_n 0, 1) := by decide +kernel
theorem dN_append_33 : decode cN_append 33 = .ok (.dup, 1) := by decide +kernel
theorem dN_append_34 : decode cN_append 34 = .ok (.getfield 13, 3) := by decide +kernel
theorem dN_append_37 : decode cN_append 37 = .ok (.iconst 1, 1) := by decide +kernel
theorem dN_append_38 : decode cN_append 38 = .ok (.iadd, 1) := by decide +kernel
theorem dN_append_39 : decode cN_append 39 = .ok (.putfield 13, 3) := by decide +kernel
theorem dN_append_42 : decode cN_append 42 = .ok (.iinc 2 (-8), 3) := by decide +kernel
theorem dN_append_45 : decode cN_append 45 = .ok (.goto (-42), 3) := by decide +kernel
theorem dN_append_48 : decode cN_append 48 = .ok (.return_, 1) := by decide +kernel
abbrev rmkN_append : Room := { frames := 0, cells := 0, slots := 0, locals := 0 }
set_option maxHeartbeats 4000000 in
set_option maxRecDepth 100000 in
theorem kN_append (l : Launch) (D : va_G) (E : ur_Ev) (h : ur_M) (q : Nat) (q1 : Nat) (b : Nat → Int32) (n : Nat) (v : Int32) (f0 : h q = some (.inr (2, [.ref q1, .int (nI n)]))) (f1 : h q1 = some (.inl (E.1 1, 400, .inl b))) (hn : n + 4 ≤ 400) : ur_Mv l yN_append wsN_append rmkN_append D vwCl (ur_v E) [.ref q, .int v] h (fun h2 => h2 = va_up (va_up h q1 (some (.inl (E.1 1, 400, .inl (um_app b n v))))) q (some (.inr (2, [.ref q1, .int (nI (n + 1 + 1 + 1 + 1))])))) 0 0 := by
  intro sz
  refine ur_of (cc := cN_append) (maxL := 3) (ret := none) (by decide) rfl (Nat.le_of_ble_eq_true rfl) ?_
  intro p e s m args below meth c ls Q hsz hx hb hml hr hlocks hnm hown hts hO hK hI hQ hl
  subst hsz
  have hV := hK.1
  have hts : ∀ w ∈ ur_G, w.before args s = true := fun w hw => hts w (List.mem_cons_of_mem _ hw)
  have hZ : ur_Z E (ur_A h s.heap.size) s s.heap := hO.1
  have hown : s.vm.findClass "UnitRoom$InputTape" = some m.cls := hown
  have hl : lv_has ls 3 [(0, .ref q), (1, .int v)] := hl
  have hne : q1 ≠ q := ur_ne f1 f0 (by intro z; simp at z)
  refine lv_bipush (v := 24) hx hb dN_append_0 (by decide) ?_
  refine lv_istore_n (lv' := [(2, .int 24), (0, .ref q), (1, .int v)]) hx hb dN_append_2 rfl hl (by decide) rfl (fun ls hl => ?_)
  refine lv_iload_n hx hb dN_append_3 rfl (lv_at hl 0 rfl) ?_
  refine lv_if_lt (tgt := 48) hx hb dN_append_4 (by decide) (fun c1 => absurd c1 (by decide)) (fun c1 => ?_)
  refine lv_aload_n hx hb dN_append_7 rfl (lv_at hl 1 rfl) ?_
  refine va_get (D := D) (ci := 2) (v := .int (nI n)) (C := "UnitRoom$InputTape") (T := TN) (N := 2) hx hb hts inN hown hV (ur_one hI.1 f0) 0 rfl rfl 1 (by decide) (hts _ mw44) (fun _ h9 => h9) rfl dN_append_8 ?_
  refine lv_aload_n hx hb dN_append_11 rfl (lv_at hl 1 rfl) ?_
  refine va_get (D := D) (ci := 2) (v := .ref q1) (C := "UnitRoom$InputTape") (T := TN) (N := 2) hx hb hts inN hown hV (ur_one hI.1 f0) 0 rfl rfl 0 (by decide) (hts _ mw43) (fun _ h9 => h9) rfl dN_append_12 ?_
  refine va_alen (v := 400) hx hb hV (ur_one hI.1 f1) 0 1 rfl rfl rfl dN_append_15 ?_
  refine lv_icmp_ge (tgt := 48) hx hb dN_append_16 (by decide) (fun c2 => absurd c2 (by (try simp only [nI_1]); exact nI_ge (b := 400) (by omega) (by decide))) (fun c2 => ?_)
  refine lv_aload_n hx hb dN_append_19 rfl (lv_at hl 1 rfl) ?_
  refine va_get (D := D) (ci := 2) (v := .ref q1) (C := "UnitRoom$InputTape") (T := TN) (N := 2) hx hb hts inN hown hV (ur_one hI.1 f0) 0 rfl rfl 0 (by decide) (hts _ mw43) (fun _ h9 => h9) rfl dN_append_20 ?_
  refine lv_aload_n hx hb dN_append_23 rfl (lv_at hl 1 rfl) ?_
  refine va_get (D := D) (ci := 2) (v := .int (nI n)) (C := "UnitRoom$InputTape") (T := TN) (N := 2) hx hb hts inN hown hV (ur_one hI.1 f0) 0 rfl rfl 1 (by decide) (hts _ mw44) (fun _ h9 => h9) rfl dN_append_24 ?_
  refine lv_iload_n hx hb dN_append_27 rfl (lv_at hl 2 rfl) ?_
  refine lv_iload_n hx hb dN_append_28 rfl (lv_at hl 0 rfl) ?_
  refine lv_ishr hx hb dN_append_29 ?_
  refine lv_i2b hx hb dN_append_30 rfl ?_
  refine ur_bast hx hb hV hI 1 f1 rfl (by (try simp only [nI_1]); exact vp_in_nI (by omega) (by decide)) dN_append_31 (fun H locs hI => ?_)
  obtain ⟨h3, eh3⟩ : ∃ z : ur_M, z = va_up h q1 (some (.inl (E.1 1, 400, .inl (upd b (Int32.toNatClampNeg (nI n)) (vp_nar .byte ((v >>> ((24 : Int32) &&& 31)).toInt8.toInt32)))))) := ⟨_, rfl⟩
  replace hI : ur_I D vwCl (ur_A h s.heap.size) s.heap h3 H locs := by rw [eh3]; exact hI
  have q4 : h3 q = some (.inr (2, [.ref q1, .int (nI n)])) := by rw [eh3]; exact ((va_up_ne _ _ (Ne.symm hne)).trans f0)
  have q5 : h3 q1 = some (.inl (E.1 1, 400, .inl (upd b (Int32.toNatClampNeg (nI n)) (vp_nar .byte ((v >>> ((24 : Int32) &&& 31)).toInt8.toInt32))))) := by rw [eh3]; exact (va_up_self _ _ _)
  refine lv_aload_n hx hb dN_append_32 rfl (lv_at hl 1 rfl) ?_
  refine lv_dup hx hb dN_append_33 rfl ?_
  refine va_get (D := D) (ci := 2) (v := .int (nI n)) (C := "UnitRoom$InputTape") (T := TN) (N := 2) hx hb hts inN hown hV (ur_one hI.1 q4) 0 rfl rfl 1 (by decide) (hts _ mw44) (fun _ h9 => h9) rfl dN_append_34 ?_
  refine lv_iconst (v := 1) hx hb dN_append_37 (by decide) ?_
  refine lv_iadd hx hb dN_append_38 ?_
  refine ur_put (D := D) (ci := 2) (v := .int ((nI n) + 1)) (ty := .int) (C := "UnitRoom$InputTape") (T := TN) (N := 2) hx hb hts inN tyN tyN_ok nmN hown hV hI q4 rfl 1 (by decide) (hts _ mw44) (fun _ h9 => h9) rfl (by decide +kernel) rfl rfl (Nat.le_of_ble_eq_true rfl) dN_append_39 (fun H locs hI => ?_)
  obtain ⟨h6, eh6⟩ : ∃ z : ur_M, z = va_up h3 q (some (.inr (2, [.ref q1, .int ((nI n) + 1)]))) := ⟨_, rfl⟩
  replace hI : ur_I D vwCl (ur_A h s.heap.size) s.heap h6 H locs := by rw [eh6]; exact hI
  have q7 : h6 q = some (.inr (2, [.ref q1, .int ((nI n) + 1)])) := by rw [eh6]; exact (va_up_self _ _ _)
  have q8 : h6 q1 = some (.inl (E.1 1, 400, .inl (upd b (Int32.toNatClampNeg (nI n)) (vp_nar .byte ((v >>> ((24 : Int32) &&& 31)).toInt8.toInt32))))) := by rw [eh6]; exact ((va_up_ne _ _ hne).trans q5)
  refine lv_iinc (v := 16) (lv' := [(2, .int 16), (0, .ref q), (1, .int v)]) hx hb dN_append_42 hl (k := 0) rfl (by decide) (by decide) rfl (fun ls hl => ?_)
  refine lv_goto (tgt := 3) hx hb dN_append_45 (by decide) ?_
  refine lv_iload_n hx hb dN_append_3 rfl (lv_at hl 0 rfl) ?_
  refine lv_if_lt (tgt := 48) hx hb dN_append_4 (by decide) (fun c9 => absurd c9 (by decide)) (fun c9 => ?_)
  refine lv_aload_n hx hb dN_append_7 rfl (lv_at hl 1 rfl) ?_
  refine va_get (D := D) (ci := 2) (v := .int ((nI n) + 1)) (C := "UnitRoom$InputTape") (T := TN) (N := 2) hx hb hts inN hown hV (ur_one hI.1 q7) 0 rfl rfl 1 (by decide) (hts _ mw44) (fun _ h9 => h9) rfl dN_append_8 ?_
  refine lv_aload_n hx hb dN_append_11 rfl (lv_at hl 1 rfl) ?_
  refine va_get (D := D) (ci := 2) (v := .ref q1) (C := "UnitRoom$InputTape") (T := TN) (N := 2) hx hb hts inN hown hV (ur_one hI.1 q7) 0 rfl rfl 0 (by decide) (hts _ mw43) (fun _ h9 => h9) rfl dN_append_12 ?_
  refine va_alen (v := 400) hx hb hV (ur_one hI.1 q8) 0 1 rfl rfl rfl dN_append_15 ?_
  refine lv_icmp_ge (tgt := 48) hx hb dN_append_16 (by decide) (fun c10 => absurd c10 (by (try simp only [nI_1]); exact nI_ge (b := 400) (by omega) (by decide))) (fun c10 => ?_)
  refine lv_aload_n hx hb dN_append_19 rfl (lv_at hl 1 rfl) ?_
  refine va_get (D := D) (ci := 2) (v := .ref q1) (C := "UnitRoom$InputTape") (T := TN) (N := 2) hx hb hts inN hown hV (ur_one hI.1 q7) 0 rfl rfl 0 (by decide) (hts _ mw43) (fun _ h9 => h9) rfl dN_append_20 ?_
  refine lv_aload_n hx hb dN_append_23 rfl (lv_at hl 1 rfl) ?_
  refine va_get (D := D) (ci := 2) (v := .int ((nI n) + 1)) (C := "UnitRoom$InputTape") (T := TN) (N := 2) hx hb hts inN hown hV (ur_one hI.1 q7) 0 rfl rfl 1 (by decide) (hts _ mw44) (fun _ h9 => h9) rfl dN_append_24 ?_
  refine lv_iload_n hx hb dN_append_27 rfl (lv_at hl 2 rfl) ?_
  refine lv_iload_n hx hb dN_append_28 rfl (lv_at hl 0 rfl) ?_
  refine lv_ishr hx hb dN_append_29 ?_
  refine lv_i2b hx hb dN_append_30 rfl ?_
  refine ur_bast hx hb hV hI 1 q8 rfl (by (try simp only [nI_1]); exact vp_in_nI (by omega) (by decide)) dN_append_31 (fun H locs hI => ?_)
  obtain ⟨h11, eh11⟩ : ∃ z : ur_M, z = va_up h6 q1 (some (.inl (E.1 1, 400, .inl (upd (upd b (Int32.toNatClampNeg (nI n)) (vp_nar .byte ((v >>> ((24 : Int32) &&& 31)).toInt8.toInt32))) (Int32.toNatClampNeg ((nI n) + 1)) (vp_nar .byte ((v >>> ((16 : Int32) &&& 31)).toInt8.toInt32)))))) := ⟨_, rfl⟩
  replace hI : ur_I D vwCl (ur_A h s.heap.size) s.heap h11 H locs := by rw [eh11]; exact hI
  have q12 : h11 q = some (.inr (2, [.ref q1, .int ((nI n) + 1)])) := by rw [eh11]; exact ((va_up_ne _ _ (Ne.symm hne)).trans q7)
  have q13 : h11 q1 = some (.inl (E.1 1, 400, .inl (upd (upd b (Int32.toNatClampNeg (nI n)) (vp_nar .byte ((v >>> ((24 : Int32) &&& 31)).toInt8.toInt32))) (Int32.toNatClampNeg ((nI n) + 1)) (vp_nar .byte ((v >>> ((16 : Int32) &&& 31)).toInt8.toInt32))))) := by rw [eh11]; exact (va_up_self _ _ _)
  refine lv_aload_n hx hb dN_append_32 rfl (lv_at hl 1 rfl) ?_
  refine lv_dup hx hb dN_append_33 rfl ?_
  refine va_get (D := D) (ci := 2) (v := .int ((nI n) + 1)) (C := "UnitRoom$InputTape") (T := TN) (N := 2) hx hb hts inN hown hV (ur_one hI.1 q12) 0 rfl rfl 1 (by decide) (hts _ mw44) (fun _ h9 => h9) rfl dN_append_34 ?_
  refine lv_iconst (v := 1) hx hb dN_append_37 (by decide) ?_
  refine lv_iadd hx hb dN_append_38 ?_
  refine ur_put (D := D) (ci := 2) (v := .int (((nI n) + 1) + 1)) (ty := .int) (C := "UnitRoom$InputTape") (T := TN) (N := 2) hx hb hts inN tyN tyN_ok nmN hown hV hI q12 rfl 1 (by decide) (hts _ mw44) (fun _ h9 => h9) rfl (by decide +kernel) rfl rfl (Nat.le_of_ble_eq_true rfl) dN_append_39 (fun H locs hI => ?_)
  obtain ⟨h14, eh14⟩ : ∃ z : ur_M, z = va_up h11 q (some (.inr (2, [.ref q1, .int (((nI n) + 1) + 1)]))) := ⟨_, rfl⟩
  replace hI : ur_I D vwCl (ur_A h s.heap.size) s.heap h14 H locs := by rw [eh14]; exact hI
  have q15 : h14 q = some (.inr (2, [.ref q1, .int (((nI n) + 1) + 1)])) := by rw [eh14]; exact (va_up_self _ _ _)
  have q16 : h14 q1 = some (.inl (E.1 1, 400, .inl (upd (upd b (Int32.toNatClampNeg (nI n)) (vp_nar .byte ((v >>> ((24 : Int32) &&& 31)).toInt8.toInt32))) (Int32.toNatClampNeg ((nI n) + 1)) (vp_nar .byte ((v >>> ((16 : Int32) &&& 31)).toInt8.toInt32))))) := by rw [eh14]; exact ((va_up_ne _ _ hne).trans q13)
  refine lv_iinc (v := 8) (lv' := [(2, .int 8), (0, .ref q), (1, .int v)]) hx hb dN_append_42 hl (k := 0) rfl (by decide) (by decide) rfl (fun ls hl => ?_)
  refine lv_goto (tgt := 3) hx hb dN_append_45 (by decide) ?_
  refine lv_iload_n hx hb dN_append_3 rfl (lv_at hl 0 rfl) ?_
  refine lv_if_lt (tgt := 48) hx hb dN_append_4 (by decide) (fun c17 => absurd c17 (by decide)) (fun c17 => ?_)
  refine lv_aload_n hx hb dN_append_7 rfl (lv_at hl 1 rfl) ?_
  refine va_get (D := D) (ci := 2) (v := .int (((nI n) + 1) + 1)) (C := "UnitRoom$InputTape") (T := TN) (N := 2) hx hb hts inN hown hV (ur_one hI.1 q15) 0 rfl rfl 1 (by decide) (hts _ mw44) (fun _ h9 => h9) rfl dN_append_8 ?_
  refine lv_aload_n hx hb dN_append_11 rfl (lv_at hl 1 rfl) ?_
  refine va_get (D := D) (ci := 2) (v := .ref q1) (C := "UnitRoom$InputTape") (T := TN) (N := 2) hx hb hts inN hown hV (ur_one hI.1 q15) 0 rfl rfl 0 (by decide) (hts _ mw43) (fun _ h9 => h9) rfl dN_append_12 ?_
  refine va_alen (v := 400) hx hb hV (ur_one hI.1 q16) 0 1 rfl rfl rfl dN_append_15 ?_
  refine lv_icmp_ge (tgt := 48) hx hb dN_append_16 (by decide) (fun c18 => absurd c18 (by (try simp only [nI_1]); exact nI_ge (b := 400) (by omega) (by decide))) (fun c18 => ?_)
  refine lv_aload_n hx hb dN_append_19 rfl (lv_at hl 1 rfl) ?_
  refine va_get (D := D) (ci := 2) (v := .ref q1) (C := "UnitRoom$InputTape") (T := TN) (N := 2) hx hb hts inN hown hV (ur_one hI.1 q15) 0 rfl rfl 0 (by decide) (hts _ mw43) (fun _ h9 => h9) rfl dN_append_20 ?_
  refine lv_aload_n hx hb dN_append_23 rfl (lv_at hl 1 rfl) ?_
  refine va_get (D := D) (ci := 2) (v := .int (((nI n) + 1) + 1)) (C := "UnitRoom$InputTape") (T := TN) (N := 2) hx hb hts inN hown hV (ur_one hI.1 q15) 0 rfl rfl 1 (by decide) (hts _ mw44) (fun _ h9 => h9) rfl dN_append_24 ?_
  refine lv_iload_n hx hb dN_append_27 rfl (lv_at hl 2 rfl) ?_
  refine lv_iload_n hx hb dN_append_28 rfl (lv_at hl 0 rfl) ?_
  refine lv_ishr hx hb dN_append_29 ?_
  refine lv_i2b hx hb dN_append_30 rfl ?_
  refine ur_bast hx hb hV hI 1 q16 rfl (by (try simp only [nI_1]); exact vp_in_nI (by omega) (by decide)) dN_append_31 (fun H locs hI => ?_)
  obtain ⟨h19, eh19⟩ : ∃ z : ur_M, z = va_up h14 q1 (some (.inl (E.1 1, 400, .inl (upd (upd (upd b (Int32.toNatClampNeg (nI n)) (vp_nar .byte ((v >>> ((24 : Int32) &&& 31)).toInt8.toInt32))) (Int32.toNatClampNeg ((nI n) + 1)) (vp_nar .byte ((v >>> ((16 : Int32) &&& 31)).toInt8.toInt32))) (Int32.toNatClampNeg (((nI n) + 1) + 1)) (vp_nar .byte ((v >>> ((8 : Int32) &&& 31)).toInt8.toInt32)))))) := ⟨_, rfl⟩
  replace hI : ur_I D vwCl (ur_A h s.heap.size) s.heap h19 H locs := by rw [eh19]; exact hI
  have q20 : h19 q = some (.inr (2, [.ref q1, .int (((nI n) + 1) + 1)])) := by rw [eh19]; exact ((va_up_ne _ _ (Ne.symm hne)).trans q15)
  have q21 : h19 q1 = some (.inl (E.1 1, 400, .inl (upd (upd (upd b (Int32.toNatClampNeg (nI n)) (vp_nar .byte ((v >>> ((24 : Int32) &&& 31)).toInt8.toInt32))) (Int32.toNatClampNeg ((nI n) + 1)) (vp_nar .byte ((v >>> ((16 : Int32) &&& 31)).toInt8.toInt32))) (Int32.toNatClampNeg (((nI n) + 1) + 1)) (vp_nar .byte ((v >>> ((8 : Int32) &&& 31)).toInt8.toInt32))))) := by rw [eh19]; exact (va_up_self _ _ _)
  refine lv_aload_n hx hb dN_append_32 rfl (lv_at hl 1 rfl) ?_
  refine lv_dup hx hb dN_append_33 rfl ?_
  refine va_get (D := D) (ci := 2) (v := .int (((nI n) + 1) + 1)) (C := "UnitRoom$InputTape") (T := TN) (N := 2) hx hb hts inN hown hV (ur_one hI.1 q20) 0 rfl rfl 1 (by decide) (hts _ mw44) (fun _ h9 => h9) rfl dN_append_34 ?_
  refine lv_iconst (v := 1) hx hb dN_append_37 (by decide) ?_
  refine lv_iadd hx hb dN_append_38 ?_
  refine ur_put (D := D) (ci := 2) (v := .int ((((nI n) + 1) + 1) + 1)) (ty := .int) (C := "UnitRoom$InputTape") (T := TN) (N := 2) hx hb hts inN tyN tyN_ok nmN hown hV hI q20 rfl 1 (by decide) (hts _ mw44) (fun _ h9 => h9) rfl (by decide +kernel) rfl rfl (Nat.le_of_ble_eq_true rfl) dN_append_39 (fun H locs hI => ?_)
  obtain ⟨h22, eh22⟩ : ∃ z : ur_M, z = va_up h19 q (some (.inr (2, [.ref q1, .int ((((nI n) + 1) + 1) + 1)]))) := ⟨_, rfl⟩
  replace hI : ur_I D vwCl (ur_A h s.heap.size) s.heap h22 H locs := by rw [eh22]; exact hI
  have q23 : h22 q = some (.inr (2, [.ref q1, .int ((((nI n) + 1) + 1) + 1)])) := by rw [eh22]; exact (va_up_self _ _ _)
  have q24 : h22 q1 = some (.inl (E.1 1, 400, .inl (upd (upd (upd b (Int32.toNatClampNeg (nI n)) (vp_nar .byte ((v >>> ((24 : Int32) &&& 31)).toInt8.toInt32))) (Int32.toNatClampNeg ((nI n) + 1)) (vp_nar .byte ((v >>> ((16 : Int32) &&& 31)).toInt8.toInt32))) (Int32.toNatClampNeg (((nI n) + 1) + 1)) (vp_nar .byte ((v >>> ((8 : Int32) &&& 31)).toInt8.toInt32))))) := by rw [eh22]; exact ((va_up_ne _ _ hne).trans q21)
  refine lv_iinc (v := 0) (lv' := [(2, .int 0), (0, .ref q), (1, .int v)]) hx hb dN_append_42 hl (k := 0) rfl (by decide) (by decide) rfl (fun ls hl => ?_)
  refine lv_goto (tgt := 3) hx hb dN_append_45 (by decide) ?_
  refine lv_iload_n hx hb dN_append_3 rfl (lv_at hl 0 rfl) ?_
  refine lv_if_lt (tgt := 48) hx hb dN_append_4 (by decide) (fun c25 => absurd c25 (by decide)) (fun c25 => ?_)
  refine lv_aload_n hx hb dN_append_7 rfl (lv_at hl 1 rfl) ?_
  refine va_get (D := D) (ci := 2) (v := .int ((((nI n) + 1) + 1) + 1)) (C := "UnitRoom$InputTape") (T := TN) (N := 2) hx hb hts inN hown hV (ur_one hI.1 q23) 0 rfl rfl 1 (by decide) (hts _ mw44) (fun _ h9 => h9) rfl dN_append_8 ?_
  refine lv_aload_n hx hb dN_append_11 rfl (lv_at hl 1 rfl) ?_
  refine va_get (D := D) (ci := 2) (v := .ref q1) (C := "UnitRoom$InputTape") (T := TN) (N := 2) hx hb hts inN hown hV (ur_one hI.1 q23) 0 rfl rfl 0 (by decide) (hts _ mw43) (fun _ h9 => h9) rfl dN_append_12 ?_
  refine va_alen (v := 400) hx hb hV (ur_one hI.1 q24) 0 1 rfl rfl rfl dN_append_15 ?_
  refine lv_icmp_ge (tgt := 48) hx hb dN_append_16 (by decide) (fun c26 => absurd c26 (by (try simp only [nI_1]); exact nI_ge (b := 400) (by omega) (by decide))) (fun c26 => ?_)
  refine lv_aload_n hx hb dN_append_19 rfl (lv_at hl 1 rfl) ?_
  refine va_get (D := D) (ci := 2) (v := .ref q1) (C := "UnitRoom$InputTape") (T := TN) (N := 2) hx hb hts inN hown hV (ur_one hI.1 q23) 0 rfl rfl 0 (by decide) (hts _ mw43) (fun _ h9 => h9) rfl dN_append_20 ?_
  refine lv_aload_n hx hb dN_append_23 rfl (lv_at hl 1 rfl) ?_
  refine va_get (D := D) (ci := 2) (v := .int ((((nI n) + 1) + 1) + 1)) (C := "UnitRoom$InputTape") (T := TN) (N := 2) hx hb hts inN hown hV (ur_one hI.1 q23) 0 rfl rfl 1 (by decide) (hts _ mw44) (fun _ h9 => h9) rfl dN_append_24 ?_
  refine lv_iload_n hx hb dN_append_27 rfl (lv_at hl 2 rfl) ?_
  refine lv_iload_n hx hb dN_append_28 rfl (lv_at hl 0 rfl) ?_
  refine lv_ishr hx hb dN_append_29 ?_
  refine lv_i2b hx hb dN_append_30 rfl ?_
  refine ur_bast hx hb hV hI 1 q24 rfl (by (try simp only [nI_1]); exact vp_in_nI (by omega) (by decide)) dN_append_31 (fun H locs hI => ?_)
  obtain ⟨h27, eh27⟩ : ∃ z : ur_M, z = va_up h22 q1 (some (.inl (E.1 1, 400, .inl (upd (upd (upd (upd b (Int32.toNatClampNeg (nI n)) (vp_nar .byte ((v >>> ((24 : Int32) &&& 31)).toInt8.toInt32))) (Int32.toNatClampNeg ((nI n) + 1)) (vp_nar .byte ((v >>> ((16 : Int32) &&& 31)).toInt8.toInt32))) (Int32.toNatClampNeg (((nI n) + 1) + 1)) (vp_nar .byte ((v >>> ((8 : Int32) &&& 31)).toInt8.toInt32))) (Int32.toNatClampNeg ((((nI n) + 1) + 1) + 1)) (vp_nar .byte ((v >>> ((0 : Int32) &&& 31)).toInt8.toInt32)))))) := ⟨_, rfl⟩
  replace hI : ur_I D vwCl (ur_A h s.heap.size) s.heap h27 H locs := by rw [eh27]; exact hI
  have q28 : h27 q = some (.inr (2, [.ref q1, .int ((((nI n) + 1) + 1) + 1)])) := by rw [eh27]; exact ((va_up_ne _ _ (Ne.symm hne)).trans q23)
  have q29 : h27 q1 = some (.inl (E.1 1, 400, .inl (upd (upd (upd (upd b (Int32.toNatClampNeg (nI n)) (vp_nar .byte ((v >>> ((24 : Int32) &&& 31)).toInt8.toInt32))) (Int32.toNatClampNeg ((nI n) + 1)) (vp_nar .byte ((v >>> ((16 : Int32) &&& 31)).toInt8.toInt32))) (Int32.toNatClampNeg (((nI n) + 1) + 1)) (vp_nar .byte ((v >>> ((8 : Int32) &&& 31)).toInt8.toInt32))) (Int32.toNatClampNeg ((((nI n) + 1) + 1) + 1)) (vp_nar .byte ((v >>> ((0 : Int32) &&& 31)).toInt8.toInt32))))) := by rw [eh27]; exact (va_up_self _ _ _)
  refine lv_aload_n hx hb dN_append_32 rfl (lv_at hl 1 rfl) ?_
  refine lv_dup hx hb dN_append_33 rfl ?_
  refine va_get (D := D) (ci := 2) (v := .int ((((nI n) + 1) + 1) + 1)) (C := "UnitRoom$InputTape") (T := TN) (N := 2) hx hb hts inN hown hV (ur_one hI.1 q28) 0 rfl rfl 1 (by decide) (hts _ mw44) (fun _ h9 => h9) rfl dN_append_34 ?_
  refine lv_iconst (v := 1) hx hb dN_append_37 (by decide) ?_
  refine lv_iadd hx hb dN_append_38 ?_
  refine ur_put (D := D) (ci := 2) (v := .int (((((nI n) + 1) + 1) + 1) + 1)) (ty := .int) (C := "UnitRoom$InputTape") (T := TN) (N := 2) hx hb hts inN tyN tyN_ok nmN hown hV hI q28 rfl 1 (by decide) (hts _ mw44) (fun _ h9 => h9) rfl (by decide +kernel) rfl rfl (Nat.le_of_ble_eq_true rfl) dN_append_39 (fun H locs hI => ?_)
  obtain ⟨h30, eh30⟩ : ∃ z : ur_M, z = va_up h27 q (some (.inr (2, [.ref q1, .int (((((nI n) + 1) + 1) + 1) + 1)]))) := ⟨_, rfl⟩
  replace hI : ur_I D vwCl (ur_A h s.heap.size) s.heap h30 H locs := by rw [eh30]; exact hI
  have q31 : h30 q = some (.inr (2, [.ref q1, .int (((((nI n) + 1) + 1) + 1) + 1)])) := by rw [eh30]; exact (va_up_self _ _ _)
  have q32 : h30 q1 = some (.inl (E.1 1, 400, .inl (upd (upd (upd (upd b (Int32.toNatClampNeg (nI n)) (vp_nar .byte ((v >>> ((24 : Int32) &&& 31)).toInt8.toInt32))) (Int32.toNatClampNeg ((nI n) + 1)) (vp_nar .byte ((v >>> ((16 : Int32) &&& 31)).toInt8.toInt32))) (Int32.toNatClampNeg (((nI n) + 1) + 1)) (vp_nar .byte ((v >>> ((8 : Int32) &&& 31)).toInt8.toInt32))) (Int32.toNatClampNeg ((((nI n) + 1) + 1) + 1)) (vp_nar .byte ((v >>> ((0 : Int32) &&& 31)).toInt8.toInt32))))) := by rw [eh30]; exact ((va_up_ne _ _ hne).trans q29)
  refine lv_iinc (v := (-8)) (lv' := [(2, .int (-8)), (0, .ref q), (1, .int v)]) hx hb dN_append_42 hl (k := 0) rfl (by decide) (by decide) rfl (fun ls hl => ?_)
  refine lv_goto (tgt := 3) hx hb dN_append_45 (by decide) ?_
  refine lv_iload_n hx hb dN_append_3 rfl (lv_at hl 0 rfl) ?_
  refine lv_if_lt (tgt := 48) hx hb dN_append_4 (by decide) (fun c33 => ?_) (fun c33 => absurd c33 (by decide))
  exact ur_rv hx hb hr hlocks hI hQ (by rw [eh30, eh27, eh22, eh19, eh14, eh11, eh6, eh3, ur_alt hne, ur_alt hne, ur_alt hne]; simp only [nI_1, nI_clamp (show n < 2 ^ 31 by omega), nI_clamp (show n + 1 < 2 ^ 31 by omega), nI_clamp (show n + 1 + 1 < 2 ^ 31 by omega), nI_clamp (show n + 1 + 1 + 1 < 2 ^ 31 by omega)]; rfl) dN_append_48
theorem dN_cut_0 : decode cN_cut 0 = .ok (.iload_n 1, 1) := by decide +kernel
theorem dN_cut_1 : decode cN_cut 1 = .ok (.ifCond .lt 11, 3) := by decide +kernel
theorem dN_cut_4 : decode cN_cut 4 = .ok (.iload_n 1, 1) := by decide +kernel
theorem dN_cut_5 : decode cN_cut 5 = .ok (.aload_n 0, 1) := by decide +kernel
theorem dN_cut_6 : decode cN_cut 6 = .ok (.getfield 13, 3) := by decide +kernel
theorem dN_cut_9 : decode cN_cut 9 = .ok (.if_icmp .le 5, 3) := by decide +kernel
theorem dN_cut_12 : decode cN_cut 12 = .ok (.iconst 0, 1) := by decide +kernel
theorem dN_cut_13 : decode cN_cut 13 = .ok (.ireturn, 1) := by decide +kernel
theorem dN_cut_14 : decode cN_cut 14 = .ok (.aload_n 0, 1) := by decide +kernel
theorem dN_cut_15 : decode cN_cut 15 = .ok (.iload_n 1, 1) := by decide +kernel
theorem dN_cut_16 : decode cN_cut 16 = .ok (.putfield 13, 3) := by decide +kernel
theorem dN_cut_19 : decode cN_cut 19 = .ok (.iconst 1, 1) := by decide +kernel
theorem dN_cut_20 : decode cN_cut 20 = .ok (.ireturn, 1) := by decide +kernel
abbrev rmkN_cut : Room := { frames := 0, cells := 0, slots := 0, locals := 0 }
set_option maxHeartbeats 4000000 in
set_option maxRecDepth 100000 in
theorem kN_cut (l : Launch) (D : va_G) (E : ur_Ev) (h : ur_M) (q : Nat) (q1 : Nat) (x : Int32) (n : Int32) (f0 : h q = some (.inr (2, [.ref q1, .int x])))  : ur_Mi l yN_cut wsN_cut rmkN_cut D vwCl (ur_v E) [.ref q, .int n] h (fun r h2 => r = um_b (um_cutok x n) ∧ h2 = va_up h q (some (.inr (2, [.ref q1, .int (um_cutn x n)])))) 0 0 := by
  intro sz
  refine ur_of (cc := cN_cut) (maxL := 2) (ret := (some .boolean)) (by decide) rfl (Nat.le_of_ble_eq_true rfl) ?_
  intro p e s m args below meth c ls Q hsz hx hb hml hr hlocks hnm hown hts hO hK hI hQ hl
  subst hsz
  have hV := hK.1
  have hts : ∀ w ∈ ur_G, w.before args s = true := fun w hw => hts w (List.mem_cons_of_mem _ hw)
  have hZ : ur_Z E (ur_A h s.heap.size) s s.heap := hO.1
  have hown : s.vm.findClass "UnitRoom$InputTape" = some m.cls := hown
  have hl : lv_has ls 2 [(0, .ref q), (1, .int n)] := hl
  refine lv_iload_n hx hb dN_cut_0 rfl (lv_at hl 1 rfl) ?_
  refine lv_if_lt (tgt := 12) hx hb dN_cut_1 (by decide) (fun c1 => ?_) (fun c1 => ?_)
  · refine lv_iconst (v := 0) hx hb dN_cut_12 (by decide) ?_
    exact ur_rz hx hb hr hlocks hI hQ rfl ⟨(by simp only [um_cutok, c1, ↓reduceIte]; rfl), (by rw [show um_cutn x n = x by simp only [um_cutn, c1, ↓reduceIte]]; exact (ur_same f0).symm)⟩ dN_cut_13
  · refine lv_iload_n hx hb dN_cut_4 rfl (lv_at hl 1 rfl) ?_
    refine lv_aload_n hx hb dN_cut_5 rfl (lv_at hl 0 rfl) ?_
    refine va_get (D := D) (ci := 2) (v := .int x) (C := "UnitRoom$InputTape") (T := TN) (N := 2) hx hb hts inN hown hV (ur_one hI.1 f0) 0 rfl rfl 1 (by decide) (hts _ mw44) (fun _ h9 => h9) rfl dN_cut_6 ?_
    refine lv_icmp_le (tgt := 14) hx hb dN_cut_9 (by decide) (fun c2 => ?_) (fun c2 => ?_)
    · refine lv_aload_n hx hb dN_cut_14 rfl (lv_at hl 0 rfl) ?_
      refine lv_iload_n hx hb dN_cut_15 rfl (lv_at hl 1 rfl) ?_
      refine ur_put (D := D) (ci := 2) (v := .int n) (ty := .int) (C := "UnitRoom$InputTape") (T := TN) (N := 2) hx hb hts inN tyN tyN_ok nmN hown hV hI f0 rfl 1 (by decide) (hts _ mw44) (fun _ h9 => h9) rfl (by decide +kernel) rfl rfl (Nat.le_of_ble_eq_true rfl) dN_cut_16 (fun H locs hI => ?_)
      obtain ⟨h3, eh3⟩ : ∃ z : ur_M, z = va_up h q (some (.inr (2, [.ref q1, .int n]))) := ⟨_, rfl⟩
      replace hI : ur_I D vwCl (ur_A h s.heap.size) s.heap h3 H locs := by rw [eh3]; exact hI
      have q4 : h3 q = some (.inr (2, [.ref q1, .int n])) := by rw [eh3]; exact (va_up_self _ _ _)
      refine lv_iconst (v := 1) hx hb dN_cut_19 (by decide) ?_
      exact ur_rz hx hb hr hlocks hI hQ rfl ⟨(by simp only [um_cutok, c1, c2, ↓reduceIte]; rfl), (by rw [show um_cutn x n = n by simp only [um_cutn, c1, c2, ↓reduceIte], eh3])⟩ dN_cut_20
    · refine lv_iconst (v := 0) hx hb dN_cut_12 (by decide) ?_
      exact ur_rz hx hb hr hlocks hI hQ rfl ⟨(by simp only [um_cutok, c1, c2, ↓reduceIte]; rfl), (by rw [show um_cutn x n = x by simp only [um_cutn, c1, c2, ↓reduceIte]]; exact (ur_same f0).symm)⟩ dN_cut_13
theorem um_in400 {x : Int32} {n : Nat} (h0 : ¬ x < 0) (h1 : x < nI n) (hn : n ≤ 400) : vp_in x 400 := by
  obtain ⟨j, hj, rfl⟩ := nI_of h0
  exact vp_in_nI (Nat.lt_of_lt_of_le ((nI_ltI hj (by omega)).mp h1) hn) (by decide)
theorem dN_codeAt_0 : decode cN_codeAt 0 = .ok (.iload_n 1, 1) := by decide +kernel
theorem dN_codeAt_1 : decode cN_codeAt 1 = .ok (.ifCond .lt 11, 3) := by decide +kernel
theorem dN_codeAt_4 : decode cN_codeAt 4 = .ok (.iload_n 1, 1) := by decide +kernel
theorem dN_codeAt_5 : decode cN_codeAt 5 = .ok (.aload_n 0, 1) := by decide +kernel
theorem dN_codeAt_6 : decode cN_codeAt 6 = .ok (.getfield 13, 3) := by decide +kernel
theorem dN_codeAt_9 : decode cN_codeAt 9 = .ok (.if_icmp .lt 7, 3) := by decide +kernel
theorem dN_codeAt_12 : decode cN_codeAt 12 = .ok (.iconst 0, 1) := by decide +kernel
theorem dN_codeAt_13 : decode cN_codeAt 13 = .ok (.goto 16, 3) := by decide +kernel
theorem dN_codeAt_16 : decode cN_codeAt 16 = .ok (.aload_n 0, 1) := by decide +kernel
theorem dN_codeAt_17 : decode cN_codeAt 17 = .ok (.getfield 7, 3) := by decide +kernel
theorem dN_codeAt_20 : decode cN_codeAt 20 = .ok (.iload_n 1, 1) := by decide +kernel
theorem dN_codeAt_21 : decode cN_codeAt 21 = .ok (.baload, 1) := by decide +kernel
theorem dN_codeAt_22 : decode cN_codeAt 22 = .ok (.sipush 255, 3) := by decide +kernel
theorem dN_codeAt_25 : decode cN_codeAt 25 = .ok (.iand, 1) := by decide +kernel
theorem dN_codeAt_26 : decode cN_codeAt 26 = .ok (.invokestatic 17, 3) := by decide +kernel
theorem dN_codeAt_29 : decode cN_codeAt 29 = .ok (.ireturn, 1) := by decide +kernel
abbrev rmkN_codeAt : Room := { frames := 5, cells := 0, slots := 0, locals := 112 }
set_option maxHeartbeats 4000000 in
set_option maxRecDepth 100000 in
theorem kN_codeAt (l : Launch) (D : va_G) (E : ur_Ev) (h : ur_M) (q : Nat) (q1 : Nat) (b : Nat → Int32) (n : Nat) (i : Int32) (f0 : h q = some (.inr (2, [.ref q1, .int (nI n)]))) (f1 : h q1 = some (.inl (E.1 1, 400, .inl b))) (hn : n ≤ 400) : ur_Mi l yN_codeAt wsN_codeAt rmkN_codeAt D vwCl (ur_v E) [.ref q, .int i] h (fun r h2 => r = um_cAt b n i ∧ h2 = h) 0 0 := by
  intro sz
  refine ur_of (cc := cN_codeAt) (maxL := 2) (ret := (some .int)) (by decide) rfl (Nat.le_of_ble_eq_true rfl) ?_
  intro p e s m args below meth c ls Q hsz hx hb hml hr hlocks hnm hown hts hO hK hI hQ hl
  subst hsz
  have hV := hK.1
  have hts : ∀ w ∈ ur_G, w.before args s = true := fun w hw => hts w (List.mem_cons_of_mem _ hw)
  have hZ : ur_Z E (ur_A h s.heap.size) s s.heap := hO.1
  have hown : s.vm.findClass "UnitRoom$InputTape" = some m.cls := hown
  have hl : lv_has ls 2 [(0, .ref q), (1, .int i)] := hl
  refine lv_iload_n hx hb dN_codeAt_0 rfl (lv_at hl 1 rfl) ?_
  refine lv_if_lt (tgt := 12) hx hb dN_codeAt_1 (by decide) (fun c1 => ?_) (fun c1 => ?_)
  · refine lv_iconst (v := 0) hx hb dN_codeAt_12 (by decide) ?_
    refine lv_goto (tgt := 29) hx hb dN_codeAt_13 (by decide) ?_
    exact ur_ri hx hb hr hlocks hI hQ ⟨(by first | (simp only [um_cAt, c1, ↓reduceIte]; done) | (simp only [um_cAt, c1, ↓reduceIte]; rfl) | rfl), rfl⟩ dN_codeAt_29
  · refine lv_iload_n hx hb dN_codeAt_4 rfl (lv_at hl 1 rfl) ?_
    refine lv_aload_n hx hb dN_codeAt_5 rfl (lv_at hl 0 rfl) ?_
    refine va_get (D := D) (ci := 2) (v := .int (nI n)) (C := "UnitRoom$InputTape") (T := TN) (N := 2) hx hb hts inN hown hV (ur_one hI.1 f0) 0 rfl rfl 1 (by decide) (hts _ mw44) (fun _ h9 => h9) rfl dN_codeAt_6 ?_
    refine lv_icmp_lt (tgt := 16) hx hb dN_codeAt_9 (by decide) (fun c2 => ?_) (fun c2 => ?_)
    · refine lv_aload_n hx hb dN_codeAt_16 rfl (lv_at hl 0 rfl) ?_
      refine va_get (D := D) (ci := 2) (v := .ref q1) (C := "UnitRoom$InputTape") (T := TN) (N := 2) hx hb hts inN hown hV (ur_one hI.1 f0) 0 rfl rfl 0 (by decide) (hts _ mw43) (fun _ h9 => h9) rfl dN_codeAt_17 ?_
      refine lv_iload_n hx hb dN_codeAt_20 rfl (lv_at hl 1 rfl) ?_
      refine va_bald hx hb hV (ur_one hI.1 f1) 0 1 rfl rfl (um_in400 c1 c2 hn) dN_codeAt_21 ?_
      refine lv_sipush (v := 255) hx hb dN_codeAt_22 (by decide) ?_
      refine lv_iand hx hb dN_codeAt_25 ?_
      refine ur_xi (va_runSN (As := [.int ((b i.toNatClampNeg) &&& 255)]) (rest := []) ⟨hx, hb, hml, hown, hts⟩ (kU_codeOf l D E h ((b i.toNatClampNeg) &&& 255) s.heap.size) ⟨va_cnB (host := "UnitRoom") 1 hts (ur_gI mw477) rfl rfl rfl (hK.2.1.1 ("UnitRoom$InputTape", 17, ⟨"UnitRoom", "codeOf", "(I)I"⟩, "UnitRoom") (by decide +kernel)) (hts _ mw1) (by decide +kernel) ⟨(Nat.le_of_ble_eq_true rfl), (Nat.le_of_ble_eq_true rfl)⟩, hts _ mw476, trivial⟩ ⟨ur_blind, ur_pre hI hO hK (fun _ _ q => q)⟩ rfl rfl hl.1 rfl (lv_room (Nat.le_of_ble_eq_true rfl)) dN_codeAt_26 ⟨Nat.le_of_ble_eq_true rfl, Nat.le_of_ble_eq_true rfl⟩) hI (fun r3 h3 H locs p3 hI => ?_)
      obtain ⟨er3, eh3⟩ := p3
      replace eh3 := eh3.symm; subst eh3
      replace er3 := er3.symm; subst er3
      exact ur_ri hx hb hr hlocks hI hQ ⟨(by first | (simp only [um_cAt, c1, c2, ↓reduceIte]; done) | (simp only [um_cAt, c1, c2, ↓reduceIte]; rfl) | rfl), rfl⟩ dN_codeAt_29
    · refine lv_iconst (v := 0) hx hb dN_codeAt_12 (by decide) ?_
      refine lv_goto (tgt := 29) hx hb dN_codeAt_13 (by decide) ?_
      exact ur_ri hx hb hr hlocks hI hQ ⟨(by first | (simp only [um_cAt, c1, c2, ↓reduceIte]; done) | (simp only [um_cAt, c1, c2, ↓reduceIte]; rfl) | rfl), rfl⟩ dN_codeAt_29
theorem dR_wordOf_0 : decode cR_wordOf 0 = .ok (.iconst 0, 1) := by decide +kernel
theorem dR_wordOf_1 : decode cR_wordOf 1 = .ok (.istore_n 2, 1) := by decide +kernel
theorem dR_wordOf_2 : decode cR_wordOf 2 = .ok (.iconst 0, 1) := by decide +kernel
theorem dR_wordOf_3 : decode cR_wordOf 3 = .ok (.istore_n 3, 1) := by decide +kernel
theorem dR_wordOf_4 : decode cR_wordOf 4 = .ok (.iload_n 3, 1) := by decide +kernel
theorem dR_wordOf_5 : decode cR_wordOf 5 = .ok (.iconst 5, 1) := by decide +kernel
theorem dR_wordOf_6 : decode cR_wordOf 6 = .ok (.if_icmp .ge 22, 3) := by decide +kernel
theorem dR_wordOf_9 : decode cR_wordOf 9 = .ok (.iload_n 2, 1) := by decide +kernel
theorem dR_wordOf_10 : decode cR_wordOf 10 = .ok (.bipush 6, 2) := by decide +kernel
theorem dR_wordOf_12 : decode cR_wordOf 12 = .ok (.ishl, 1) := by decide +kernel
theorem dR_wordOf_13 : decode cR_wordOf 13 = .ok (.aload_n 0, 1) := by decide +kernel
theorem dR_wordOf_14 : decode cR_wordOf 14 = .ok (.iload_n 1, 1) := by decide +kernel
theorem dR_wordOf_15 : decode cR_wordOf 15 = .ok (.iload_n 3, 1) := by decide +kernel
theorem dR_wordOf_16 : decode cR_wordOf 16 = .ok (.iadd, 1) := by decide +kernel
theorem dR_wordOf_17 : decode cR_wordOf 17 = .ok (.invokevirtual 33, 3) := by decide +kernel
theorem dR_wordOf_20 : decode cR_wordOf 20 = .ok (.ior, 1) := by decide +kernel
theorem dR_wordOf_21 : decode cR_wordOf 21 = .ok (.istore_n 2, 1) := by decide +kernel
theorem dR_wordOf_22 : decode cR_wordOf 22 = .ok (.iinc 3 1, 3) := by decide +kernel
theorem dR_wordOf_25 : decode cR_wordOf 25 = .ok (.goto (-21), 3) := by decide +kernel
theorem dR_wordOf_28 : decode cR_wordOf 28 = .ok (.iload_n 2, 1) := by decide +kernel
theorem dR_wordOf_29 : decode cR_wordOf 29 = .ok (.ireturn, 1) := by decide +kernel
abbrev rmkR_wordOf : Room := { frames := 6, cells := 0, slots := 0, locals := 133 }
set_option maxHeartbeats 4000000 in
set_option maxRecDepth 100000 in
theorem kR_wordOf (l : Launch) (D : va_G) (E : ur_Ev) (h : ur_M) (q : Nat) (q1 : Nat) (b : Nat → Int32) (n : Nat) (i : Int32) (f0 : h q = some (.inr (2, [.ref q1, .int (nI n)]))) (f1 : h q1 = some (.inl (E.1 1, 400, .inl b))) (hn : n ≤ 400) : ur_Mi l yR_wordOf wsR_wordOf rmkR_wordOf D vwCl (ur_v E) [.ref q, .int i] h (fun r h2 => r = um_wAt b n i ∧ h2 = h) 0 0 := by
  intro sz
  refine ur_of (cc := cR_wordOf) (maxL := 4) (ret := (some .int)) (by decide) rfl (Nat.le_of_ble_eq_true rfl) ?_
  intro p e s m args below meth c ls Q hsz hx hb hml hr hlocks hnm hown hts hO hK hI hQ hl
  subst hsz
  have hV := hK.1
  have hts : ∀ w ∈ ur_G, w.before args s = true := fun w hw => hts w (List.mem_cons_of_mem _ hw)
  have hZ : ur_Z E (ur_A h s.heap.size) s s.heap := hO.1
  have hown : s.vm.findClass "UnitRoom$Reader" = some m.cls := hown
  have hl : lv_has ls 4 [(0, .ref q), (1, .int i)] := hl
  refine lv_iconst (v := 0) hx hb dR_wordOf_0 (by decide) ?_
  refine lv_istore_n (lv' := [(2, .int 0), (0, .ref q), (1, .int i)]) hx hb dR_wordOf_1 rfl hl (by decide) rfl (fun ls hl => ?_)
  refine lv_iconst (v := 0) hx hb dR_wordOf_2 (by decide) ?_
  refine lv_istore_n (lv' := [(3, .int 0), (2, .int 0), (0, .ref q), (1, .int i)]) hx hb dR_wordOf_3 rfl hl (by decide) rfl (fun ls hl => ?_)
  refine lv_iload_n hx hb dR_wordOf_4 rfl (lv_at hl 0 rfl) ?_
  refine lv_iconst (v := 5) hx hb dR_wordOf_5 (by decide) ?_
  refine lv_icmp_ge (tgt := 28) hx hb dR_wordOf_6 (by decide) (fun c1 => absurd c1 (by decide)) (fun c1 => ?_)
  refine lv_iload_n hx hb dR_wordOf_9 rfl (lv_at hl 1 rfl) ?_
  refine lv_bipush (v := 6) hx hb dR_wordOf_10 (by decide) ?_
  refine lv_ishl hx hb dR_wordOf_12 ?_
  refine lv_aload_n hx hb dR_wordOf_13 rfl (lv_at hl 2 rfl) ?_
  refine lv_iload_n hx hb dR_wordOf_14 rfl (lv_at hl 3 rfl) ?_
  refine lv_iload_n hx hb dR_wordOf_15 rfl (lv_at hl 0 rfl) ?_
  refine lv_iadd hx hb dR_wordOf_16 ?_
  refine ur_xi (va_runV (As := [.int (i + 0)]) (rest := [.int ((0 : Int32) <<< ((6 : Int32) &&& 31))]) ⟨hx, hb, hml, hown, hts⟩ (kN_codeAt l D E h q q1 b n (i + 0) f0 f1 (by first | assumption | omega | decide) s.heap.size) (cwV 1 hts (ur_gV mw471 mw472 mw473 mw3 mw474) rfl rfl rfl (by decide +kernel) ⟨(Nat.le_of_ble_eq_true rfl), (Nat.le_of_ble_eq_true rfl)⟩) ⟨ur_blind, va_recv hV (ur_one hI.1 f0) (ci := 2) (q0 := 0) rfl rfl, ur_pre hI hO hK (fun _ _ q => q)⟩ rfl rfl hl.1 rfl (lv_room (Nat.le_of_ble_eq_true rfl)) dR_wordOf_17 ⟨Nat.le_of_ble_eq_true rfl, Nat.le_of_ble_eq_true rfl⟩) hI (fun r2 h2 H locs p2 hI => ?_)
  obtain ⟨er2, eh2⟩ := p2
  replace eh2 := eh2.symm; subst eh2
  replace er2 := er2.symm; subst er2
  refine lv_ior hx hb dR_wordOf_20 ?_
  refine lv_istore_n (lv' := [(2, .int (((0 : Int32) <<< ((6 : Int32) &&& 31)) ||| (um_cAt b n (i + 0)))), (3, .int 0), (0, .ref q), (1, .int i)]) hx hb dR_wordOf_21 rfl hl (by decide) rfl (fun ls hl => ?_)
  refine lv_iinc (v := 1) (lv' := [(3, .int 1), (2, .int (((0 : Int32) <<< ((6 : Int32) &&& 31)) ||| (um_cAt b n (i + 0)))), (0, .ref q), (1, .int i)]) hx hb dR_wordOf_22 hl (k := 1) rfl (by decide) (by decide) rfl (fun ls hl => ?_)
  refine lv_goto (tgt := 4) hx hb dR_wordOf_25 (by decide) ?_
  refine lv_iload_n hx hb dR_wordOf_4 rfl (lv_at hl 0 rfl) ?_
  refine lv_iconst (v := 5) hx hb dR_wordOf_5 (by decide) ?_
  refine lv_icmp_ge (tgt := 28) hx hb dR_wordOf_6 (by decide) (fun c3 => absurd c3 (by decide)) (fun c3 => ?_)
  refine lv_iload_n hx hb dR_wordOf_9 rfl (lv_at hl 1 rfl) ?_
  refine lv_bipush (v := 6) hx hb dR_wordOf_10 (by decide) ?_
  refine lv_ishl hx hb dR_wordOf_12 ?_
  refine lv_aload_n hx hb dR_wordOf_13 rfl (lv_at hl 2 rfl) ?_
  refine lv_iload_n hx hb dR_wordOf_14 rfl (lv_at hl 3 rfl) ?_
  refine lv_iload_n hx hb dR_wordOf_15 rfl (lv_at hl 0 rfl) ?_
  refine lv_iadd hx hb dR_wordOf_16 ?_
  refine ur_xi (va_runV (As := [.int (i + 1)]) (rest := [.int ((((0 : Int32) <<< ((6 : Int32) &&& 31)) ||| (um_cAt b n (i + 0))) <<< ((6 : Int32) &&& 31))]) ⟨hx, hb, hml, hown, hts⟩ (kN_codeAt l D E h q q1 b n (i + 1) f0 f1 (by first | assumption | omega | decide) H.size) (cwV 1 hts (ur_gV mw471 mw472 mw473 mw3 mw474) rfl rfl rfl (by decide +kernel) ⟨(Nat.le_of_ble_eq_true rfl), (Nat.le_of_ble_eq_true rfl)⟩) ⟨ur_blind, va_recv hV (ur_one hI.1 f0) (ci := 2) (q0 := 0) rfl rfl, ur_pre hI hO hK (fun _ _ q => q)⟩ rfl rfl hl.1 rfl (lv_room (Nat.le_of_ble_eq_true rfl)) dR_wordOf_17 ⟨Nat.le_of_ble_eq_true rfl, Nat.le_of_ble_eq_true rfl⟩) hI (fun r4 h4 H locs p4 hI => ?_)
  obtain ⟨er4, eh4⟩ := p4
  replace eh4 := eh4.symm; subst eh4
  replace er4 := er4.symm; subst er4
  refine lv_ior hx hb dR_wordOf_20 ?_
  refine lv_istore_n (lv' := [(2, .int (((((0 : Int32) <<< ((6 : Int32) &&& 31)) ||| (um_cAt b n (i + 0))) <<< ((6 : Int32) &&& 31)) ||| (um_cAt b n (i + 1)))), (3, .int 1), (0, .ref q), (1, .int i)]) hx hb dR_wordOf_21 rfl hl (by decide) rfl (fun ls hl => ?_)
  refine lv_iinc (v := 2) (lv' := [(3, .int 2), (2, .int (((((0 : Int32) <<< ((6 : Int32) &&& 31)) ||| (um_cAt b n (i + 0))) <<< ((6 : Int32) &&& 31)) ||| (um_cAt b n (i + 1)))), (0, .ref q), (1, .int i)]) hx hb dR_wordOf_22 hl (k := 1) rfl (by decide) (by decide) rfl (fun ls hl => ?_)
  refine lv_goto (tgt := 4) hx hb dR_wordOf_25 (by decide) ?_
  refine lv_iload_n hx hb dR_wordOf_4 rfl (lv_at hl 0 rfl) ?_
  refine lv_iconst (v := 5) hx hb dR_wordOf_5 (by decide) ?_
  refine lv_icmp_ge (tgt := 28) hx hb dR_wordOf_6 (by decide) (fun c5 => absurd c5 (by decide)) (fun c5 => ?_)
  refine lv_iload_n hx hb dR_wordOf_9 rfl (lv_at hl 1 rfl) ?_
  refine lv_bipush (v := 6) hx hb dR_wordOf_10 (by decide) ?_
  refine lv_ishl hx hb dR_wordOf_12 ?_
  refine lv_aload_n hx hb dR_wordOf_13 rfl (lv_at hl 2 rfl) ?_
  refine lv_iload_n hx hb dR_wordOf_14 rfl (lv_at hl 3 rfl) ?_
  refine lv_iload_n hx hb dR_wordOf_15 rfl (lv_at hl 0 rfl) ?_
  refine lv_iadd hx hb dR_wordOf_16 ?_
  refine ur_xi (va_runV (As := [.int (i + 2)]) (rest := [.int ((((((0 : Int32) <<< ((6 : Int32) &&& 31)) ||| (um_cAt b n (i + 0))) <<< ((6 : Int32) &&& 31)) ||| (um_cAt b n (i + 1))) <<< ((6 : Int32) &&& 31))]) ⟨hx, hb, hml, hown, hts⟩ (kN_codeAt l D E h q q1 b n (i + 2) f0 f1 (by first | assumption | omega | decide) H.size) (cwV 1 hts (ur_gV mw471 mw472 mw473 mw3 mw474) rfl rfl rfl (by decide +kernel) ⟨(Nat.le_of_ble_eq_true rfl), (Nat.le_of_ble_eq_true rfl)⟩) ⟨ur_blind, va_recv hV (ur_one hI.1 f0) (ci := 2) (q0 := 0) rfl rfl, ur_pre hI hO hK (fun _ _ q => q)⟩ rfl rfl hl.1 rfl (lv_room (Nat.le_of_ble_eq_true rfl)) dR_wordOf_17 ⟨Nat.le_of_ble_eq_true rfl, Nat.le_of_ble_eq_true rfl⟩) hI (fun r6 h6 H locs p6 hI => ?_)
  obtain ⟨er6, eh6⟩ := p6
  replace eh6 := eh6.symm; subst eh6
  replace er6 := er6.symm; subst er6
  refine lv_ior hx hb dR_wordOf_20 ?_
  refine lv_istore_n (lv' := [(2, .int (((((((0 : Int32) <<< ((6 : Int32) &&& 31)) ||| (um_cAt b n (i + 0))) <<< ((6 : Int32) &&& 31)) ||| (um_cAt b n (i + 1))) <<< ((6 : Int32) &&& 31)) ||| (um_cAt b n (i + 2)))), (3, .int 2), (0, .ref q), (1, .int i)]) hx hb dR_wordOf_21 rfl hl (by decide) rfl (fun ls hl => ?_)
  refine lv_iinc (v := 3) (lv' := [(3, .int 3), (2, .int (((((((0 : Int32) <<< ((6 : Int32) &&& 31)) ||| (um_cAt b n (i + 0))) <<< ((6 : Int32) &&& 31)) ||| (um_cAt b n (i + 1))) <<< ((6 : Int32) &&& 31)) ||| (um_cAt b n (i + 2)))), (0, .ref q), (1, .int i)]) hx hb dR_wordOf_22 hl (k := 1) rfl (by decide) (by decide) rfl (fun ls hl => ?_)
  refine lv_goto (tgt := 4) hx hb dR_wordOf_25 (by decide) ?_
  refine lv_iload_n hx hb dR_wordOf_4 rfl (lv_at hl 0 rfl) ?_
  refine lv_iconst (v := 5) hx hb dR_wordOf_5 (by decide) ?_
  refine lv_icmp_ge (tgt := 28) hx hb dR_wordOf_6 (by decide) (fun c7 => absurd c7 (by decide)) (fun c7 => ?_)
  refine lv_iload_n hx hb dR_wordOf_9 rfl (lv_at hl 1 rfl) ?_
  refine lv_bipush (v := 6) hx hb dR_wordOf_10 (by decide) ?_
  refine lv_ishl hx hb dR_wordOf_12 ?_
  refine lv_aload_n hx hb dR_wordOf_13 rfl (lv_at hl 2 rfl) ?_
  refine lv_iload_n hx hb dR_wordOf_14 rfl (lv_at hl 3 rfl) ?_
  refine lv_iload_n hx hb dR_wordOf_15 rfl (lv_at hl 0 rfl) ?_
  refine lv_iadd hx hb dR_wordOf_16 ?_
  refine ur_xi (va_runV (As := [.int (i + 3)]) (rest := [.int ((((((((0 : Int32) <<< ((6 : Int32) &&& 31)) ||| (um_cAt b n (i + 0))) <<< ((6 : Int32) &&& 31)) ||| (um_cAt b n (i + 1))) <<< ((6 : Int32) &&& 31)) ||| (um_cAt b n (i + 2))) <<< ((6 : Int32) &&& 31))]) ⟨hx, hb, hml, hown, hts⟩ (kN_codeAt l D E h q q1 b n (i + 3) f0 f1 (by first | assumption | omega | decide) H.size) (cwV 1 hts (ur_gV mw471 mw472 mw473 mw3 mw474) rfl rfl rfl (by decide +kernel) ⟨(Nat.le_of_ble_eq_true rfl), (Nat.le_of_ble_eq_true rfl)⟩) ⟨ur_blind, va_recv hV (ur_one hI.1 f0) (ci := 2) (q0 := 0) rfl rfl, ur_pre hI hO hK (fun _ _ q => q)⟩ rfl rfl hl.1 rfl (lv_room (Nat.le_of_ble_eq_true rfl)) dR_wordOf_17 ⟨Nat.le_of_ble_eq_true rfl, Nat.le_of_ble_eq_true rfl⟩) hI (fun r8 h8 H locs p8 hI => ?_)
  obtain ⟨er8, eh8⟩ := p8
  replace eh8 := eh8.symm; subst eh8
  replace er8 := er8.symm; subst er8
  refine lv_ior hx hb dR_wordOf_20 ?_
  refine lv_istore_n (lv' := [(2, .int (((((((((0 : Int32) <<< ((6 : Int32) &&& 31)) ||| (um_cAt b n (i + 0))) <<< ((6 : Int32) &&& 31)) ||| (um_cAt b n (i + 1))) <<< ((6 : Int32) &&& 31)) ||| (um_cAt b n (i + 2))) <<< ((6 : Int32) &&& 31)) ||| (um_cAt b n (i + 3)))), (3, .int 3), (0, .ref q), (1, .int i)]) hx hb dR_wordOf_21 rfl hl (by decide) rfl (fun ls hl => ?_)
  refine lv_iinc (v := 4) (lv' := [(3, .int 4), (2, .int (((((((((0 : Int32) <<< ((6 : Int32) &&& 31)) ||| (um_cAt b n (i + 0))) <<< ((6 : Int32) &&& 31)) ||| (um_cAt b n (i + 1))) <<< ((6 : Int32) &&& 31)) ||| (um_cAt b n (i + 2))) <<< ((6 : Int32) &&& 31)) ||| (um_cAt b n (i + 3)))), (0, .ref q), (1, .int i)]) hx hb dR_wordOf_22 hl (k := 1) rfl (by decide) (by decide) rfl (fun ls hl => ?_)
  refine lv_goto (tgt := 4) hx hb dR_wordOf_25 (by decide) ?_
  refine lv_iload_n hx hb dR_wordOf_4 rfl (lv_at hl 0 rfl) ?_
  refine lv_iconst (v := 5) hx hb dR_wordOf_5 (by decide) ?_
  refine lv_icmp_ge (tgt := 28) hx hb dR_wordOf_6 (by decide) (fun c9 => absurd c9 (by decide)) (fun c9 => ?_)
  refine lv_iload_n hx hb dR_wordOf_9 rfl (lv_at hl 1 rfl) ?_
  refine lv_bipush (v := 6) hx hb dR_wordOf_10 (by decide) ?_
  refine lv_ishl hx hb dR_wordOf_12 ?_
  refine lv_aload_n hx hb dR_wordOf_13 rfl (lv_at hl 2 rfl) ?_
  refine lv_iload_n hx hb dR_wordOf_14 rfl (lv_at hl 3 rfl) ?_
  refine lv_iload_n hx hb dR_wordOf_15 rfl (lv_at hl 0 rfl) ?_
  refine lv_iadd hx hb dR_wordOf_16 ?_
  refine ur_xi (va_runV (As := [.int (i + 4)]) (rest := [.int ((((((((((0 : Int32) <<< ((6 : Int32) &&& 31)) ||| (um_cAt b n (i + 0))) <<< ((6 : Int32) &&& 31)) ||| (um_cAt b n (i + 1))) <<< ((6 : Int32) &&& 31)) ||| (um_cAt b n (i + 2))) <<< ((6 : Int32) &&& 31)) ||| (um_cAt b n (i + 3))) <<< ((6 : Int32) &&& 31))]) ⟨hx, hb, hml, hown, hts⟩ (kN_codeAt l D E h q q1 b n (i + 4) f0 f1 (by first | assumption | omega | decide) H.size) (cwV 1 hts (ur_gV mw471 mw472 mw473 mw3 mw474) rfl rfl rfl (by decide +kernel) ⟨(Nat.le_of_ble_eq_true rfl), (Nat.le_of_ble_eq_true rfl)⟩) ⟨ur_blind, va_recv hV (ur_one hI.1 f0) (ci := 2) (q0 := 0) rfl rfl, ur_pre hI hO hK (fun _ _ q => q)⟩ rfl rfl hl.1 rfl (lv_room (Nat.le_of_ble_eq_true rfl)) dR_wordOf_17 ⟨Nat.le_of_ble_eq_true rfl, Nat.le_of_ble_eq_true rfl⟩) hI (fun r10 h10 H locs p10 hI => ?_)
  obtain ⟨er10, eh10⟩ := p10
  replace eh10 := eh10.symm; subst eh10
  replace er10 := er10.symm; subst er10
  refine lv_ior hx hb dR_wordOf_20 ?_
  refine lv_istore_n (lv' := [(2, .int (((((((((((0 : Int32) <<< ((6 : Int32) &&& 31)) ||| (um_cAt b n (i + 0))) <<< ((6 : Int32) &&& 31)) ||| (um_cAt b n (i + 1))) <<< ((6 : Int32) &&& 31)) ||| (um_cAt b n (i + 2))) <<< ((6 : Int32) &&& 31)) ||| (um_cAt b n (i + 3))) <<< ((6 : Int32) &&& 31)) ||| (um_cAt b n (i + 4)))), (3, .int 4), (0, .ref q), (1, .int i)]) hx hb dR_wordOf_21 rfl hl (by decide) rfl (fun ls hl => ?_)
  refine lv_iinc (v := 5) (lv' := [(3, .int 5), (2, .int (((((((((((0 : Int32) <<< ((6 : Int32) &&& 31)) ||| (um_cAt b n (i + 0))) <<< ((6 : Int32) &&& 31)) ||| (um_cAt b n (i + 1))) <<< ((6 : Int32) &&& 31)) ||| (um_cAt b n (i + 2))) <<< ((6 : Int32) &&& 31)) ||| (um_cAt b n (i + 3))) <<< ((6 : Int32) &&& 31)) ||| (um_cAt b n (i + 4)))), (0, .ref q), (1, .int i)]) hx hb dR_wordOf_22 hl (k := 1) rfl (by decide) (by decide) rfl (fun ls hl => ?_)
  refine lv_goto (tgt := 4) hx hb dR_wordOf_25 (by decide) ?_
  refine lv_iload_n hx hb dR_wordOf_4 rfl (lv_at hl 0 rfl) ?_
  refine lv_iconst (v := 5) hx hb dR_wordOf_5 (by decide) ?_
  refine lv_icmp_ge (tgt := 28) hx hb dR_wordOf_6 (by decide) (fun c11 => ?_) (fun c11 => absurd c11 (by decide))
  refine lv_iload_n hx hb dR_wordOf_28 rfl (lv_at hl 1 rfl) ?_
  exact ur_ri hx hb hr hlocks hI hQ ⟨(by first | (simp only [um_wAt, c1, c3, c5, c7, c9, c11, ↓reduceIte]; done) | (simp only [um_wAt, c1, c3, c5, c7, c9, c11, ↓reduceIte]; rfl) | rfl), rfl⟩ dR_wordOf_29
end
section
/-- the numbers of the classes of devices -/
def um_isD (ci : Nat) : Prop := ci = 3 ∨ ci = 4 ∨ ci = 5 ∨ ci = 6
section URD
variable {p : Program} {l : Launch} {e : Env} {R : Room} {s : State} {m : MethodId} {args : Array Value} {below : List Frame} {meth : Method} {c : Code} {H : Heap} {locs : List Loc} {cells slots : Nat} {Q : State → Prop}
variable {cc : ByteArray} {pc : Nat} {ls : Array Slot} {rest st0 : List Value} {D : va_G} {A : Nat → Prop} {a : Nat} {tys : List (ClassId × FieldType)} {H0 : Heap} {h h0 : ur_M} {mc ms : Nat}
theorem ur_gD0 (hexec : p.tables.exec = Jvm.exec) (hb : c.code = cc) {own ref : String} {index ci : Nat} (hts : ∀ w ∈ ur_G, w.before args s = true) (hown : s.vm.findClass own = some m.cls) (hK : va_K D vwCl tys s) (hI : ur_I D vwCl A H0 h H locs) {v0 v1 v2 v3 v4 v5 v6 : Value} {tl : List Value} (hci : um_isD ci) (he : h a = some (.inr (ci, v0 :: v1 :: v2 :: v3 :: v4 :: v5 :: v6 :: tl))) (hlink : (Cond.fieldLink own index ref "words" "I").before args s = true) (hsame : ∀ x, s.fieldFound? "UnitRoom$Device" "words" "I" = some x → s.fieldFound? ref "words" "I" = some x) (hdg : decode cc pc = .ok (.getfield index, 3)) (kk : W p l e R s m args below meth c H locs cells slots Q (F0 m (pc + 3) ls (v0 :: rest))) : W p l e R s m args below meth c H locs cells slots Q (F0 m pc ls (.ref a :: rest)) := by
  rcases hci with rfl | rfl | rfl | rfl
  · exact va_get (D := D) (ci := 3) (v := v0) (C := "UnitRoom$Tape") (T := TT) (N := 9) hexec hb hts inT hown hK (ur_one hI.1 he) 0 rfl rfl 0 (by decide) hlink hsame rfl hdg kk
  · exact va_get (D := D) (ci := 4) (v := v0) (C := "UnitRoom$Disk") (T := TK) (N := 8) hexec hb hts inK hown hK (ur_one hI.1 he) 0 rfl rfl 0 (by decide) hlink hsame rfl hdg kk
  · exact va_get (D := D) (ci := 5) (v := v0) (C := "UnitRoom$Reader") (T := TR) (N := 10) hexec hb hts inR hown hK (ur_one hI.1 he) 0 rfl rfl 0 (by decide) hlink hsame rfl hdg kk
  · exact va_get (D := D) (ci := 6) (v := v0) (C := "UnitRoom$Writer") (T := TW) (N := 10) hexec hb hts inW hown hK (ur_one hI.1 he) 0 rfl rfl 0 (by decide) hlink hsame rfl hdg kk
theorem ur_gD1 (hexec : p.tables.exec = Jvm.exec) (hb : c.code = cc) {own ref : String} {index ci : Nat} (hts : ∀ w ∈ ur_G, w.before args s = true) (hown : s.vm.findClass own = some m.cls) (hK : va_K D vwCl tys s) (hI : ur_I D vwCl A H0 h H locs) {v0 v1 v2 v3 v4 v5 v6 : Value} {tl : List Value} (hci : um_isD ci) (he : h a = some (.inr (ci, v0 :: v1 :: v2 :: v3 :: v4 :: v5 :: v6 :: tl))) (hlink : (Cond.fieldLink own index ref "brought" "[I").before args s = true) (hsame : ∀ x, s.fieldFound? "UnitRoom$Device" "brought" "[I" = some x → s.fieldFound? ref "brought" "[I" = some x) (hdg : decode cc pc = .ok (.getfield index, 3)) (kk : W p l e R s m args below meth c H locs cells slots Q (F0 m (pc + 3) ls (v1 :: rest))) : W p l e R s m args below meth c H locs cells slots Q (F0 m pc ls (.ref a :: rest)) := by
  rcases hci with rfl | rfl | rfl | rfl
  · exact va_get (D := D) (ci := 3) (v := v1) (C := "UnitRoom$Tape") (T := TT) (N := 9) hexec hb hts inT hown hK (ur_one hI.1 he) 0 rfl rfl 1 (by decide) hlink hsame rfl hdg kk
  · exact va_get (D := D) (ci := 4) (v := v1) (C := "UnitRoom$Disk") (T := TK) (N := 8) hexec hb hts inK hown hK (ur_one hI.1 he) 0 rfl rfl 1 (by decide) hlink hsame rfl hdg kk
  · exact va_get (D := D) (ci := 5) (v := v1) (C := "UnitRoom$Reader") (T := TR) (N := 10) hexec hb hts inR hown hK (ur_one hI.1 he) 0 rfl rfl 1 (by decide) hlink hsame rfl hdg kk
  · exact va_get (D := D) (ci := 6) (v := v1) (C := "UnitRoom$Writer") (T := TW) (N := 10) hexec hb hts inW hown hK (ur_one hI.1 he) 0 rfl rfl 1 (by decide) hlink hsame rfl hdg kk
theorem ur_gD2 (hexec : p.tables.exec = Jvm.exec) (hb : c.code = cc) {own ref : String} {index ci : Nat} (hts : ∀ w ∈ ur_G, w.before args s = true) (hown : s.vm.findClass own = some m.cls) (hK : va_K D vwCl tys s) (hI : ur_I D vwCl A H0 h H locs) {v0 v1 v2 v3 v4 v5 v6 : Value} {tl : List Value} (hci : um_isD ci) (he : h a = some (.inr (ci, v0 :: v1 :: v2 :: v3 :: v4 :: v5 :: v6 :: tl))) (hlink : (Cond.fieldLink own index ref "duration" "I").before args s = true) (hsame : ∀ x, s.fieldFound? "UnitRoom$Device" "duration" "I" = some x → s.fieldFound? ref "duration" "I" = some x) (hdg : decode cc pc = .ok (.getfield index, 3)) (kk : W p l e R s m args below meth c H locs cells slots Q (F0 m (pc + 3) ls (v2 :: rest))) : W p l e R s m args below meth c H locs cells slots Q (F0 m pc ls (.ref a :: rest)) := by
  rcases hci with rfl | rfl | rfl | rfl
  · exact va_get (D := D) (ci := 3) (v := v2) (C := "UnitRoom$Tape") (T := TT) (N := 9) hexec hb hts inT hown hK (ur_one hI.1 he) 0 rfl rfl 2 (by decide) hlink hsame rfl hdg kk
  · exact va_get (D := D) (ci := 4) (v := v2) (C := "UnitRoom$Disk") (T := TK) (N := 8) hexec hb hts inK hown hK (ur_one hI.1 he) 0 rfl rfl 2 (by decide) hlink hsame rfl hdg kk
  · exact va_get (D := D) (ci := 5) (v := v2) (C := "UnitRoom$Reader") (T := TR) (N := 10) hexec hb hts inR hown hK (ur_one hI.1 he) 0 rfl rfl 2 (by decide) hlink hsame rfl hdg kk
  · exact va_get (D := D) (ci := 6) (v := v2) (C := "UnitRoom$Writer") (T := TW) (N := 10) hexec hb hts inW hown hK (ur_one hI.1 he) 0 rfl rfl 2 (by decide) hlink hsame rfl hdg kk
theorem ur_gD3 (hexec : p.tables.exec = Jvm.exec) (hb : c.code = cc) {own ref : String} {index ci : Nat} (hts : ∀ w ∈ ur_G, w.before args s = true) (hown : s.vm.findClass own = some m.cls) (hK : va_K D vwCl tys s) (hI : ur_I D vwCl A H0 h H locs) {v0 v1 v2 v3 v4 v5 v6 : Value} {tl : List Value} (hci : um_isD ci) (he : h a = some (.inr (ci, v0 :: v1 :: v2 :: v3 :: v4 :: v5 :: v6 :: tl))) (hlink : (Cond.fieldLink own index ref "freeAt" "J").before args s = true) (hsame : ∀ x, s.fieldFound? "UnitRoom$Device" "freeAt" "J" = some x → s.fieldFound? ref "freeAt" "J" = some x) (hdg : decode cc pc = .ok (.getfield index, 3)) (kk : W p l e R s m args below meth c H locs cells slots Q (F0 m (pc + 3) ls (v3 :: rest))) : W p l e R s m args below meth c H locs cells slots Q (F0 m pc ls (.ref a :: rest)) := by
  rcases hci with rfl | rfl | rfl | rfl
  · exact va_get (D := D) (ci := 3) (v := v3) (C := "UnitRoom$Tape") (T := TT) (N := 9) hexec hb hts inT hown hK (ur_one hI.1 he) 0 rfl rfl 3 (by decide) hlink hsame rfl hdg kk
  · exact va_get (D := D) (ci := 4) (v := v3) (C := "UnitRoom$Disk") (T := TK) (N := 8) hexec hb hts inK hown hK (ur_one hI.1 he) 0 rfl rfl 3 (by decide) hlink hsame rfl hdg kk
  · exact va_get (D := D) (ci := 5) (v := v3) (C := "UnitRoom$Reader") (T := TR) (N := 10) hexec hb hts inR hown hK (ur_one hI.1 he) 0 rfl rfl 3 (by decide) hlink hsame rfl hdg kk
  · exact va_get (D := D) (ci := 6) (v := v3) (C := "UnitRoom$Writer") (T := TW) (N := 10) hexec hb hts inW hown hK (ur_one hI.1 he) 0 rfl rfl 3 (by decide) hlink hsame rfl hdg kk
theorem ur_gD4 (hexec : p.tables.exec = Jvm.exec) (hb : c.code = cc) {own ref : String} {index ci : Nat} (hts : ∀ w ∈ ur_G, w.before args s = true) (hown : s.vm.findClass own = some m.cls) (hK : va_K D vwCl tys s) (hI : ur_I D vwCl A H0 h H locs) {v0 v1 v2 v3 v4 v5 v6 : Value} {tl : List Value} (hci : um_isD ci) (he : h a = some (.inr (ci, v0 :: v1 :: v2 :: v3 :: v4 :: v5 :: v6 :: tl))) (hlink : (Cond.fieldLink own index ref "bringing" "Z").before args s = true) (hsame : ∀ x, s.fieldFound? "UnitRoom$Device" "bringing" "Z" = some x → s.fieldFound? ref "bringing" "Z" = some x) (hdg : decode cc pc = .ok (.getfield index, 3)) (kk : W p l e R s m args below meth c H locs cells slots Q (F0 m (pc + 3) ls (v4 :: rest))) : W p l e R s m args below meth c H locs cells slots Q (F0 m pc ls (.ref a :: rest)) := by
  rcases hci with rfl | rfl | rfl | rfl
  · exact va_get (D := D) (ci := 3) (v := v4) (C := "UnitRoom$Tape") (T := TT) (N := 9) hexec hb hts inT hown hK (ur_one hI.1 he) 0 rfl rfl 4 (by decide) hlink hsame rfl hdg kk
  · exact va_get (D := D) (ci := 4) (v := v4) (C := "UnitRoom$Disk") (T := TK) (N := 8) hexec hb hts inK hown hK (ur_one hI.1 he) 0 rfl rfl 4 (by decide) hlink hsame rfl hdg kk
  · exact va_get (D := D) (ci := 5) (v := v4) (C := "UnitRoom$Reader") (T := TR) (N := 10) hexec hb hts inR hown hK (ur_one hI.1 he) 0 rfl rfl 4 (by decide) hlink hsame rfl hdg kk
  · exact va_get (D := D) (ci := 6) (v := v4) (C := "UnitRoom$Writer") (T := TW) (N := 10) hexec hb hts inW hown hK (ur_one hI.1 he) 0 rfl rfl 4 (by decide) hlink hsame rfl hdg kk
theorem ur_gD5 (hexec : p.tables.exec = Jvm.exec) (hb : c.code = cc) {own ref : String} {index ci : Nat} (hts : ∀ w ∈ ur_G, w.before args s = true) (hown : s.vm.findClass own = some m.cls) (hK : va_K D vwCl tys s) (hI : ur_I D vwCl A H0 h H locs) {v0 v1 v2 v3 v4 v5 v6 : Value} {tl : List Value} (hci : um_isD ci) (he : h a = some (.inr (ci, v0 :: v1 :: v2 :: v3 :: v4 :: v5 :: v6 :: tl))) (hlink : (Cond.fieldLink own index ref "turn" "I").before args s = true) (hsame : ∀ x, s.fieldFound? "UnitRoom$Device" "turn" "I" = some x → s.fieldFound? ref "turn" "I" = some x) (hdg : decode cc pc = .ok (.getfield index, 3)) (kk : W p l e R s m args below meth c H locs cells slots Q (F0 m (pc + 3) ls (v5 :: rest))) : W p l e R s m args below meth c H locs cells slots Q (F0 m pc ls (.ref a :: rest)) := by
  rcases hci with rfl | rfl | rfl | rfl
  · exact va_get (D := D) (ci := 3) (v := v5) (C := "UnitRoom$Tape") (T := TT) (N := 9) hexec hb hts inT hown hK (ur_one hI.1 he) 0 rfl rfl 5 (by decide) hlink hsame rfl hdg kk
  · exact va_get (D := D) (ci := 4) (v := v5) (C := "UnitRoom$Disk") (T := TK) (N := 8) hexec hb hts inK hown hK (ur_one hI.1 he) 0 rfl rfl 5 (by decide) hlink hsame rfl hdg kk
  · exact va_get (D := D) (ci := 5) (v := v5) (C := "UnitRoom$Reader") (T := TR) (N := 10) hexec hb hts inR hown hK (ur_one hI.1 he) 0 rfl rfl 5 (by decide) hlink hsame rfl hdg kk
  · exact va_get (D := D) (ci := 6) (v := v5) (C := "UnitRoom$Writer") (T := TW) (N := 10) hexec hb hts inW hown hK (ur_one hI.1 he) 0 rfl rfl 5 (by decide) hlink hsame rfl hdg kk
theorem ur_gD6 (hexec : p.tables.exec = Jvm.exec) (hb : c.code = cc) {own ref : String} {index ci : Nat} (hts : ∀ w ∈ ur_G, w.before args s = true) (hown : s.vm.findClass own = some m.cls) (hK : va_K D vwCl tys s) (hI : ur_I D vwCl A H0 h H locs) {v0 v1 v2 v3 v4 v5 v6 : Value} {tl : List Value} (hci : um_isD ci) (he : h a = some (.inr (ci, v0 :: v1 :: v2 :: v3 :: v4 :: v5 :: v6 :: tl))) (hlink : (Cond.fieldLink own index ref "target" "I").before args s = true) (hsame : ∀ x, s.fieldFound? "UnitRoom$Device" "target" "I" = some x → s.fieldFound? ref "target" "I" = some x) (hdg : decode cc pc = .ok (.getfield index, 3)) (kk : W p l e R s m args below meth c H locs cells slots Q (F0 m (pc + 3) ls (v6 :: rest))) : W p l e R s m args below meth c H locs cells slots Q (F0 m pc ls (.ref a :: rest)) := by
  rcases hci with rfl | rfl | rfl | rfl
  · exact va_get (D := D) (ci := 3) (v := v6) (C := "UnitRoom$Tape") (T := TT) (N := 9) hexec hb hts inT hown hK (ur_one hI.1 he) 0 rfl rfl 6 (by decide) hlink hsame rfl hdg kk
  · exact va_get (D := D) (ci := 4) (v := v6) (C := "UnitRoom$Disk") (T := TK) (N := 8) hexec hb hts inK hown hK (ur_one hI.1 he) 0 rfl rfl 6 (by decide) hlink hsame rfl hdg kk
  · exact va_get (D := D) (ci := 5) (v := v6) (C := "UnitRoom$Reader") (T := TR) (N := 10) hexec hb hts inR hown hK (ur_one hI.1 he) 0 rfl rfl 6 (by decide) hlink hsame rfl hdg kk
  · exact va_get (D := D) (ci := 6) (v := v6) (C := "UnitRoom$Writer") (T := TW) (N := 10) hexec hb hts inW hown hK (ur_one hI.1 he) 0 rfl rfl 6 (by decide) hlink hsame rfl hdg kk
theorem ur_pD3 (hexec : p.tables.exec = Jvm.exec) (hb : c.code = cc) {own ref : String} {index ci : Nat} (hts : ∀ w ∈ ur_G, w.before args s = true) (hown : s.vm.findClass own = some m.cls) (hK : va_K D vwCl tys s) (hI : ur_I D vwCl A H0 h H locs) {v0 v1 v2 v3 v4 v5 v6 v : Value} {tl : List Value} (hci : um_isD ci) (he : h a = some (.inr (ci, v0 :: v1 :: v2 :: v3 :: v4 :: v5 :: v6 :: tl))) (hlink : (Cond.fieldLink own index ref "freeAt" "J").before args s = true) (hsame : ∀ x, s.fieldFound? "UnitRoom$Device" "freeAt" "J" = some x → s.fieldFound? ref "freeAt" "J" = some x) (hn : narrow .long v = v) (hfit : fits .long v = true) (hdg : decode cc pc = .ok (.putfield index, 3)) (kk : ∀ (H1 : Heap) (locs1 : List Loc), ur_I D vwCl A H0 (va_up h a (some (.inr (ci, v0 :: v1 :: v2 :: v :: v4 :: v5 :: v6 :: tl)))) H1 locs1 → W p l e R s m args below meth c H1 locs1 cells slots Q (F0 m (pc + 3) ls rest)) : W p l e R s m args below meth c H locs cells slots Q (F0 m pc ls (v :: .ref a :: rest)) := by
  rcases hci with rfl | rfl | rfl | rfl
  · exact ur_put (D := D) (ci := 3) (v := v) (ty := .long) (C := "UnitRoom$Tape") (T := TT) (N := 9) hexec hb hts inT tyT tyT_ok nmT hown hK hI he rfl 3 (by decide) hlink hsame rfl (by decide +kernel) hn hfit (by simp only [List.length_cons]; omega) hdg (fun H1 locs1 hI1 => kk H1 locs1 hI1)
  · exact ur_put (D := D) (ci := 4) (v := v) (ty := .long) (C := "UnitRoom$Disk") (T := TK) (N := 8) hexec hb hts inK tyK tyK_ok nmK hown hK hI he rfl 3 (by decide) hlink hsame rfl (by decide +kernel) hn hfit (by simp only [List.length_cons]; omega) hdg (fun H1 locs1 hI1 => kk H1 locs1 hI1)
  · exact ur_put (D := D) (ci := 5) (v := v) (ty := .long) (C := "UnitRoom$Reader") (T := TR) (N := 10) hexec hb hts inR tyR tyR_ok nmR hown hK hI he rfl 3 (by decide) hlink hsame rfl (by decide +kernel) hn hfit (by simp only [List.length_cons]; omega) hdg (fun H1 locs1 hI1 => kk H1 locs1 hI1)
  · exact ur_put (D := D) (ci := 6) (v := v) (ty := .long) (C := "UnitRoom$Writer") (T := TW) (N := 10) hexec hb hts inW tyW tyW_ok nmW hown hK hI he rfl 3 (by decide) hlink hsame rfl (by decide +kernel) hn hfit (by simp only [List.length_cons]; omega) hdg (fun H1 locs1 hI1 => kk H1 locs1 hI1)
theorem ur_pD4 (hexec : p.tables.exec = Jvm.exec) (hb : c.code = cc) {own ref : String} {index ci : Nat} (hts : ∀ w ∈ ur_G, w.before args s = true) (hown : s.vm.findClass own = some m.cls) (hK : va_K D vwCl tys s) (hI : ur_I D vwCl A H0 h H locs) {v0 v1 v2 v3 v4 v5 v6 v : Value} {tl : List Value} (hci : um_isD ci) (he : h a = some (.inr (ci, v0 :: v1 :: v2 :: v3 :: v4 :: v5 :: v6 :: tl))) (hlink : (Cond.fieldLink own index ref "bringing" "Z").before args s = true) (hsame : ∀ x, s.fieldFound? "UnitRoom$Device" "bringing" "Z" = some x → s.fieldFound? ref "bringing" "Z" = some x) (hn : narrow .boolean v = v) (hfit : fits .boolean v = true) (hdg : decode cc pc = .ok (.putfield index, 3)) (kk : ∀ (H1 : Heap) (locs1 : List Loc), ur_I D vwCl A H0 (va_up h a (some (.inr (ci, v0 :: v1 :: v2 :: v3 :: v :: v5 :: v6 :: tl)))) H1 locs1 → W p l e R s m args below meth c H1 locs1 cells slots Q (F0 m (pc + 3) ls rest)) : W p l e R s m args below meth c H locs cells slots Q (F0 m pc ls (v :: .ref a :: rest)) := by
  rcases hci with rfl | rfl | rfl | rfl
  · exact ur_put (D := D) (ci := 3) (v := v) (ty := .boolean) (C := "UnitRoom$Tape") (T := TT) (N := 9) hexec hb hts inT tyT tyT_ok nmT hown hK hI he rfl 4 (by decide) hlink hsame rfl (by decide +kernel) hn hfit (by simp only [List.length_cons]; omega) hdg (fun H1 locs1 hI1 => kk H1 locs1 hI1)
  · exact ur_put (D := D) (ci := 4) (v := v) (ty := .boolean) (C := "UnitRoom$Disk") (T := TK) (N := 8) hexec hb hts inK tyK tyK_ok nmK hown hK hI he rfl 4 (by decide) hlink hsame rfl (by decide +kernel) hn hfit (by simp only [List.length_cons]; omega) hdg (fun H1 locs1 hI1 => kk H1 locs1 hI1)
  · exact ur_put (D := D) (ci := 5) (v := v) (ty := .boolean) (C := "UnitRoom$Reader") (T := TR) (N := 10) hexec hb hts inR tyR tyR_ok nmR hown hK hI he rfl 4 (by decide) hlink hsame rfl (by decide +kernel) hn hfit (by simp only [List.length_cons]; omega) hdg (fun H1 locs1 hI1 => kk H1 locs1 hI1)
  · exact ur_put (D := D) (ci := 6) (v := v) (ty := .boolean) (C := "UnitRoom$Writer") (T := TW) (N := 10) hexec hb hts inW tyW tyW_ok nmW hown hK hI he rfl 4 (by decide) hlink hsame rfl (by decide +kernel) hn hfit (by simp only [List.length_cons]; omega) hdg (fun H1 locs1 hI1 => kk H1 locs1 hI1)
theorem ur_pD5 (hexec : p.tables.exec = Jvm.exec) (hb : c.code = cc) {own ref : String} {index ci : Nat} (hts : ∀ w ∈ ur_G, w.before args s = true) (hown : s.vm.findClass own = some m.cls) (hK : va_K D vwCl tys s) (hI : ur_I D vwCl A H0 h H locs) {v0 v1 v2 v3 v4 v5 v6 v : Value} {tl : List Value} (hci : um_isD ci) (he : h a = some (.inr (ci, v0 :: v1 :: v2 :: v3 :: v4 :: v5 :: v6 :: tl))) (hlink : (Cond.fieldLink own index ref "turn" "I").before args s = true) (hsame : ∀ x, s.fieldFound? "UnitRoom$Device" "turn" "I" = some x → s.fieldFound? ref "turn" "I" = some x) (hn : narrow .int v = v) (hfit : fits .int v = true) (hdg : decode cc pc = .ok (.putfield index, 3)) (kk : ∀ (H1 : Heap) (locs1 : List Loc), ur_I D vwCl A H0 (va_up h a (some (.inr (ci, v0 :: v1 :: v2 :: v3 :: v4 :: v :: v6 :: tl)))) H1 locs1 → W p l e R s m args below meth c H1 locs1 cells slots Q (F0 m (pc + 3) ls rest)) : W p l e R s m args below meth c H locs cells slots Q (F0 m pc ls (v :: .ref a :: rest)) := by
  rcases hci with rfl | rfl | rfl | rfl
  · exact ur_put (D := D) (ci := 3) (v := v) (ty := .int) (C := "UnitRoom$Tape") (T := TT) (N := 9) hexec hb hts inT tyT tyT_ok nmT hown hK hI he rfl 5 (by decide) hlink hsame rfl (by decide +kernel) hn hfit (by simp only [List.length_cons]; omega) hdg (fun H1 locs1 hI1 => kk H1 locs1 hI1)
  · exact ur_put (D := D) (ci := 4) (v := v) (ty := .int) (C := "UnitRoom$Disk") (T := TK) (N := 8) hexec hb hts inK tyK tyK_ok nmK hown hK hI he rfl 5 (by decide) hlink hsame rfl (by decide +kernel) hn hfit (by simp only [List.length_cons]; omega) hdg (fun H1 locs1 hI1 => kk H1 locs1 hI1)
  · exact ur_put (D := D) (ci := 5) (v := v) (ty := .int) (C := "UnitRoom$Reader") (T := TR) (N := 10) hexec hb hts inR tyR tyR_ok nmR hown hK hI he rfl 5 (by decide) hlink hsame rfl (by decide +kernel) hn hfit (by simp only [List.length_cons]; omega) hdg (fun H1 locs1 hI1 => kk H1 locs1 hI1)
  · exact ur_put (D := D) (ci := 6) (v := v) (ty := .int) (C := "UnitRoom$Writer") (T := TW) (N := 10) hexec hb hts inW tyW tyW_ok nmW hown hK hI he rfl 5 (by decide) hlink hsame rfl (by decide +kernel) hn hfit (by simp only [List.length_cons]; omega) hdg (fun H1 locs1 hI1 => kk H1 locs1 hI1)
theorem ur_pD6 (hexec : p.tables.exec = Jvm.exec) (hb : c.code = cc) {own ref : String} {index ci : Nat} (hts : ∀ w ∈ ur_G, w.before args s = true) (hown : s.vm.findClass own = some m.cls) (hK : va_K D vwCl tys s) (hI : ur_I D vwCl A H0 h H locs) {v0 v1 v2 v3 v4 v5 v6 v : Value} {tl : List Value} (hci : um_isD ci) (he : h a = some (.inr (ci, v0 :: v1 :: v2 :: v3 :: v4 :: v5 :: v6 :: tl))) (hlink : (Cond.fieldLink own index ref "target" "I").before args s = true) (hsame : ∀ x, s.fieldFound? "UnitRoom$Device" "target" "I" = some x → s.fieldFound? ref "target" "I" = some x) (hn : narrow .int v = v) (hfit : fits .int v = true) (hdg : decode cc pc = .ok (.putfield index, 3)) (kk : ∀ (H1 : Heap) (locs1 : List Loc), ur_I D vwCl A H0 (va_up h a (some (.inr (ci, v0 :: v1 :: v2 :: v3 :: v4 :: v5 :: v :: tl)))) H1 locs1 → W p l e R s m args below meth c H1 locs1 cells slots Q (F0 m (pc + 3) ls rest)) : W p l e R s m args below meth c H locs cells slots Q (F0 m pc ls (v :: .ref a :: rest)) := by
  rcases hci with rfl | rfl | rfl | rfl
  · exact ur_put (D := D) (ci := 3) (v := v) (ty := .int) (C := "UnitRoom$Tape") (T := TT) (N := 9) hexec hb hts inT tyT tyT_ok nmT hown hK hI he rfl 6 (by decide) hlink hsame rfl (by decide +kernel) hn hfit (by simp only [List.length_cons]; omega) hdg (fun H1 locs1 hI1 => kk H1 locs1 hI1)
  · exact ur_put (D := D) (ci := 4) (v := v) (ty := .int) (C := "UnitRoom$Disk") (T := TK) (N := 8) hexec hb hts inK tyK tyK_ok nmK hown hK hI he rfl 6 (by decide) hlink hsame rfl (by decide +kernel) hn hfit (by simp only [List.length_cons]; omega) hdg (fun H1 locs1 hI1 => kk H1 locs1 hI1)
  · exact ur_put (D := D) (ci := 5) (v := v) (ty := .int) (C := "UnitRoom$Reader") (T := TR) (N := 10) hexec hb hts inR tyR tyR_ok nmR hown hK hI he rfl 6 (by decide) hlink hsame rfl (by decide +kernel) hn hfit (by simp only [List.length_cons]; omega) hdg (fun H1 locs1 hI1 => kk H1 locs1 hI1)
  · exact ur_put (D := D) (ci := 6) (v := v) (ty := .int) (C := "UnitRoom$Writer") (T := TW) (N := 10) hexec hb hts inW tyW tyW_ok nmW hown hK hI he rfl 6 (by decide) hlink hsame rfl (by decide +kernel) hn hfit (by simp only [List.length_cons]; omega) hdg (fun H1 locs1 hI1 => kk H1 locs1 hI1)
end URD
theorem dD_begin_0 : decode cD_begin 0 = .ok (.aload_n 0, 1) := by decide +kernel
theorem dD_begin_1 : decode cD_begin 1 = .ok (.lload_n 1, 1) := by decide +kernel
theorem dD_begin_2 : decode cD_begin 2 = .ok (.aload_n 0, 1) := by decide +kernel
theorem dD_begin_3 : decode cD_begin 3 = .ok (.getfield 27, 3) := by decide +kernel
theorem dD_begin_6 : decode cD_begin 6 = .ok (.i2l, 1) := by decide +kernel
theorem dD_begin_7 : decode cD_begin 7 = .ok (.ladd, 1) := by decide +kernel
theorem dD_begin_8 : decode cD_begin 8 = .ok (.putfield 7, 3) := by decide +kernel
theorem dD_begin_11 : decode cD_begin 11 = .ok (.aload_n 0, 1) := by decide +kernel
theorem dD_begin_12 : decode cD_begin 12 = .ok (.iload_n 3, 1) := by decide +kernel
theorem dD_begin_13 : decode cD_begin 13 = .ok (.putfield 17, 3) := by decide +kernel
theorem dD_begin_16 : decode cD_begin 16 = .ok (.return_, 1) := by decide +kernel
abbrev rmkD_begin : Room := { frames := 0, cells := 0, slots := 0, locals := 0 }
set_option maxHeartbeats 4000000 in
set_option maxRecDepth 100000 in
theorem kD_begin (l : Launch) (D : va_G) (E : ur_Ev) (h : ur_M) (q : Nat) (ci : Nat) (qb : Nat) (w : Int32) (du : Int32) (br : Int32) (tu : Int32) (ta : Int32) (fa : Int64) (tl : List Value) (nw : Int64) (k : Int32) (f0 : h q = some (.inr (ci, .int w :: .ref qb :: .int du :: .long fa :: .int br :: .int tu :: .int ta :: tl))) (hci : um_isD ci) : ur_Mv l yD_begin wsD_begin rmkD_begin D vwCl (ur_v E) [.ref q, .long nw, .int k] h (fun h2 => h2 = va_up h q (some (.inr (ci, .int w :: .ref qb :: .int du :: .long (nw + (du.toInt64)) :: .int br :: .int k :: .int ta :: tl)))) 0 0 := by
  intro sz
  refine ur_of (cc := cD_begin) (maxL := 4) (ret := none) (by decide) rfl (Nat.le_of_ble_eq_true rfl) ?_
  intro p e s m args below meth c ls Q hsz hx hb hml hr hlocks hnm hown hts hO hK hI hQ hl
  subst hsz
  have hV := hK.1
  have hts : ∀ w ∈ ur_G, w.before args s = true := fun w hw => hts w (List.mem_cons_of_mem _ hw)
  have hZ : ur_Z E (ur_A h s.heap.size) s s.heap := hO.1
  have hown : s.vm.findClass "UnitRoom$Device" = some m.cls := hown
  have hl : lv_has ls 4 [(0, .ref q), (1, .long nw), (3, .int k)] := hl
  refine lv_aload_n hx hb dD_begin_0 rfl (lv_at hl 0 rfl) ?_
  refine lv_lload_n hx hb dD_begin_1 rfl (lv_at hl 1 rfl) ?_
  refine lv_aload_n hx hb dD_begin_2 rfl (lv_at hl 0 rfl) ?_
  refine ur_gD2 hx hb hts hown hV hI hci f0 (hts _ mw75) (fun _ h9 => h9) dD_begin_3 ?_
  refine lv_i2l hx hb dD_begin_6 rfl ?_
  refine lv_ladd hx hb dD_begin_7 ?_
  refine ur_pD3 hx hb hts hown hV hI hci f0 (hts _ mw76) (fun _ h9 => h9) rfl rfl dD_begin_8 (fun H locs hI => ?_)
  obtain ⟨h1, eh1⟩ : ∃ z : ur_M, z = va_up h q (some (.inr (ci, .int w :: .ref qb :: .int du :: .long (nw + (du.toInt64)) :: .int br :: .int tu :: .int ta :: tl))) := ⟨_, rfl⟩
  replace hI : ur_I D vwCl (ur_A h s.heap.size) s.heap h1 H locs := by rw [eh1]; exact hI
  have q2 : h1 q = some (.inr (ci, .int w :: .ref qb :: .int du :: .long (nw + (du.toInt64)) :: .int br :: .int tu :: .int ta :: tl)) := by rw [eh1]; exact (va_up_self _ _ _)
  refine lv_aload_n hx hb dD_begin_11 rfl (lv_at hl 0 rfl) ?_
  refine lv_iload_n hx hb dD_begin_12 rfl (lv_at hl 2 rfl) ?_
  refine ur_pD5 hx hb hts hown hV hI hci q2 (hts _ mw80) (fun _ h9 => h9) rfl rfl dD_begin_13 (fun H locs hI => ?_)
  obtain ⟨h3, eh3⟩ : ∃ z : ur_M, z = va_up h1 q (some (.inr (ci, .int w :: .ref qb :: .int du :: .long (nw + (du.toInt64)) :: .int br :: .int k :: .int ta :: tl))) := ⟨_, rfl⟩
  replace hI : ur_I D vwCl (ur_A h s.heap.size) s.heap h3 H locs := by rw [eh3]; exact hI
  have q4 : h3 q = some (.inr (ci, .int w :: .ref qb :: .int du :: .long (nw + (du.toInt64)) :: .int br :: .int k :: .int ta :: tl)) := by rw [eh3]; exact (va_up_self _ _ _)
  exact ur_rv hx hb hr hlocks hI hQ (by rw [eh3, eh1, bx_uu]) dD_begin_16
theorem dD_bringTo_0 : decode cD_bringTo 0 = .ok (.aload_n 0, 1) := by decide +kernel
theorem dD_bringTo_1 : decode cD_bringTo 1 = .ok (.iload_n 1, 1) := by decide +kernel
theorem dD_bringTo_2 : decode cD_bringTo 2 = .ok (.putfield 21, 3) := by decide +kernel
theorem dD_bringTo_5 : decode cD_bringTo 5 = .ok (.aload_n 0, 1) := by decide +kernel
theorem dD_bringTo_6 : decode cD_bringTo 6 = .ok (.iconst 1, 1) := by decide +kernel
theorem dD_bringTo_7 : decode cD_bringTo 7 = .ok (.putfield 13, 3) := by decide +kernel
theorem dD_bringTo_10 : decode cD_bringTo 10 = .ok (.return_, 1) := by decide +kernel
abbrev rmkD_bringTo : Room := { frames := 0, cells := 0, slots := 0, locals := 0 }
set_option maxHeartbeats 4000000 in
set_option maxRecDepth 100000 in
theorem kD_bringTo (l : Launch) (D : va_G) (E : ur_Ev) (h : ur_M) (q : Nat) (ci : Nat) (qb : Nat) (w : Int32) (du : Int32) (br : Int32) (tu : Int32) (ta : Int32) (fa : Int64) (tl : List Value) (k : Int32) (f0 : h q = some (.inr (ci, .int w :: .ref qb :: .int du :: .long fa :: .int br :: .int tu :: .int ta :: tl))) (hci : um_isD ci) : ur_Mv l yD_bringTo wsD_bringTo rmkD_bringTo D vwCl (ur_v E) [.ref q, .int k] h (fun h2 => h2 = va_up h q (some (.inr (ci, .int w :: .ref qb :: .int du :: .long fa :: .int 1 :: .int tu :: .int k :: tl)))) 0 0 := by
  intro sz
  refine ur_of (cc := cD_bringTo) (maxL := 2) (ret := none) (by decide) rfl (Nat.le_of_ble_eq_true rfl) ?_
  intro p e s m args below meth c ls Q hsz hx hb hml hr hlocks hnm hown hts hO hK hI hQ hl
  subst hsz
  have hV := hK.1
  have hts : ∀ w ∈ ur_G, w.before args s = true := fun w hw => hts w (List.mem_cons_of_mem _ hw)
  have hZ : ur_Z E (ur_A h s.heap.size) s s.heap := hO.1
  have hown : s.vm.findClass "UnitRoom$Device" = some m.cls := hown
  have hl : lv_has ls 2 [(0, .ref q), (1, .int k)] := hl
  refine lv_aload_n hx hb dD_bringTo_0 rfl (lv_at hl 0 rfl) ?_
  refine lv_iload_n hx hb dD_bringTo_1 rfl (lv_at hl 1 rfl) ?_
  refine ur_pD6 hx hb hts hown hV hI hci f0 (hts _ mw81) (fun _ h9 => h9) rfl rfl dD_bringTo_2 (fun H locs hI => ?_)
  obtain ⟨h1, eh1⟩ : ∃ z : ur_M, z = va_up h q (some (.inr (ci, .int w :: .ref qb :: .int du :: .long fa :: .int br :: .int tu :: .int k :: tl))) := ⟨_, rfl⟩
  replace hI : ur_I D vwCl (ur_A h s.heap.size) s.heap h1 H locs := by rw [eh1]; exact hI
  have q2 : h1 q = some (.inr (ci, .int w :: .ref qb :: .int du :: .long fa :: .int br :: .int tu :: .int k :: tl)) := by rw [eh1]; exact (va_up_self _ _ _)
  refine lv_aload_n hx hb dD_bringTo_5 rfl (lv_at hl 0 rfl) ?_
  refine lv_iconst (v := 1) hx hb dD_bringTo_6 (by decide) ?_
  refine ur_pD4 hx hb hts hown hV hI hci q2 (hts _ mw78) (fun _ h9 => h9) rfl rfl dD_bringTo_7 (fun H locs hI => ?_)
  obtain ⟨h3, eh3⟩ : ∃ z : ur_M, z = va_up h1 q (some (.inr (ci, .int w :: .ref qb :: .int du :: .long fa :: .int 1 :: .int tu :: .int k :: tl))) := ⟨_, rfl⟩
  replace hI : ur_I D vwCl (ur_A h s.heap.size) s.heap h3 H locs := by rw [eh3]; exact hI
  have q4 : h3 q = some (.inr (ci, .int w :: .ref qb :: .int du :: .long fa :: .int 1 :: .int tu :: .int k :: tl)) := by rw [eh3]; exact (va_up_self _ _ _)
  exact ur_rv hx hb hr hlocks hI hQ (by rw [eh3, eh1, bx_uu]) dD_bringTo_10
theorem dD_deliver_0 : decode cD_deliver 0 = .ok (.aload_n 1, 1) := by decide +kernel
theorem dD_deliver_1 : decode cD_deliver 1 = .ok (.aload_n 0, 1) := by decide +kernel
theorem dD_deliver_2 : decode cD_deliver 2 = .ok (.getfield 36, 3) := by decide +kernel
theorem dD_deliver_5 : decode cD_deliver 5 = .ok (.aload_n 0, 1) := by decide +kernel
theorem dD_deliver_6 : decode cD_deliver 6 = .ok (.getfield 21, 3) := by decide +kernel
theorem dD_deliver_9 : decode cD_deliver 9 = .ok (.invokevirtual 40, 3) := by decide +kernel
theorem dD_deliver_12 : decode cD_deliver 12 = .ok (.aload_n 0, 1) := by decide +kernel
theorem dD_deliver_13 : decode cD_deliver 13 = .ok (.iconst 0, 1) := by decide +kernel
theorem dD_deliver_14 : decode cD_deliver 14 = .ok (.putfield 13, 3) := by decide +kernel
theorem dD_deliver_17 : decode cD_deliver 17 = .ok (.return_, 1) := by decide +kernel
abbrev rmkD_deliver : Room := { frames := 2, cells := 0, slots := 0, locals := 48 }
set_option maxHeartbeats 4000000 in
set_option maxRecDepth 100000 in
theorem kD_deliver (l : Launch) (D : va_G) (E : ur_Ev) (h : ur_M) (q : Nat) (qm : Nat) (q1 : Nat) (ci : Nat) (qb : Nat) (w : Int32) (du : Int32) (br : Int32) (tu : Int32) (ta : Int32) (fa : Int64) (tl : List Value) (g : Nat → Int32) (f : Nat → Int32) (n : Nat) (f0 : h q = some (.inr (ci, .int w :: .ref qb :: .int du :: .long fa :: .int br :: .int tu :: .int ta :: tl))) (f1 : h qb = some (.inl (E.1 0, n, .inl f))) (f2 : h qm = some (.inr (1, [.ref q1]))) (f3 : h q1 = some (.inl (E.1 0, 4000, .inl g))) (hci : um_isD ci) (hn : n ≤ 4000) (hne : q1 ≠ qb) (hqm : q ≠ qm) : ur_Mv l yD_deliver wsD_deliver rmkD_deliver D vwCl (ur_v E) [.ref q, .ref qm] h (fun h2 => h2 = va_up (va_up h q1 (some (.inl (E.1 0, 4000, .inl (um_cout g f ta n))))) q (some (.inr (ci, .int w :: .ref qb :: .int du :: .long fa :: .int 0 :: .int tu :: .int ta :: tl)))) 0 0 := by
  intro sz
  refine ur_of (cc := cD_deliver) (maxL := 2) (ret := none) (by decide) rfl (Nat.le_of_ble_eq_true rfl) ?_
  intro p e s m args below meth c ls Q hsz hx hb hml hr hlocks hnm hown hts hO hK hI hQ hl
  subst hsz
  have hV := hK.1
  have hts : ∀ w ∈ ur_G, w.before args s = true := fun w hw => hts w (List.mem_cons_of_mem _ hw)
  have hZ : ur_Z E (ur_A h s.heap.size) s s.heap := hO.1
  have hown : s.vm.findClass "UnitRoom$Device" = some m.cls := hown
  have hl : lv_has ls 2 [(0, .ref q), (1, .ref qm)] := hl
  refine lv_aload_n hx hb dD_deliver_0 rfl (lv_at hl 1 rfl) ?_
  refine lv_aload_n hx hb dD_deliver_1 rfl (lv_at hl 0 rfl) ?_
  refine ur_gD1 hx hb hts hown hV hI hci f0 (hts _ mw70) (fun _ h9 => h9) dD_deliver_2 ?_
  refine lv_aload_n hx hb dD_deliver_5 rfl (lv_at hl 0 rfl) ?_
  refine ur_gD6 hx hb hts hown hV hI hci f0 (hts _ mw81) (fun _ h9 => h9) dD_deliver_6 ?_
  refine ur_xv (va_runV (As := [.ref qb, .int ta]) (rest := []) ⟨hx, hb, hml, hown, hts⟩ (kM_co l D E h qm q1 qb g f n ta f2 f3 f1 (by first | assumption | omega | decide) (by first | assumption | omega | decide) s.heap.size) (cwV 2 hts (ur_gV mw293 mw294 mw295 mw2 mw296) rfl rfl rfl (by decide +kernel) ⟨(Nat.le_of_ble_eq_true rfl), (Nat.le_of_ble_eq_true rfl)⟩) ⟨ur_blind, va_recv hV (ur_one hI.1 f2) (ci := 1) (q0 := 0) rfl rfl, ur_pre hI hO hK (fun _ _ q => q)⟩ rfl rfl hl.1 rfl (lv_room (Nat.le_of_ble_eq_true rfl)) dD_deliver_9 ⟨Nat.le_of_ble_eq_true rfl, Nat.le_of_ble_eq_true rfl⟩) hI (fun h1 H locs p1 hI => ?_)
  have eh1 := p1
  have q2 : h1 q = some (.inr (ci, .int w :: .ref qb :: .int du :: .long fa :: .int br :: .int tu :: .int ta :: tl)) := by rw [eh1]; exact ((va_up_ne _ _ (ur_ne f0 f3 (by intro z; simp at z))).trans f0)
  have q3 : h1 qb = some (.inl (E.1 0, n, .inl f)) := by rw [eh1]; exact ((va_up_ne _ _ (Ne.symm hne)).trans f1)
  have q4 : h1 qm = some (.inr (1, [.ref q1])) := by rw [eh1]; exact ((va_up_ne _ _ (ur_ne f2 f3 (by intro z; simp at z))).trans f2)
  have q5 : h1 q1 = some (.inl (E.1 0, 4000, .inl (um_cout g f ta n))) := by rw [eh1]; exact (va_up_self _ _ _)
  refine lv_aload_n hx hb dD_deliver_12 rfl (lv_at hl 0 rfl) ?_
  refine lv_iconst (v := 0) hx hb dD_deliver_13 (by decide) ?_
  refine ur_pD4 hx hb hts hown hV hI hci q2 (hts _ mw78) (fun _ h9 => h9) rfl rfl dD_deliver_14 (fun H locs hI => ?_)
  obtain ⟨h6, eh6⟩ : ∃ z : ur_M, z = va_up h1 q (some (.inr (ci, .int w :: .ref qb :: .int du :: .long fa :: .int 0 :: .int tu :: .int ta :: tl))) := ⟨_, rfl⟩
  replace hI : ur_I D vwCl (ur_A h s.heap.size) s.heap h6 H locs := by rw [eh6]; exact hI
  have q7 : h6 q = some (.inr (ci, .int w :: .ref qb :: .int du :: .long fa :: .int 0 :: .int tu :: .int ta :: tl)) := by rw [eh6]; exact (va_up_self _ _ _)
  have q8 : h6 qb = some (.inl (E.1 0, n, .inl f)) := by rw [eh6]; exact ((va_up_ne _ _ (ur_ne q3 q2 (by intro z; simp at z))).trans q3)
  have q9 : h6 qm = some (.inr (1, [.ref q1])) := by rw [eh6]; exact ((va_up_ne _ _ (Ne.symm hqm)).trans q4)
  have q10 : h6 q1 = some (.inl (E.1 0, 4000, .inl (um_cout g f ta n))) := by rw [eh6]; exact ((va_up_ne _ _ (ur_ne q5 q2 (by intro z; simp at z))).trans q5)
  exact ur_rv hx hb hr hlocks hI hQ (by first | rfl | rw [eh6, eh1]) dD_deliver_17
def um_ahead (f : Int64) (t : Int32) (g : Int64) (u : Int32) : Bool := if lg_cmp f g < 0 then true else if lg_cmp f g = 0 then (if u ≤ t then false else true) else false
theorem dD_isDoneAheadOf_0 : decode cD_isDoneAheadOf 0 = .ok (.aload_n 0, 1) := by decide +kernel
theorem dD_isDoneAheadOf_1 : decode cD_isDoneAheadOf 1 = .ok (.getfield 7, 3) := by decide +kernel
theorem dD_isDoneAheadOf_4 : decode cD_isDoneAheadOf 4 = .ok (.aload_n 1, 1) := by decide +kernel
theorem dD_isDoneAheadOf_5 : decode cD_isDoneAheadOf 5 = .ok (.getfield 7, 3) := by decide +kernel
theorem dD_isDoneAheadOf_8 : decode cD_isDoneAheadOf 8 = .ok (.lcmp, 1) := by decide +kernel
theorem dD_isDoneAheadOf_9 : decode cD_isDoneAheadOf 9 = .ok (.ifCond .lt 26, 3) := by decide +kernel
theorem dD_isDoneAheadOf_12 : decode cD_isDoneAheadOf 12 = .ok (.aload_n 0, 1) := by decide +kernel
theorem dD_isDoneAheadOf_13 : decode cD_isDoneAheadOf 13 = .ok (.getfield 7, 3) := by decide +kernel
theorem dD_isDoneAheadOf_16 : decode cD_isDoneAheadOf 16 = .ok (.aload_n 1, 1) := by decide +kernel
theorem dD_isDoneAheadOf_17 : decode cD_isDoneAheadOf 17 = .ok (.getfield 7, 3) := by decide +kernel
theorem dD_isDoneAheadOf_20 : decode cD_isDoneAheadOf 20 = .ok (.lcmp, 1) := by decide +kernel
theorem dD_isDoneAheadOf_21 : decode cD_isDoneAheadOf 21 = .ok (.ifCond .ne 18, 3) := by decide +kernel
theorem dD_isDoneAheadOf_24 : decode cD_isDoneAheadOf 24 = .ok (.aload_n 0, 1) := by decide +kernel
theorem dD_isDoneAheadOf_25 : decode cD_isDoneAheadOf 25 = .ok (.getfield 17, 3) := by decide +kernel
theorem dD_isDoneAheadOf_28 : decode cD_isDoneAheadOf 28 = .ok (.aload_n 1, 1) := by decide +kernel
theorem dD_isDoneAheadOf_29 : decode cD_isDoneAheadOf 29 = .ok (.getfield 17, 3) := by decide +kernel
theorem dD_isDoneAheadOf_32 : decode cD_isDoneAheadOf 32 = .ok (.if_icmp .ge 7, 3) := by decide +kernel
theorem dD_isDoneAheadOf_35 : decode cD_isDoneAheadOf 35 = .ok (.iconst 1, 1) := by decide +kernel
theorem dD_isDoneAheadOf_36 : decode cD_isDoneAheadOf 36 = .ok (.goto 4, 3) := by decide +kernel
theorem dD_isDoneAheadOf_39 : decode cD_isDoneAheadOf 39 = .ok (.iconst 0, 1) := by decide +kernel
theorem dD_isDoneAheadOf_40 : decode cD_isDoneAheadOf 40 = .ok (.ireturn, 1) := by decide +kernel
abbrev rmkD_ahead : Room := { frames := 0, cells := 0, slots := 0, locals := 0 }
set_option maxHeartbeats 4000000 in
set_option maxRecDepth 100000 in
theorem kD_ahead (l : Launch) (D : va_G) (E : ur_Ev) (h : ur_M) (q : Nat) (o : Nat) (ci : Nat) (qb : Nat) (w : Int32) (du : Int32) (br : Int32) (tu : Int32) (ta : Int32) (fa : Int64) (tl : List Value) (cj : Nat) (qc : Nat) (w2 : Int32) (du2 : Int32) (br2 : Int32) (tu2 : Int32) (ta2 : Int32) (fa2 : Int64) (tl2 : List Value) (f0 : h q = some (.inr (ci, .int w :: .ref qb :: .int du :: .long fa :: .int br :: .int tu :: .int ta :: tl))) (f1 : h o = some (.inr (cj, .int w2 :: .ref qc :: .int du2 :: .long fa2 :: .int br2 :: .int tu2 :: .int ta2 :: tl2))) (hci : um_isD ci) (hcj : um_isD cj) : ur_Mi l yD_isDoneAheadOf wsD_isDoneAheadOf rmkD_ahead D vwCl (ur_v E) [.ref q, .ref o] h (fun r h2 => r = um_b (um_ahead fa tu fa2 tu2) ∧ h2 = h) 0 0 := by
  intro sz
  refine ur_of (cc := cD_isDoneAheadOf) (maxL := 2) (ret := (some .boolean)) (by decide) rfl (Nat.le_of_ble_eq_true rfl) ?_
  intro p e s m args below meth c ls Q hsz hx hb hml hr hlocks hnm hown hts hO hK hI hQ hl
  subst hsz
  have hV := hK.1
  have hts : ∀ w ∈ ur_G, w.before args s = true := fun w hw => hts w (List.mem_cons_of_mem _ hw)
  have hZ : ur_Z E (ur_A h s.heap.size) s s.heap := hO.1
  have hown : s.vm.findClass "UnitRoom$Device" = some m.cls := hown
  have hl : lv_has ls 2 [(0, .ref q), (1, .ref o)] := hl
  refine lv_aload_n hx hb dD_isDoneAheadOf_0 rfl (lv_at hl 0 rfl) ?_
  refine ur_gD3 hx hb hts hown hV hI hci f0 (hts _ mw76) (fun _ h9 => h9) dD_isDoneAheadOf_1 ?_
  refine lv_aload_n hx hb dD_isDoneAheadOf_4 rfl (lv_at hl 1 rfl) ?_
  refine ur_gD3 hx hb hts hown hV hI hcj f1 (hts _ mw76) (fun _ h9 => h9) dD_isDoneAheadOf_5 ?_
  refine W.lcmp hx hb dD_isDoneAheadOf_8 ?_
  refine lv_if_lt (tgt := 35) hx hb dD_isDoneAheadOf_9 (by decide) (fun c1 => ?_) (fun c1 => ?_)
  · refine lv_iconst (v := 1) hx hb dD_isDoneAheadOf_35 (by decide) ?_
    refine lv_goto (tgt := 40) hx hb dD_isDoneAheadOf_36 (by decide) ?_
    exact ur_rz hx hb hr hlocks hI hQ rfl ⟨(by first | (simp only [um_ahead, c1, ↓reduceIte]; done) | (simp only [um_ahead, c1, ↓reduceIte]; rfl) | rfl), rfl⟩ dD_isDoneAheadOf_40
  · refine lv_aload_n hx hb dD_isDoneAheadOf_12 rfl (lv_at hl 0 rfl) ?_
    refine ur_gD3 hx hb hts hown hV hI hci f0 (hts _ mw76) (fun _ h9 => h9) dD_isDoneAheadOf_13 ?_
    refine lv_aload_n hx hb dD_isDoneAheadOf_16 rfl (lv_at hl 1 rfl) ?_
    refine ur_gD3 hx hb hts hown hV hI hcj f1 (hts _ mw76) (fun _ h9 => h9) dD_isDoneAheadOf_17 ?_
    refine W.lcmp hx hb dD_isDoneAheadOf_20 ?_
    refine lv_if_ne (tgt := 39) hx hb dD_isDoneAheadOf_21 (by decide) (fun c2 => ?_) (fun c2 => ?_)
    · refine lv_iconst (v := 0) hx hb dD_isDoneAheadOf_39 (by decide) ?_
      exact ur_rz hx hb hr hlocks hI hQ rfl ⟨(by first | (simp only [um_ahead, c1, c2, ↓reduceIte]; done) | (simp only [um_ahead, c1, c2, ↓reduceIte]; rfl) | rfl), rfl⟩ dD_isDoneAheadOf_40
    · refine lv_aload_n hx hb dD_isDoneAheadOf_24 rfl (lv_at hl 0 rfl) ?_
      refine ur_gD5 hx hb hts hown hV hI hci f0 (hts _ mw80) (fun _ h9 => h9) dD_isDoneAheadOf_25 ?_
      refine lv_aload_n hx hb dD_isDoneAheadOf_28 rfl (lv_at hl 1 rfl) ?_
      refine ur_gD5 hx hb hts hown hV hI hcj f1 (hts _ mw80) (fun _ h9 => h9) dD_isDoneAheadOf_29 ?_
      refine lv_icmp_ge (tgt := 39) hx hb dD_isDoneAheadOf_32 (by decide) (fun c3 => ?_) (fun c3 => ?_)
      · refine lv_iconst (v := 0) hx hb dD_isDoneAheadOf_39 (by decide) ?_
        exact ur_rz hx hb hr hlocks hI hQ rfl ⟨(by first | (simp only [um_ahead, c1, c2, c3, ↓reduceIte]; done) | (simp only [um_ahead, c1, c2, c3, ↓reduceIte]; rfl) | rfl), rfl⟩ dD_isDoneAheadOf_40
      · refine lv_iconst (v := 1) hx hb dD_isDoneAheadOf_35 (by decide) ?_
        refine lv_goto (tgt := 40) hx hb dD_isDoneAheadOf_36 (by decide) ?_
        exact ur_rz hx hb hr hlocks hI hQ rfl ⟨(by first | (simp only [um_ahead, c1, c2, c3, ↓reduceIte]; done) | (simp only [um_ahead, c1, c2, c3, ↓reduceIte]; rfl) | rfl), rfl⟩ dD_isDoneAheadOf_40
end
section
theorem ur_castD {E : ur_Ev} {s : State} (hX : ur_X E s) {C : String} (hC : (C, "UnitRoom$Device") ∈ ur_nC) : ∀ comp c0 : ClassId, s.vm.findClass "UnitRoom$Device" = some comp → s.vm.findClass C = some c0 → s.vm.assignable c0 comp = true := by
  intro comp c0 h1 h2
  obtain ⟨a, b, f1, f2, f3⟩ := Cond.castable_spec (va_Nw.use (A := #[]) rfl (hX.2.2.1 _ hC))
  cases h1.symm.trans f2
  cases h2.symm.trans f1
  exact f3
theorem ur_compD {E : ur_Ev} {s : State} (hX : ur_X E s) : ∀ comp : ClassId, s.vm.findClass "UnitRoom$Device" = some comp → ∃ kc : Class, s.vm.classes[comp]? = some kc := by
  intro comp h1
  obtain ⟨c2, k, f1, f2⟩ := hX.2.2.2.2.2.2.2.1
  cases h1.symm.trans f1
  exact ⟨k, f2⟩
theorem dB_wordAt_0 : decode cB_wordAt 0 = .ok (.iload_n 1, 1) := by decide +kernel
theorem dB_wordAt_1 : decode cB_wordAt 1 = .ok (.ifCond .lt 22, 3) := by decide +kernel
theorem dB_wordAt_4 : decode cB_wordAt 4 = .ok (.iload_n 1, 1) := by decide +kernel
theorem dB_wordAt_5 : decode cB_wordAt 5 = .ok (.aload_n 0, 1) := by decide +kernel
theorem dB_wordAt_6 : decode cB_wordAt 6 = .ok (.getfield 13, 3) := by decide +kernel
theorem dB_wordAt_9 : decode cB_wordAt 9 = .ok (.arraylength, 1) := by decide +kernel
theorem dB_wordAt_10 : decode cB_wordAt 10 = .ok (.if_icmp .ge 13, 3) := by decide +kernel
theorem dB_wordAt_13 : decode cB_wordAt 13 = .ok (.iload_n 2, 1) := by decide +kernel
theorem dB_wordAt_14 : decode cB_wordAt 14 = .ok (.ifCond .lt 9, 3) := by decide +kernel
theorem dB_wordAt_17 : decode cB_wordAt 17 = .ok (.iload_n 2, 1) := by decide +kernel
theorem dB_wordAt_18 : decode cB_wordAt 18 = .ok (.bipush 100, 2) := by decide +kernel
theorem dB_wordAt_20 : decode cB_wordAt 20 = .ok (.if_icmp .lt 6, 3) := by decide +kernel
theorem dB_wordAt_23 : decode cB_wordAt 23 = .ok (.ldc 17, 2) := by decide +kernel
theorem dB_wordAt_25 : decode cB_wordAt 25 = .ok (.ireturn, 1) := by decide +kernel
theorem dB_wordAt_26 : decode cB_wordAt 26 = .ok (.aload_n 0, 1) := by decide +kernel
theorem dB_wordAt_27 : decode cB_wordAt 27 = .ok (.getfield 13, 3) := by decide +kernel
theorem dB_wordAt_30 : decode cB_wordAt 30 = .ok (.iload_n 1, 1) := by decide +kernel
theorem dB_wordAt_31 : decode cB_wordAt 31 = .ok (.aaload, 1) := by decide +kernel
theorem dB_wordAt_32 : decode cB_wordAt 32 = .ok (.astore_n 3, 1) := by decide +kernel
theorem dB_wordAt_33 : decode cB_wordAt 33 = .ok (.aload_n 3, 1) := by decide +kernel
theorem dB_wordAt_34 : decode cB_wordAt 34 = .ok (.ifnull 9, 3) := by decide +kernel
theorem dB_wordAt_37 : decode cB_wordAt 37 = .ok (.iload_n 2, 1) := by decide +kernel
theorem dB_wordAt_38 : decode cB_wordAt 38 = .ok (.aload_n 3, 1) := by decide +kernel
theorem dB_wordAt_39 : decode cB_wordAt 39 = .ok (.arraylength, 1) := by decide +kernel
theorem dB_wordAt_40 : decode cB_wordAt 40 = .ok (.if_icmp .lt 7, 3) := by decide +kernel
theorem dB_wordAt_43 : decode cB_wordAt 43 = .ok (.iconst 0, 1) := by decide +kernel
theorem dB_wordAt_44 : decode cB_wordAt 44 = .ok (.goto 6, 3) := by decide +kernel
theorem dB_wordAt_47 : decode cB_wordAt 47 = .ok (.aload_n 3, 1) := by decide +kernel
theorem dB_wordAt_48 : decode cB_wordAt 48 = .ok (.iload_n 2, 1) := by decide +kernel
theorem dB_wordAt_49 : decode cB_wordAt 49 = .ok (.iaload, 1) := by decide +kernel
theorem dB_wordAt_50 : decode cB_wordAt 50 = .ok (.ireturn, 1) := by decide +kernel
abbrev rmkB_wordAt_T : Room := { frames := 0, cells := 0, slots := 0, locals := 0 }
set_option maxHeartbeats 4000000 in
set_option maxRecDepth 100000 in
theorem kB_wordAt_T (l : Launch) (D : va_G) (E : ur_Ev) (h : ur_M) (q : Nat) (qb : Nat) (ql : Nat) (du : Int32) (br : Int32) (tu : Int32) (ta : Int32) (ps : Int32) (fa : Int64) (f : Nat → Option Nat) (R : Nat → Nat → Int32) (b : Int32) (i : Int32) (f0 : h q = some (.inr (3, [.int 100, .ref qb, .int du, .long fa, .int br, .int tu, .int ta, .int ps, .ref ql]))) (f1 : h ql = some (.inl (E.1 3, 64, .inr (.inr (.inr (.inr f)))))) (hrow : um_rowsAt E h f R) : ur_Mi l yB_wordAt wsB_wordAt rmkB_wordAt_T D vwCl (ur_v E) [.ref q, .int b, .int i] h (fun r h2 => r = um_wordAt R b i ∧ h2 = h) 0 0 := by
  intro sz
  refine ur_of (cc := cB_wordAt) (maxL := 4) (ret := (some .int)) (by decide) rfl (Nat.le_of_ble_eq_true rfl) ?_
  intro p e s m args below meth c ls Q hsz hx hb hml hr hlocks hnm hown hts hO hK hI hQ hl
  subst hsz
  have hV := hK.1
  have hts : ∀ w ∈ ur_G, w.before args s = true := fun w hw => hts w (List.mem_cons_of_mem _ hw)
  have hZ : ur_Z E (ur_A h s.heap.size) s s.heap := hO.1
  have hown : s.vm.findClass "UnitRoom$BlockDevice" = some m.cls := hown
  have hl : lv_has ls 4 [(0, .ref q), (1, .int b), (2, .int i)] := hl
  refine lv_iload_n hx hb dB_wordAt_0 rfl (lv_at hl 1 rfl) ?_
  refine lv_if_lt (tgt := 23) hx hb dB_wordAt_1 (by decide) (fun c1 => ?_) (fun c1 => ?_)
  · refine lv_ldc (v := 2147483647) hx hb hown (hts _ mw326) dB_wordAt_23 ?_
    exact ur_ri hx hb hr hlocks hI hQ ⟨(by simp only [um_wordAt, c1, ↓reduceIte]), rfl⟩ dB_wordAt_25
  · refine lv_iload_n hx hb dB_wordAt_4 rfl (lv_at hl 1 rfl) ?_
    refine lv_aload_n hx hb dB_wordAt_5 rfl (lv_at hl 0 rfl) ?_
    refine va_get (D := D) (ci := 3) (v := .ref ql) (C := "UnitRoom$Tape") (T := TT) (N := 9) hx hb hts inT hown hV (ur_one hI.1 f0) 0 rfl rfl 8 (by decide) (hts _ mw117) (fun _ h9 => h9) rfl dB_wordAt_6 ?_
    refine va_alen (v := 64) hx hb hV (ur_one hI.1 f1) 0 3 rfl rfl rfl dB_wordAt_9 ?_
    refine lv_icmp_ge (tgt := 23) hx hb dB_wordAt_10 (by decide) (fun c2 => ?_) (fun c2 => ?_)
    · refine lv_ldc (v := 2147483647) hx hb hown (hts _ mw326) dB_wordAt_23 ?_
      exact ur_ri hx hb hr hlocks hI hQ ⟨(by simp only [um_wordAt, c1, c2, ↓reduceIte]), rfl⟩ dB_wordAt_25
    · refine lv_iload_n hx hb dB_wordAt_13 rfl (lv_at hl 2 rfl) ?_
      refine lv_if_lt (tgt := 23) hx hb dB_wordAt_14 (by decide) (fun c3 => ?_) (fun c3 => ?_)
      · refine lv_ldc (v := 2147483647) hx hb hown (hts _ mw326) dB_wordAt_23 ?_
        exact ur_ri hx hb hr hlocks hI hQ ⟨(by simp only [um_wordAt, c1, c2, c3, ↓reduceIte]), rfl⟩ dB_wordAt_25
      · refine lv_iload_n hx hb dB_wordAt_17 rfl (lv_at hl 2 rfl) ?_
        refine lv_bipush (v := 100) hx hb dB_wordAt_18 (by decide) ?_
        refine lv_icmp_lt (tgt := 26) hx hb dB_wordAt_20 (by decide) (fun c4 => ?_) (fun c4 => ?_)
        · refine lv_aload_n hx hb dB_wordAt_26 rfl (lv_at hl 0 rfl) ?_
          refine va_get (D := D) (ci := 3) (v := .ref ql) (C := "UnitRoom$Tape") (T := TT) (N := 9) hx hb hts inT hown hV (ur_one hI.1 f0) 0 rfl rfl 8 (by decide) (hts _ mw117) (fun _ h9 => h9) rfl dB_wordAt_27 ?_
          refine lv_iload_n hx hb dB_wordAt_30 rfl (lv_at hl 1 rfl) ?_
          refine ur_aldA hx hb hV hI 3 f1 rfl rfl (um_in' c1 c2 (by decide)) dB_wordAt_31 ?_
          refine ur_asn (lv' := [(3, va_rf (f b.toNatClampNeg)), (0, .ref q), (1, .int b), (2, .int i)]) hx hb dB_wordAt_32 rfl hl (by decide) rfl (fun ls hl => ?_)
          refine ur_aln hx hb dB_wordAt_33 rfl (lv_at hl 0 rfl) ?_
          refine ur_ifn (tgt := 43) hx hb dB_wordAt_34 (by decide) (fun c5 => ?_) (fun a6 c5 => ?_)
          · rw [c5] at hl
            have hb9 : b.toNatClampNeg < 64 := um_lt c1 c2 (by decide)
            refine lv_iconst (v := 0) hx hb dB_wordAt_43 (by decide) ?_
            refine lv_goto (tgt := 50) hx hb dB_wordAt_44 (by decide) ?_
            exact ur_ri hx hb hr hlocks hI hQ ⟨(by simp only [um_wordAt, c1, c2, c3, c4, ↓reduceIte]; rw [hrow.2 _ hb9 c5]), rfl⟩ dB_wordAt_50
          · rw [c5] at hl
            have hb9 : b.toNatClampNeg < 64 := um_lt c1 c2 (by decide)
            have fr : h a6 = some (.inl (E.1 0, 100, .inl (R b.toNatClampNeg))) := hrow.1 _ hb9 _ c5
            refine lv_iload_n hx hb dB_wordAt_37 rfl (lv_at hl 3 rfl) ?_
            refine lv_aload_n hx hb dB_wordAt_38 rfl (lv_at hl 0 rfl) ?_
            refine va_alen (v := 100) hx hb hV (ur_one hI.1 fr) 0 0 rfl rfl rfl dB_wordAt_39 ?_
            refine lv_icmp_lt (tgt := 47) hx hb dB_wordAt_40 (by decide) (fun c7 => ?_) (fun c7 => absurd c7 (not_not_intro c4))
            refine lv_aload_n hx hb dB_wordAt_47 rfl (lv_at hl 0 rfl) ?_
            refine lv_iload_n hx hb dB_wordAt_48 rfl (lv_at hl 3 rfl) ?_
            refine va_iald hx hb hV (ur_one hI.1 fr) 0 0 rfl rfl (um_in c3 c4 (by decide)) dB_wordAt_49 ?_
            exact ur_ri hx hb hr hlocks hI hQ ⟨(by simp only [um_wordAt, c1, c2, c3, c4, ↓reduceIte]), rfl⟩ dB_wordAt_50
        · refine lv_ldc (v := 2147483647) hx hb hown (hts _ mw326) dB_wordAt_23 ?_
          exact ur_ri hx hb hr hlocks hI hQ ⟨(by simp only [um_wordAt, c1, c2, c3, c4, ↓reduceIte]), rfl⟩ dB_wordAt_25
theorem dB_readBlock_0 : decode cB_readBlock 0 = .ok (.iconst 0, 1) := by decide +kernel
theorem dB_readBlock_1 : decode cB_readBlock 1 = .ok (.istore_n 3, 1) := by decide +kernel
theorem dB_readBlock_2 : decode cB_readBlock 2 = .ok (.iload_n 3, 1) := by decide +kernel
theorem dB_readBlock_3 : decode cB_readBlock 3 = .ok (.aload_n 0, 1) := by decide +kernel
theorem dB_readBlock_4 : decode cB_readBlock 4 = .ok (.getfield 18, 3) := by decide +kernel
theorem dB_readBlock_7 : decode cB_readBlock 7 = .ok (.arraylength, 1) := by decide +kernel
theorem dB_readBlock_8 : decode cB_readBlock 8 = .ok (.if_icmp .ge 21, 3) := by decide +kernel
theorem dB_readBlock_11 : decode cB_readBlock 11 = .ok (.aload_n 0, 1) := by decide +kernel
theorem dB_readBlock_12 : decode cB_readBlock 12 = .ok (.getfield 18, 3) := by decide +kernel
theorem dB_readBlock_15 : decode cB_readBlock 15 = .ok (.iload_n 3, 1) := by decide +kernel
theorem dB_readBlock_16 : decode cB_readBlock 16 = .ok (.aload_n 0, 1) := by decide +kernel
theorem dB_readBlock_17 : decode cB_readBlock 17 = .ok (.iload_n 1, 1) := by decide +kernel
theorem dB_readBlock_18 : decode cB_readBlock 18 = .ok (.iload_n 3, 1) := by decide +kernel
theorem dB_readBlock_19 : decode cB_readBlock 19 = .ok (.invokevirtual 21, 3) := by decide +kernel
theorem dB_readBlock_22 : decode cB_readBlock 22 = .ok (.iastore, 1) := by decide +kernel
theorem dB_readBlock_23 : decode cB_readBlock 23 = .ok (.iinc 3 1, 3) := by decide +kernel
theorem dB_readBlock_26 : decode cB_readBlock 26 = .ok (.goto (-24), 3) := by decide +kernel
theorem dB_readBlock_29 : decode cB_readBlock 29 = .ok (.aload_n 0, 1) := by decide +kernel
theorem dB_readBlock_30 : decode cB_readBlock 30 = .ok (.iload_n 2, 1) := by decide +kernel
theorem dB_readBlock_31 : decode cB_readBlock 31 = .ok (.invokevirtual 25, 3) := by decide +kernel
theorem dB_readBlock_34 : decode cB_readBlock 34 = .ok (.return_, 1) := by decide +kernel
abbrev rmkB_read_T : Room := { frames := 1, cells := 0, slots := 0, locals := 23 }
set_option maxHeartbeats 4000000 in
set_option maxRecDepth 100000 in
theorem kB_read_T (l : Launch) (D : va_G) (E : ur_Ev) (h : ur_M) (q : Nat) (qb : Nat) (ql : Nat) (du : Int32) (br : Int32) (tu : Int32) (ta : Int32) (ps : Int32) (fa : Int64) (f : Nat → Option Nat) (R : Nat → Nat → Int32) (o : Nat → Int32) (b : Int32) (a : Int32) (f0 : h q = some (.inr (3, [.int 100, .ref qb, .int du, .long fa, .int br, .int tu, .int ta, .int ps, .ref ql]))) (f1 : h ql = some (.inl (E.1 3, 64, .inr (.inr (.inr (.inr f)))))) (f2 : h qb = some (.inl (E.1 0, 100, .inl o))) (hrow : um_rowsAt E h f R) (hrb : ∀ j, j < 64 → f j ≠ some qb) : ur_Mv l yB_readBlock wsB_readBlock rmkB_read_T D vwCl (ur_v E) [.ref q, .int b, .int a] h (fun h2 => h2 = va_up (va_up h qb (some (.inl (E.1 0, 100, .inl (um_bring R b o 100))))) q (some (.inr (3, [.int 100, .ref qb, .int du, .long fa, .int 1, .int tu, .int a, .int ps, .ref ql])))) 0 0 := by
  intro sz
  refine ur_of (cc := cB_readBlock) (maxL := 4) (ret := none) (by decide) rfl (Nat.le_of_ble_eq_true rfl) ?_
  intro p e s m args below meth c ls Q hsz hx hb hml hr hlocks hnm hown hts hO hK hI hQ hl
  subst hsz
  have hV := hK.1
  have hts : ∀ w ∈ ur_G, w.before args s = true := fun w hw => hts w (List.mem_cons_of_mem _ hw)
  have hZ : ur_Z E (ur_A h s.heap.size) s s.heap := hO.1
  have hown : s.vm.findClass "UnitRoom$BlockDevice" = some m.cls := hown
  have hl : lv_has ls 4 [(0, .ref q), (1, .int b), (2, .int a)] := hl
  refine lv_iconst (v := 0) hx hb dB_readBlock_0 (by decide) ?_
  refine lv_istore_n (lv' := [(3, .int 0), (0, .ref q), (1, .int b), (2, .int a)]) hx hb dB_readBlock_1 rfl hl (by decide) rfl (fun ls hl => ?_)
  have lpn1 : ∀ (n1 : Nat) (i : Nat) (hn1 : ur_M) (H : Heap) (locs : List Loc) (ls : Array Slot), 100 - i < n1 → (i ≤ 100) → hn1 = va_up h qb (some (.inl (E.1 0, 100, .inl (um_bring R b o i)))) → ur_I D vwCl (ur_A h s.heap.size) s.heap hn1 H locs → lv_has ls 4 [(0, .ref q), (1, .int b), (2, .int a), (3, .int (nI i))] → W p l e rmkB_read_T s m args below meth c H locs 0 0 Q (F0 m 2 ls []) := by
    intro n1
    induction n1 with
    | zero => intro i hn1 H locs ls hnn1; exact absurd hnn1 (Nat.not_lt_zero _)
    | succ n1 ihn1 =>
      intro i hn1 H locs ls hnn1 hi ehn1 hI hl
      have q2 : hn1 q = some (.inr (3, [.int 100, .ref qb, .int du, .long fa, .int br, .int tu, .int ta, .int ps, .ref ql])) := by rw [ehn1]; exact (va_up_ne _ _ (ur_ne f0 f2 (by intro z; simp at z))).trans f0
      have q3 : hn1 ql = some (.inl (E.1 3, 64, .inr (.inr (.inr (.inr f))))) := by rw [ehn1]; exact (va_up_ne _ _ (ur_ne f1 f2 (by intro z; simp at z))).trans f1
      have q4 : hn1 qb = some (.inl (E.1 0, 100, .inl (um_bring R b o i))) := by rw [ehn1]; exact va_up_self _ _ _
      refine lv_iload_n hx hb dB_readBlock_2 rfl (lv_at hl 3 rfl) ?_
      refine lv_aload_n hx hb dB_readBlock_3 rfl (lv_at hl 0 rfl) ?_
      refine va_get (D := D) (ci := 3) (v := .ref qb) (C := "UnitRoom$Tape") (T := TT) (N := 9) hx hb hts inT hown hV (ur_one hI.1 q2) 0 rfl rfl 1 (by decide) (hts _ mw71) (fun x9 h9 => u_same (hts _ mw72) x9 h9) rfl dB_readBlock_4 ?_
      refine va_alen (v := 100) hx hb hV (ur_one hI.1 q4) 0 0 rfl rfl rfl dB_readBlock_7 ?_
      refine lv_icmp_ge (tgt := 29) hx hb dB_readBlock_8 (by decide) (fun c5 => ?_) (fun c5 => ?_)
      · have he9 : i = 100 := Nat.le_antisymm hi (Nat.not_lt.mp (fun z9 => nI_ge z9 (by decide) c5))
        refine lv_aload_n hx hb dB_readBlock_29 rfl (lv_at hl 0 rfl) ?_
        refine lv_iload_n hx hb dB_readBlock_30 rfl (lv_at hl 2 rfl) ?_
        refine ur_xv (va_runU (As := [.int a]) (rest := []) ⟨hx, hb, hml, hown, hts⟩ (kD_bringTo l D E hn1 q 3 qb 100 du br tu ta fa ([.int ps, .ref ql]) a q2 (by unfold um_isD; decide) H.size) (va_cwU (owner := "UnitRoom$Device") 1 hts (ur_gU mw327 mw328 mw331 mw332 mw4 mw333) rfl rfl rfl rfl (by decide +kernel) ⟨(Nat.le_of_ble_eq_true rfl), (Nat.le_of_ble_eq_true rfl)⟩) ⟨ur_blind, va_recv hV (ur_one hI.1 q2) (ci := 3) (q0 := 0) rfl rfl, ur_pre hI hO hK (fun _ _ q => q)⟩ rfl rfl hl.1 rfl (lv_room (Nat.le_of_ble_eq_true rfl)) dB_readBlock_31 ⟨Nat.le_of_ble_eq_true rfl, Nat.le_of_ble_eq_true rfl⟩) hI (fun h6 H locs p6 hI => ?_)
        have eh6 := p6
        have q7 : h6 q = some (.inr (3, [.int 100, .ref qb, .int du, .long fa, .int 1, .int tu, .int a, .int ps, .ref ql])) := by rw [eh6]; exact (va_up_self _ _ _)
        have q8 : h6 ql = some (.inl (E.1 3, 64, .inr (.inr (.inr (.inr f))))) := by rw [eh6]; exact ((va_up_ne _ _ (ur_ne q3 q2 (by intro z; simp at z))).trans q3)
        have q9 : h6 qb = some (.inl (E.1 0, 100, .inl (um_bring R b o i))) := by rw [eh6]; exact ((va_up_ne _ _ (ur_ne q4 q2 (by intro z; simp at z))).trans q4)
        exact ur_rv hx hb hr hlocks hI hQ (by rw [eh6, ehn1, he9]) dB_readBlock_34
      · have hlt : i < 100 := Nat.not_le.mp (fun z9 => c5 (nI_le z9 (by omega)))
        refine lv_aload_n hx hb dB_readBlock_11 rfl (lv_at hl 0 rfl) ?_
        refine va_get (D := D) (ci := 3) (v := .ref qb) (C := "UnitRoom$Tape") (T := TT) (N := 9) hx hb hts inT hown hV (ur_one hI.1 q2) 0 rfl rfl 1 (by decide) (hts _ mw71) (fun x9 h9 => u_same (hts _ mw72) x9 h9) rfl dB_readBlock_12 ?_
        refine lv_iload_n hx hb dB_readBlock_15 rfl (lv_at hl 3 rfl) ?_
        refine lv_aload_n hx hb dB_readBlock_16 rfl (lv_at hl 0 rfl) ?_
        refine lv_iload_n hx hb dB_readBlock_17 rfl (lv_at hl 1 rfl) ?_
        refine lv_iload_n hx hb dB_readBlock_18 rfl (lv_at hl 3 rfl) ?_
        refine ur_xi (va_runU (As := [.int b, .int (nI i)]) (rest := [.int (nI i), .ref qb]) ⟨hx, hb, hml, hown, hts⟩ (kB_wordAt_T l D E hn1 q qb ql du br tu ta ps fa f R b (nI i) q2 q3 (by rw [ehn1]; exact hrow.up hrb) H.size) (va_cwU (owner := "UnitRoom$BlockDevice") 2 hts (ur_gU mw320 mw322 mw324 mw321 mw7 mw325) rfl rfl rfl rfl (by decide +kernel) ⟨(Nat.le_of_ble_eq_true rfl), (Nat.le_of_ble_eq_true rfl)⟩) ⟨ur_blind, va_recv hV (ur_one hI.1 q2) (ci := 3) (q0 := 0) rfl rfl, ur_pre hI hO hK (fun _ _ q => q)⟩ rfl rfl hl.1 rfl (lv_room (Nat.le_of_ble_eq_true rfl)) dB_readBlock_19 ⟨Nat.le_of_ble_eq_true rfl, Nat.le_of_ble_eq_true rfl⟩) hI (fun r10 h10 H locs p10 hI => ?_)
        obtain ⟨er10, eh10⟩ := p10
        replace eh10 := eh10.symm; subst eh10
        replace er10 := er10.symm; subst er10
        refine ur_iast hx hb hV hI 0 q4 rfl (vp_in_nI hlt (by decide)) dB_readBlock_22 (fun H locs hI => ?_)
        obtain ⟨h11, eh11⟩ : ∃ z : ur_M, z = va_up hn1 qb (some (.inl (E.1 0, 100, .inl (upd (um_bring R b o i) (Int32.toNatClampNeg (nI i)) (um_wordAt R b (nI i)))))) := ⟨_, rfl⟩
        replace hI : ur_I D vwCl (ur_A h s.heap.size) s.heap h11 H locs := by rw [eh11]; exact hI
        have q12 : h11 q = some (.inr (3, [.int 100, .ref qb, .int du, .long fa, .int br, .int tu, .int ta, .int ps, .ref ql])) := by rw [eh11]; exact ((va_up_ne _ _ (ur_ne q2 q4 (by intro z; simp at z))).trans q2)
        have q13 : h11 ql = some (.inl (E.1 3, 64, .inr (.inr (.inr (.inr f))))) := by rw [eh11]; exact ((va_up_ne _ _ (ur_ne q3 q4 (by intro z; simp at z))).trans q3)
        have q14 : h11 qb = some (.inl (E.1 0, 100, .inl (upd (um_bring R b o i) (Int32.toNatClampNeg (nI i)) (um_wordAt R b (nI i))))) := by rw [eh11]; exact (va_up_self _ _ _)
        refine lv_iinc (v := ((nI i) + 1)) (lv' := [(3, .int ((nI i) + 1)), (0, .ref q), (1, .int b), (2, .int a)]) hx hb dB_readBlock_23 hl (k := 3) rfl rfl (by decide) rfl (fun ls hl => ?_)
        refine lv_goto (tgt := 2) hx hb dB_readBlock_26 (by decide) ?_
        rw [nI_1] at hl
        exact ihn1 (i + 1) h11 H locs ls (by omega) hlt (by rw [eh11, ehn1, bx_uu, nI_clamp (by omega), um_bring_succ]) hI (lv_sub hl [1, 2, 3, 0] rfl)
  exact lpn1 _ 0 h _ _ ls (Nat.lt_succ_self _) (by decide) ((by rw [show um_bring R b o 0 = o by funext j9; simp [um_bring]]; exact (ur_same f2).symm)) hI (lv_sub hl [1, 2, 3, 0] rfl)
theorem dB_writeBlock_0 : decode cB_writeBlock 0 = .ok (.iload_n 1, 1) := by decide +kernel
theorem dB_writeBlock_1 : decode cB_writeBlock 1 = .ok (.ifCond .lt 12, 3) := by decide +kernel
theorem dB_writeBlock_4 : decode cB_writeBlock 4 = .ok (.iload_n 1, 1) := by decide +kernel
theorem dB_writeBlock_5 : decode cB_writeBlock 5 = .ok (.aload_n 0, 1) := by decide +kernel
theorem dB_writeBlock_6 : decode cB_writeBlock 6 = .ok (.getfield 13, 3) := by decide +kernel
theorem dB_writeBlock_9 : decode cB_writeBlock 9 = .ok (.arraylength, 1) := by decide +kernel
theorem dB_writeBlock_10 : decode cB_writeBlock 10 = .ok (.if_icmp .lt 4, 3) := by decide +kernel
theorem dB_writeBlock_13 : decode cB_writeBlock 13 = .ok (.return_, 1) := by decide +kernel
theorem dB_writeBlock_14 : decode cB_writeBlock 14 = .ok (.aload_n 0, 1) := by decide +kernel
theorem dB_writeBlock_15 : decode cB_writeBlock 15 = .ok (.getfield 13, 3) := by decide +kernel
theorem dB_writeBlock_18 : decode cB_writeBlock 18 = .ok (.iload_n 1, 1) := by decide +kernel
theorem dB_writeBlock_19 : decode cB_writeBlock 19 = .ok (.aaload, 1) := by decide +kernel
theorem dB_writeBlock_20 : decode cB_writeBlock 20 = .ok (.astore 4, 2) := by decide +kernel
theorem dB_writeBlock_22 : decode cB_writeBlock 22 = .ok (.aload 4, 2) := by decide +kernel
theorem dB_writeBlock_24 : decode cB_writeBlock 24 = .ok (.ifnonnull 17, 3) := by decide +kernel
theorem dB_writeBlock_27 : decode cB_writeBlock 27 = .ok (.bipush 100, 2) := by decide +kernel
theorem dB_writeBlock_29 : decode cB_writeBlock 29 = .ok (.newarray .int, 2) := by decide +kernel
theorem dB_writeBlock_31 : decode cB_writeBlock 31 = .ok (.astore 4, 2) := by decide +kernel
theorem dB_writeBlock_33 : decode cB_writeBlock 33 = .ok (.aload_n 0, 1) := by decide +kernel
theorem dB_writeBlock_34 : decode cB_writeBlock 34 = .ok (.getfield 13, 3) := by decide +kernel
theorem dB_writeBlock_37 : decode cB_writeBlock 37 = .ok (.iload_n 1, 1) := by decide +kernel
theorem dB_writeBlock_38 : decode cB_writeBlock 38 = .ok (.aload 4, 2) := by decide +kernel
theorem dB_writeBlock_40 : decode cB_writeBlock 40 = .ok (.aastore, 1) := by decide +kernel
theorem dB_writeBlock_41 : decode cB_writeBlock 41 = .ok (.aload_n 3, 1) := by decide +kernel
theorem dB_writeBlock_42 : decode cB_writeBlock 42 = .ok (.aload 4, 2) := by decide +kernel
theorem dB_writeBlock_44 : decode cB_writeBlock 44 = .ok (.iload_n 2, 1) := by decide +kernel
theorem dB_writeBlock_45 : decode cB_writeBlock 45 = .ok (.invokevirtual 29, 3) := by decide +kernel
theorem dB_writeBlock_48 : decode cB_writeBlock 48 = .ok (.return_, 1) := by decide +kernel
abbrev rmkB_write_T : Room := { frames := 2, cells := 1, slots := 100, locals := 48 }
set_option maxHeartbeats 4000000 in
set_option maxRecDepth 100000 in
theorem kB_write_T (l : Launch) (D : va_G) (E : ur_Ev) (h : ur_M) (q : Nat) (qb : Nat) (ql : Nat) (du : Int32) (br : Int32) (tu : Int32) (ta : Int32) (ps : Int32) (fa : Int64) (qm : Nat) (q1 : Nat) (f : Nat → Option Nat) (R : Nat → Nat → Int32) (g : Nat → Int32) (b : Int32) (a : Int32) (f0 : h q = some (.inr (3, [.int 100, .ref qb, .int du, .long fa, .int br, .int tu, .int ta, .int ps, .ref ql]))) (f1 : h ql = some (.inl (E.1 3, 64, .inr (.inr (.inr (.inr f)))))) (f2 : h qm = some (.inr (1, [.ref q1]))) (f3 : h q1 = some (.inl (E.1 0, 4000, .inl g))) (hrow : um_rowsAt E h f R) (hrq : ∀ j, j < 64 → f j ≠ some q1) (hb0 : ¬ b < 0) (hb1 : b < 64) : ur_Mv l yB_writeBlock wsB_writeBlock rmkB_write_T D vwCl (ur_v E) [.ref q, .int b, .int a, .ref qm] h (fun h2 => um_wrote E h ql f b.toNatClampNeg (um_cin g (R b.toNatClampNeg) a 100) h2) 1 100 := by
  intro sz
  refine ur_of (cc := cB_writeBlock) (maxL := 5) (ret := none) (by decide) rfl (Nat.le_of_ble_eq_true rfl) ?_
  intro p e s m args below meth c ls Q hsz hx hb hml hr hlocks hnm hown hts hO hK hI hQ hl
  subst hsz
  have hV := hK.1
  have hts : ∀ w ∈ ur_G, w.before args s = true := fun w hw => hts w (List.mem_cons_of_mem _ hw)
  have hZ : ur_Z E (ur_A h s.heap.size) s s.heap := hO.1
  have hown : s.vm.findClass "UnitRoom$BlockDevice" = some m.cls := hown
  have hl : lv_has ls 5 [(0, .ref q), (1, .int b), (2, .int a), (3, .ref qm)] := hl
  refine lv_iload_n hx hb dB_writeBlock_0 rfl (lv_at hl 1 rfl) ?_
  refine lv_if_lt (tgt := 13) hx hb dB_writeBlock_1 (by decide) (fun c1 => absurd c1 hb0) (fun c1 => ?_)
  refine lv_iload_n hx hb dB_writeBlock_4 rfl (lv_at hl 1 rfl) ?_
  refine lv_aload_n hx hb dB_writeBlock_5 rfl (lv_at hl 0 rfl) ?_
  refine va_get (D := D) (ci := 3) (v := .ref ql) (C := "UnitRoom$Tape") (T := TT) (N := 9) hx hb hts inT hown hV (ur_one hI.1 f0) 0 rfl rfl 8 (by decide) (hts _ mw117) (fun _ h9 => h9) rfl dB_writeBlock_6 ?_
  refine va_alen (v := 64) hx hb hV (ur_one hI.1 f1) 0 3 rfl rfl rfl dB_writeBlock_9 ?_
  refine lv_icmp_lt (tgt := 14) hx hb dB_writeBlock_10 (by decide) (fun c2 => ?_) (fun c2 => absurd c2 (not_not_intro hb1))
  refine lv_aload_n hx hb dB_writeBlock_14 rfl (lv_at hl 0 rfl) ?_
  refine va_get (D := D) (ci := 3) (v := .ref ql) (C := "UnitRoom$Tape") (T := TT) (N := 9) hx hb hts inT hown hV (ur_one hI.1 f0) 0 rfl rfl 8 (by decide) (hts _ mw117) (fun _ h9 => h9) rfl dB_writeBlock_15 ?_
  refine lv_iload_n hx hb dB_writeBlock_18 rfl (lv_at hl 1 rfl) ?_
  refine ur_aldA hx hb hV hI 3 f1 rfl rfl (um_in hb0 hb1 (by decide)) dB_writeBlock_19 ?_
  refine ur_as (lv' := [(4, va_rf (f b.toNatClampNeg)), (0, .ref q), (1, .int b), (2, .int a), (3, .ref qm)]) hx hb dB_writeBlock_20 hl (by decide) rfl (fun ls hl => ?_)
  refine ur_al hx hb dB_writeBlock_22 (lv_at hl 0 rfl) ?_
  refine ur_ifnn (tgt := 41) hx hb dB_writeBlock_24 (by decide) (fun a4 c3 => ?_) (fun c3 => ?_)
  · rw [c3] at hl
    have hb9 : b.toNatClampNeg < 64 := um_lt2 hb0 hb1 (by decide)
    have fr : h a4 = some (.inl (E.1 0, 100, .inl (R b.toNatClampNeg))) := hrow.1 _ hb9 _ c3
    have hq9 : q1 ≠ a4 := fun z9 => hrq _ hb9 (by rw [c3, z9])
    refine lv_aload_n hx hb dB_writeBlock_41 rfl (lv_at hl 4 rfl) ?_
    refine lv_aload hx hb dB_writeBlock_42 (lv_at hl 0 rfl) ?_
    refine lv_iload_n hx hb dB_writeBlock_44 rfl (lv_at hl 3 rfl) ?_
    refine ur_xv (va_runV (As := [.ref a4, .int a]) (rest := []) ⟨hx, hb, hml, hown, hts⟩ (kM_ci l D E h qm q1 a4 g (R b.toNatClampNeg) 100 a f2 f3 fr (by first | assumption | omega | decide) hq9 s.heap.size) (cwV 2 hts (ur_gV mw340 mw341 mw342 mw2 mw343) rfl rfl rfl (by decide +kernel) ⟨(Nat.le_of_ble_eq_true rfl), (Nat.le_of_ble_eq_true rfl)⟩) ⟨ur_blind, va_recv hV (ur_one hI.1 f2) (ci := 1) (q0 := 0) rfl rfl, ur_pre hI hO hK (fun _ _ q => q)⟩ rfl rfl hl.1 rfl (lv_room (Nat.le_of_ble_eq_true rfl)) dB_writeBlock_45 ⟨Nat.le_of_ble_eq_true rfl, Nat.le_of_ble_eq_true rfl⟩) hI (fun h5 H locs p5 hI => ?_)
    have eh5 := p5
    have q6 : h5 q = some (.inr (3, [.int 100, .ref qb, .int du, .long fa, .int br, .int tu, .int ta, .int ps, .ref ql])) := by rw [eh5]; exact ((va_up_ne _ _ (ur_ne f0 fr (by intro z; simp at z))).trans f0)
    have q7 : h5 ql = some (.inl (E.1 3, 64, .inr (.inr (.inr (.inr f))))) := by rw [eh5]; exact ((va_up_ne _ _ (ur_ne f1 fr (by intro z; simp at z))).trans f1)
    have q8 : h5 qm = some (.inr (1, [.ref q1])) := by rw [eh5]; exact ((va_up_ne _ _ (ur_ne f2 fr (by intro z; simp at z))).trans f2)
    have q9 : h5 q1 = some (.inl (E.1 0, 4000, .inl g)) := by rw [eh5]; exact ((va_up_ne _ _ hq9).trans f3)
    have q10 : h5 a4 = some (.inl (E.1 0, 100, .inl (um_cin g (R b.toNatClampNeg) a 100))) := by rw [eh5]; exact (va_up_self _ _ _)
    refine W.widen (k := 1) (n := 100) (by omega) (by omega) ?_
    exact ur_rv hx hb hr hlocks hI hQ (Or.inl ⟨_, c3, eh5⟩) dB_writeBlock_48
  · rw [c3] at hl
    have hb9 : b.toNatClampNeg < 64 := um_lt2 hb0 hb1 (by decide)
    refine lv_bipush (v := 100) hx hb dB_writeBlock_27 (by decide) ?_
    refine ur_newa (atype := .int) (a0 := (100, (.inl (fun _ => 0)))) hx hb (hts _ mw36) rfl 0 hV rfl rfl hI (n := 100) (N' := 100) (fun _ => by rfl) (by decide) rfl (by decide) (Nat.le_of_ble_eq_true rfl) (Nat.le_of_ble_eq_true rfl) dB_writeBlock_29 (fun w11 H zw11 hI => ?_)
    obtain ⟨h12, eh12⟩ : ∃ z : ur_M, z = va_up h w11 (some (.inl (E.1 0, 100, .inl (fun _ => 0)))) := ⟨_, rfl⟩
    replace hI : ur_I D vwCl (ur_A h s.heap.size) s.heap h12 H [] := by rw [eh12]; exact hI
    have n14 : q ≠ w11 := ur_fresh f0 zw11
    have q13 : h12 q = some (.inr (3, [.int 100, .ref qb, .int du, .long fa, .int br, .int tu, .int ta, .int ps, .ref ql])) := by rw [eh12]; exact (va_up_ne _ _ n14).trans f0
    have n16 : ql ≠ w11 := ur_fresh f1 zw11
    have q15 : h12 ql = some (.inl (E.1 3, 64, .inr (.inr (.inr (.inr f))))) := by rw [eh12]; exact (va_up_ne _ _ n16).trans f1
    have n18 : qm ≠ w11 := ur_fresh f2 zw11
    have q17 : h12 qm = some (.inr (1, [.ref q1])) := by rw [eh12]; exact (va_up_ne _ _ n18).trans f2
    have n20 : q1 ≠ w11 := ur_fresh f3 zw11
    have q19 : h12 q1 = some (.inl (E.1 0, 4000, .inl g)) := by rw [eh12]; exact (va_up_ne _ _ n20).trans f3
    have q21 : h12 w11 = some (.inl (E.1 0, 100, .inl (fun _ => 0))) := by rw [eh12]; exact va_up_self _ _ _
    refine lv_astore (lv' := [(4, .ref w11), (0, .ref q), (1, .int b), (2, .int a), (3, .ref qm)]) hx hb dB_writeBlock_31 hl (by decide) rfl (fun ls hl => ?_)
    refine lv_aload_n hx hb dB_writeBlock_33 rfl (lv_at hl 1 rfl) ?_
    refine va_get (D := D) (ci := 3) (v := .ref ql) (C := "UnitRoom$Tape") (T := TT) (N := 9) hx hb hts inT hown hV (ur_one hI.1 q13) 0 rfl rfl 8 (by decide) (hts _ mw117) (fun _ h9 => h9) rfl dB_writeBlock_34 ?_
    refine lv_iload_n hx hb dB_writeBlock_37 rfl (lv_at hl 2 rfl) ?_
    refine lv_aload hx hb dB_writeBlock_38 (lv_at hl 0 rfl) ?_
    refine ur_astA hx hb hI q15 hK.2.1.2.2.2.2.2.1.1 hK.2.1.2.2.2.2.2.1.2 q21 (um_in hb0 hb1 (by decide)) dB_writeBlock_40 (fun H locs hI => ?_)
    obtain ⟨h22, eh22⟩ : ∃ z : ur_M, z = va_up h12 ql (some (.inl (E.1 3, 64, .inr (.inr (.inr (.inr (va_up f b.toNatClampNeg (some w11)))))))) := ⟨_, rfl⟩
    replace hI : ur_I D vwCl (ur_A h s.heap.size) s.heap h22 H locs := by rw [eh22]; exact hI
    have q23 : h22 q = some (.inr (3, [.int 100, .ref qb, .int du, .long fa, .int br, .int tu, .int ta, .int ps, .ref ql])) := by rw [eh22]; exact ((va_up_ne _ _ (ur_ne q13 q15 (by intro z; simp at z))).trans q13)
    have q24 : h22 ql = some (.inl (E.1 3, 64, .inr (.inr (.inr (.inr (va_up f b.toNatClampNeg (some w11))))))) := by rw [eh22]; exact (va_up_self _ _ _)
    have q25 : h22 qm = some (.inr (1, [.ref q1])) := by rw [eh22]; exact ((va_up_ne _ _ (ur_ne q17 q15 (by intro z; simp at z))).trans q17)
    have q26 : h22 q1 = some (.inl (E.1 0, 4000, .inl g)) := by rw [eh22]; exact ((va_up_ne _ _ (ur_ne q19 q15 (by intro z; simp at z))).trans q19)
    have q27 : h22 w11 = some (.inl (E.1 0, 100, .inl (fun _ => 0))) := by rw [eh22]; exact ((va_up_ne _ _ (Ne.symm n16)).trans q21)
    refine lv_aload_n hx hb dB_writeBlock_41 rfl (lv_at hl 4 rfl) ?_
    refine lv_aload hx hb dB_writeBlock_42 (lv_at hl 0 rfl) ?_
    refine lv_iload_n hx hb dB_writeBlock_44 rfl (lv_at hl 3 rfl) ?_
    refine ur_xv (va_runV (As := [.ref w11, .int a]) (rest := []) ⟨hx, hb, hml, hown, hts⟩ (kM_ci l D E h22 qm q1 w11 g (fun _ => 0) 100 a q25 q26 q27 (by first | assumption | omega | decide) n20 H.size) (cwV 2 hts (ur_gV mw340 mw341 mw342 mw2 mw343) rfl rfl rfl (by decide +kernel) ⟨(Nat.le_of_ble_eq_true rfl), (Nat.le_of_ble_eq_true rfl)⟩) ⟨ur_blind, va_recv hV (ur_one hI.1 q25) (ci := 1) (q0 := 0) rfl rfl, ur_pre hI hO hK (fun _ _ q => q)⟩ rfl rfl hl.1 rfl (lv_room (Nat.le_of_ble_eq_true rfl)) dB_writeBlock_45 ⟨Nat.le_of_ble_eq_true rfl, Nat.le_of_ble_eq_true rfl⟩) hI (fun h28 H locs p28 hI => ?_)
    have eh28 := p28
    have q29 : h28 q = some (.inr (3, [.int 100, .ref qb, .int du, .long fa, .int br, .int tu, .int ta, .int ps, .ref ql])) := by rw [eh28]; exact ((va_up_ne _ _ n14).trans q23)
    have q30 : h28 ql = some (.inl (E.1 3, 64, .inr (.inr (.inr (.inr (va_up f b.toNatClampNeg (some w11))))))) := by rw [eh28]; exact ((va_up_ne _ _ n16).trans q24)
    have q31 : h28 qm = some (.inr (1, [.ref q1])) := by rw [eh28]; exact ((va_up_ne _ _ n18).trans q25)
    have q32 : h28 q1 = some (.inl (E.1 0, 4000, .inl g)) := by rw [eh28]; exact ((va_up_ne _ _ n20).trans q26)
    have q33 : h28 w11 = some (.inl (E.1 0, 100, .inl (um_cin g (fun _ => 0) a 100))) := by rw [eh28]; exact (va_up_self _ _ _)
    exact ur_rv hx hb hr hlocks hI hQ (Or.inr ⟨c3, _, zw11, (by rw [hrow.2 _ hb9 c3, eh28, eh22, eh12, ur_sw (Ne.symm n16)])⟩) dB_writeBlock_48
abbrev rmkB_wordAt_K : Room := { frames := 0, cells := 0, slots := 0, locals := 0 }
set_option maxHeartbeats 4000000 in
set_option maxRecDepth 100000 in
theorem kB_wordAt_K (l : Launch) (D : va_G) (E : ur_Ev) (h : ur_M) (q : Nat) (qb : Nat) (ql : Nat) (du : Int32) (br : Int32) (tu : Int32) (ta : Int32) (fa : Int64) (f : Nat → Option Nat) (R : Nat → Nat → Int32) (b : Int32) (i : Int32) (f0 : h q = some (.inr (4, [.int 100, .ref qb, .int du, .long fa, .int br, .int tu, .int ta, .ref ql]))) (f1 : h ql = some (.inl (E.1 3, 64, .inr (.inr (.inr (.inr f)))))) (hrow : um_rowsAt E h f R) : ur_Mi l yB_wordAt wsB_wordAt rmkB_wordAt_K D vwCl (ur_v E) [.ref q, .int b, .int i] h (fun r h2 => r = um_wordAt R b i ∧ h2 = h) 0 0 := by
  intro sz
  refine ur_of (cc := cB_wordAt) (maxL := 4) (ret := (some .int)) (by decide) rfl (Nat.le_of_ble_eq_true rfl) ?_
  intro p e s m args below meth c ls Q hsz hx hb hml hr hlocks hnm hown hts hO hK hI hQ hl
  subst hsz
  have hV := hK.1
  have hts : ∀ w ∈ ur_G, w.before args s = true := fun w hw => hts w (List.mem_cons_of_mem _ hw)
  have hZ : ur_Z E (ur_A h s.heap.size) s s.heap := hO.1
  have hown : s.vm.findClass "UnitRoom$BlockDevice" = some m.cls := hown
  have hl : lv_has ls 4 [(0, .ref q), (1, .int b), (2, .int i)] := hl
  refine lv_iload_n hx hb dB_wordAt_0 rfl (lv_at hl 1 rfl) ?_
  refine lv_if_lt (tgt := 23) hx hb dB_wordAt_1 (by decide) (fun c1 => ?_) (fun c1 => ?_)
  · refine lv_ldc (v := 2147483647) hx hb hown (hts _ mw326) dB_wordAt_23 ?_
    exact ur_ri hx hb hr hlocks hI hQ ⟨(by simp only [um_wordAt, c1, ↓reduceIte]), rfl⟩ dB_wordAt_25
  · refine lv_iload_n hx hb dB_wordAt_4 rfl (lv_at hl 1 rfl) ?_
    refine lv_aload_n hx hb dB_wordAt_5 rfl (lv_at hl 0 rfl) ?_
    refine va_get (D := D) (ci := 4) (v := .ref ql) (C := "UnitRoom$Disk") (T := TK) (N := 8) hx hb hts inK hown hV (ur_one hI.1 f0) 0 rfl rfl 7 (by decide) (hts _ mw117) (fun _ h9 => h9) rfl dB_wordAt_6 ?_
    refine va_alen (v := 64) hx hb hV (ur_one hI.1 f1) 0 3 rfl rfl rfl dB_wordAt_9 ?_
    refine lv_icmp_ge (tgt := 23) hx hb dB_wordAt_10 (by decide) (fun c2 => ?_) (fun c2 => ?_)
    · refine lv_ldc (v := 2147483647) hx hb hown (hts _ mw326) dB_wordAt_23 ?_
      exact ur_ri hx hb hr hlocks hI hQ ⟨(by simp only [um_wordAt, c1, c2, ↓reduceIte]), rfl⟩ dB_wordAt_25
    · refine lv_iload_n hx hb dB_wordAt_13 rfl (lv_at hl 2 rfl) ?_
      refine lv_if_lt (tgt := 23) hx hb dB_wordAt_14 (by decide) (fun c3 => ?_) (fun c3 => ?_)
      · refine lv_ldc (v := 2147483647) hx hb hown (hts _ mw326) dB_wordAt_23 ?_
        exact ur_ri hx hb hr hlocks hI hQ ⟨(by simp only [um_wordAt, c1, c2, c3, ↓reduceIte]), rfl⟩ dB_wordAt_25
      · refine lv_iload_n hx hb dB_wordAt_17 rfl (lv_at hl 2 rfl) ?_
        refine lv_bipush (v := 100) hx hb dB_wordAt_18 (by decide) ?_
        refine lv_icmp_lt (tgt := 26) hx hb dB_wordAt_20 (by decide) (fun c4 => ?_) (fun c4 => ?_)
        · refine lv_aload_n hx hb dB_wordAt_26 rfl (lv_at hl 0 rfl) ?_
          refine va_get (D := D) (ci := 4) (v := .ref ql) (C := "UnitRoom$Disk") (T := TK) (N := 8) hx hb hts inK hown hV (ur_one hI.1 f0) 0 rfl rfl 7 (by decide) (hts _ mw117) (fun _ h9 => h9) rfl dB_wordAt_27 ?_
          refine lv_iload_n hx hb dB_wordAt_30 rfl (lv_at hl 1 rfl) ?_
          refine ur_aldA hx hb hV hI 3 f1 rfl rfl (um_in' c1 c2 (by decide)) dB_wordAt_31 ?_
          refine ur_asn (lv' := [(3, va_rf (f b.toNatClampNeg)), (0, .ref q), (1, .int b), (2, .int i)]) hx hb dB_wordAt_32 rfl hl (by decide) rfl (fun ls hl => ?_)
          refine ur_aln hx hb dB_wordAt_33 rfl (lv_at hl 0 rfl) ?_
          refine ur_ifn (tgt := 43) hx hb dB_wordAt_34 (by decide) (fun c5 => ?_) (fun a6 c5 => ?_)
          · rw [c5] at hl
            have hb9 : b.toNatClampNeg < 64 := um_lt c1 c2 (by decide)
            refine lv_iconst (v := 0) hx hb dB_wordAt_43 (by decide) ?_
            refine lv_goto (tgt := 50) hx hb dB_wordAt_44 (by decide) ?_
            exact ur_ri hx hb hr hlocks hI hQ ⟨(by simp only [um_wordAt, c1, c2, c3, c4, ↓reduceIte]; rw [hrow.2 _ hb9 c5]), rfl⟩ dB_wordAt_50
          · rw [c5] at hl
            have hb9 : b.toNatClampNeg < 64 := um_lt c1 c2 (by decide)
            have fr : h a6 = some (.inl (E.1 0, 100, .inl (R b.toNatClampNeg))) := hrow.1 _ hb9 _ c5
            refine lv_iload_n hx hb dB_wordAt_37 rfl (lv_at hl 3 rfl) ?_
            refine lv_aload_n hx hb dB_wordAt_38 rfl (lv_at hl 0 rfl) ?_
            refine va_alen (v := 100) hx hb hV (ur_one hI.1 fr) 0 0 rfl rfl rfl dB_wordAt_39 ?_
            refine lv_icmp_lt (tgt := 47) hx hb dB_wordAt_40 (by decide) (fun c7 => ?_) (fun c7 => absurd c7 (not_not_intro c4))
            refine lv_aload_n hx hb dB_wordAt_47 rfl (lv_at hl 0 rfl) ?_
            refine lv_iload_n hx hb dB_wordAt_48 rfl (lv_at hl 3 rfl) ?_
            refine va_iald hx hb hV (ur_one hI.1 fr) 0 0 rfl rfl (um_in c3 c4 (by decide)) dB_wordAt_49 ?_
            exact ur_ri hx hb hr hlocks hI hQ ⟨(by simp only [um_wordAt, c1, c2, c3, c4, ↓reduceIte]), rfl⟩ dB_wordAt_50
        · refine lv_ldc (v := 2147483647) hx hb hown (hts _ mw326) dB_wordAt_23 ?_
          exact ur_ri hx hb hr hlocks hI hQ ⟨(by simp only [um_wordAt, c1, c2, c3, c4, ↓reduceIte]), rfl⟩ dB_wordAt_25
abbrev rmkB_read_K : Room := { frames := 1, cells := 0, slots := 0, locals := 23 }
set_option maxHeartbeats 4000000 in
set_option maxRecDepth 100000 in
theorem kB_read_K (l : Launch) (D : va_G) (E : ur_Ev) (h : ur_M) (q : Nat) (qb : Nat) (ql : Nat) (du : Int32) (br : Int32) (tu : Int32) (ta : Int32) (fa : Int64) (f : Nat → Option Nat) (R : Nat → Nat → Int32) (o : Nat → Int32) (b : Int32) (a : Int32) (f0 : h q = some (.inr (4, [.int 100, .ref qb, .int du, .long fa, .int br, .int tu, .int ta, .ref ql]))) (f1 : h ql = some (.inl (E.1 3, 64, .inr (.inr (.inr (.inr f)))))) (f2 : h qb = some (.inl (E.1 0, 100, .inl o))) (hrow : um_rowsAt E h f R) (hrb : ∀ j, j < 64 → f j ≠ some qb) : ur_Mv l yB_readBlock wsB_readBlock rmkB_read_K D vwCl (ur_v E) [.ref q, .int b, .int a] h (fun h2 => h2 = va_up (va_up h qb (some (.inl (E.1 0, 100, .inl (um_bring R b o 100))))) q (some (.inr (4, [.int 100, .ref qb, .int du, .long fa, .int 1, .int tu, .int a, .ref ql])))) 0 0 := by
  intro sz
  refine ur_of (cc := cB_readBlock) (maxL := 4) (ret := none) (by decide) rfl (Nat.le_of_ble_eq_true rfl) ?_
  intro p e s m args below meth c ls Q hsz hx hb hml hr hlocks hnm hown hts hO hK hI hQ hl
  subst hsz
  have hV := hK.1
  have hts : ∀ w ∈ ur_G, w.before args s = true := fun w hw => hts w (List.mem_cons_of_mem _ hw)
  have hZ : ur_Z E (ur_A h s.heap.size) s s.heap := hO.1
  have hown : s.vm.findClass "UnitRoom$BlockDevice" = some m.cls := hown
  have hl : lv_has ls 4 [(0, .ref q), (1, .int b), (2, .int a)] := hl
  refine lv_iconst (v := 0) hx hb dB_readBlock_0 (by decide) ?_
  refine lv_istore_n (lv' := [(3, .int 0), (0, .ref q), (1, .int b), (2, .int a)]) hx hb dB_readBlock_1 rfl hl (by decide) rfl (fun ls hl => ?_)
  have lpn1 : ∀ (n1 : Nat) (i : Nat) (hn1 : ur_M) (H : Heap) (locs : List Loc) (ls : Array Slot), 100 - i < n1 → (i ≤ 100) → hn1 = va_up h qb (some (.inl (E.1 0, 100, .inl (um_bring R b o i)))) → ur_I D vwCl (ur_A h s.heap.size) s.heap hn1 H locs → lv_has ls 4 [(0, .ref q), (1, .int b), (2, .int a), (3, .int (nI i))] → W p l e rmkB_read_K s m args below meth c H locs 0 0 Q (F0 m 2 ls []) := by
    intro n1
    induction n1 with
    | zero => intro i hn1 H locs ls hnn1; exact absurd hnn1 (Nat.not_lt_zero _)
    | succ n1 ihn1 =>
      intro i hn1 H locs ls hnn1 hi ehn1 hI hl
      have q2 : hn1 q = some (.inr (4, [.int 100, .ref qb, .int du, .long fa, .int br, .int tu, .int ta, .ref ql])) := by rw [ehn1]; exact (va_up_ne _ _ (ur_ne f0 f2 (by intro z; simp at z))).trans f0
      have q3 : hn1 ql = some (.inl (E.1 3, 64, .inr (.inr (.inr (.inr f))))) := by rw [ehn1]; exact (va_up_ne _ _ (ur_ne f1 f2 (by intro z; simp at z))).trans f1
      have q4 : hn1 qb = some (.inl (E.1 0, 100, .inl (um_bring R b o i))) := by rw [ehn1]; exact va_up_self _ _ _
      refine lv_iload_n hx hb dB_readBlock_2 rfl (lv_at hl 3 rfl) ?_
      refine lv_aload_n hx hb dB_readBlock_3 rfl (lv_at hl 0 rfl) ?_
      refine va_get (D := D) (ci := 4) (v := .ref qb) (C := "UnitRoom$Disk") (T := TK) (N := 8) hx hb hts inK hown hV (ur_one hI.1 q2) 0 rfl rfl 1 (by decide) (hts _ mw71) (fun x9 h9 => u_same (hts _ mw72) x9 h9) rfl dB_readBlock_4 ?_
      refine va_alen (v := 100) hx hb hV (ur_one hI.1 q4) 0 0 rfl rfl rfl dB_readBlock_7 ?_
      refine lv_icmp_ge (tgt := 29) hx hb dB_readBlock_8 (by decide) (fun c5 => ?_) (fun c5 => ?_)
      · have he9 : i = 100 := Nat.le_antisymm hi (Nat.not_lt.mp (fun z9 => nI_ge z9 (by decide) c5))
        refine lv_aload_n hx hb dB_readBlock_29 rfl (lv_at hl 0 rfl) ?_
        refine lv_iload_n hx hb dB_readBlock_30 rfl (lv_at hl 2 rfl) ?_
        refine ur_xv (va_runU (As := [.int a]) (rest := []) ⟨hx, hb, hml, hown, hts⟩ (kD_bringTo l D E hn1 q 4 qb 100 du br tu ta fa ([.ref ql]) a q2 (by unfold um_isD; decide) H.size) (va_cwU (owner := "UnitRoom$Device") 1 hts (ur_gU mw327 mw328 mw330 mw332 mw4 mw333) rfl rfl rfl rfl (by decide +kernel) ⟨(Nat.le_of_ble_eq_true rfl), (Nat.le_of_ble_eq_true rfl)⟩) ⟨ur_blind, va_recv hV (ur_one hI.1 q2) (ci := 4) (q0 := 0) rfl rfl, ur_pre hI hO hK (fun _ _ q => q)⟩ rfl rfl hl.1 rfl (lv_room (Nat.le_of_ble_eq_true rfl)) dB_readBlock_31 ⟨Nat.le_of_ble_eq_true rfl, Nat.le_of_ble_eq_true rfl⟩) hI (fun h6 H locs p6 hI => ?_)
        have eh6 := p6
        have q7 : h6 q = some (.inr (4, [.int 100, .ref qb, .int du, .long fa, .int 1, .int tu, .int a, .ref ql])) := by rw [eh6]; exact (va_up_self _ _ _)
        have q8 : h6 ql = some (.inl (E.1 3, 64, .inr (.inr (.inr (.inr f))))) := by rw [eh6]; exact ((va_up_ne _ _ (ur_ne q3 q2 (by intro z; simp at z))).trans q3)
        have q9 : h6 qb = some (.inl (E.1 0, 100, .inl (um_bring R b o i))) := by rw [eh6]; exact ((va_up_ne _ _ (ur_ne q4 q2 (by intro z; simp at z))).trans q4)
        exact ur_rv hx hb hr hlocks hI hQ (by rw [eh6, ehn1, he9]) dB_readBlock_34
      · have hlt : i < 100 := Nat.not_le.mp (fun z9 => c5 (nI_le z9 (by omega)))
        refine lv_aload_n hx hb dB_readBlock_11 rfl (lv_at hl 0 rfl) ?_
        refine va_get (D := D) (ci := 4) (v := .ref qb) (C := "UnitRoom$Disk") (T := TK) (N := 8) hx hb hts inK hown hV (ur_one hI.1 q2) 0 rfl rfl 1 (by decide) (hts _ mw71) (fun x9 h9 => u_same (hts _ mw72) x9 h9) rfl dB_readBlock_12 ?_
        refine lv_iload_n hx hb dB_readBlock_15 rfl (lv_at hl 3 rfl) ?_
        refine lv_aload_n hx hb dB_readBlock_16 rfl (lv_at hl 0 rfl) ?_
        refine lv_iload_n hx hb dB_readBlock_17 rfl (lv_at hl 1 rfl) ?_
        refine lv_iload_n hx hb dB_readBlock_18 rfl (lv_at hl 3 rfl) ?_
        refine ur_xi (va_runU (As := [.int b, .int (nI i)]) (rest := [.int (nI i), .ref qb]) ⟨hx, hb, hml, hown, hts⟩ (kB_wordAt_K l D E hn1 q qb ql du br tu ta fa f R b (nI i) q2 q3 (by rw [ehn1]; exact hrow.up hrb) H.size) (va_cwU (owner := "UnitRoom$BlockDevice") 2 hts (ur_gU mw320 mw322 mw323 mw321 mw7 mw325) rfl rfl rfl rfl (by decide +kernel) ⟨(Nat.le_of_ble_eq_true rfl), (Nat.le_of_ble_eq_true rfl)⟩) ⟨ur_blind, va_recv hV (ur_one hI.1 q2) (ci := 4) (q0 := 0) rfl rfl, ur_pre hI hO hK (fun _ _ q => q)⟩ rfl rfl hl.1 rfl (lv_room (Nat.le_of_ble_eq_true rfl)) dB_readBlock_19 ⟨Nat.le_of_ble_eq_true rfl, Nat.le_of_ble_eq_true rfl⟩) hI (fun r10 h10 H locs p10 hI => ?_)
        obtain ⟨er10, eh10⟩ := p10
        replace eh10 := eh10.symm; subst eh10
        replace er10 := er10.symm; subst er10
        refine ur_iast hx hb hV hI 0 q4 rfl (vp_in_nI hlt (by decide)) dB_readBlock_22 (fun H locs hI => ?_)
        obtain ⟨h11, eh11⟩ : ∃ z : ur_M, z = va_up hn1 qb (some (.inl (E.1 0, 100, .inl (upd (um_bring R b o i) (Int32.toNatClampNeg (nI i)) (um_wordAt R b (nI i)))))) := ⟨_, rfl⟩
        replace hI : ur_I D vwCl (ur_A h s.heap.size) s.heap h11 H locs := by rw [eh11]; exact hI
        have q12 : h11 q = some (.inr (4, [.int 100, .ref qb, .int du, .long fa, .int br, .int tu, .int ta, .ref ql])) := by rw [eh11]; exact ((va_up_ne _ _ (ur_ne q2 q4 (by intro z; simp at z))).trans q2)
        have q13 : h11 ql = some (.inl (E.1 3, 64, .inr (.inr (.inr (.inr f))))) := by rw [eh11]; exact ((va_up_ne _ _ (ur_ne q3 q4 (by intro z; simp at z))).trans q3)
        have q14 : h11 qb = some (.inl (E.1 0, 100, .inl (upd (um_bring R b o i) (Int32.toNatClampNeg (nI i)) (um_wordAt R b (nI i))))) := by rw [eh11]; exact (va_up_self _ _ _)
        refine lv_iinc (v := ((nI i) + 1)) (lv' := [(3, .int ((nI i) + 1)), (0, .ref q), (1, .int b), (2, .int a)]) hx hb dB_readBlock_23 hl (k := 3) rfl rfl (by decide) rfl (fun ls hl => ?_)
        refine lv_goto (tgt := 2) hx hb dB_readBlock_26 (by decide) ?_
        rw [nI_1] at hl
        exact ihn1 (i + 1) h11 H locs ls (by omega) hlt (by rw [eh11, ehn1, bx_uu, nI_clamp (by omega), um_bring_succ]) hI (lv_sub hl [1, 2, 3, 0] rfl)
  exact lpn1 _ 0 h _ _ ls (Nat.lt_succ_self _) (by decide) ((by rw [show um_bring R b o 0 = o by funext j9; simp [um_bring]]; exact (ur_same f2).symm)) hI (lv_sub hl [1, 2, 3, 0] rfl)
abbrev rmkB_write_K : Room := { frames := 2, cells := 1, slots := 100, locals := 48 }
set_option maxHeartbeats 4000000 in
set_option maxRecDepth 100000 in
theorem kB_write_K (l : Launch) (D : va_G) (E : ur_Ev) (h : ur_M) (q : Nat) (qb : Nat) (ql : Nat) (du : Int32) (br : Int32) (tu : Int32) (ta : Int32) (fa : Int64) (qm : Nat) (q1 : Nat) (f : Nat → Option Nat) (R : Nat → Nat → Int32) (g : Nat → Int32) (b : Int32) (a : Int32) (f0 : h q = some (.inr (4, [.int 100, .ref qb, .int du, .long fa, .int br, .int tu, .int ta, .ref ql]))) (f1 : h ql = some (.inl (E.1 3, 64, .inr (.inr (.inr (.inr f)))))) (f2 : h qm = some (.inr (1, [.ref q1]))) (f3 : h q1 = some (.inl (E.1 0, 4000, .inl g))) (hrow : um_rowsAt E h f R) (hrq : ∀ j, j < 64 → f j ≠ some q1) (hb0 : ¬ b < 0) (hb1 : b < 64) : ur_Mv l yB_writeBlock wsB_writeBlock rmkB_write_K D vwCl (ur_v E) [.ref q, .int b, .int a, .ref qm] h (fun h2 => um_wrote E h ql f b.toNatClampNeg (um_cin g (R b.toNatClampNeg) a 100) h2) 1 100 := by
  intro sz
  refine ur_of (cc := cB_writeBlock) (maxL := 5) (ret := none) (by decide) rfl (Nat.le_of_ble_eq_true rfl) ?_
  intro p e s m args below meth c ls Q hsz hx hb hml hr hlocks hnm hown hts hO hK hI hQ hl
  subst hsz
  have hV := hK.1
  have hts : ∀ w ∈ ur_G, w.before args s = true := fun w hw => hts w (List.mem_cons_of_mem _ hw)
  have hZ : ur_Z E (ur_A h s.heap.size) s s.heap := hO.1
  have hown : s.vm.findClass "UnitRoom$BlockDevice" = some m.cls := hown
  have hl : lv_has ls 5 [(0, .ref q), (1, .int b), (2, .int a), (3, .ref qm)] := hl
  refine lv_iload_n hx hb dB_writeBlock_0 rfl (lv_at hl 1 rfl) ?_
  refine lv_if_lt (tgt := 13) hx hb dB_writeBlock_1 (by decide) (fun c1 => absurd c1 hb0) (fun c1 => ?_)
  refine lv_iload_n hx hb dB_writeBlock_4 rfl (lv_at hl 1 rfl) ?_
  refine lv_aload_n hx hb dB_writeBlock_5 rfl (lv_at hl 0 rfl) ?_
  refine va_get (D := D) (ci := 4) (v := .ref ql) (C := "UnitRoom$Disk") (T := TK) (N := 8) hx hb hts inK hown hV (ur_one hI.1 f0) 0 rfl rfl 7 (by decide) (hts _ mw117) (fun _ h9 => h9) rfl dB_writeBlock_6 ?_
  refine va_alen (v := 64) hx hb hV (ur_one hI.1 f1) 0 3 rfl rfl rfl dB_writeBlock_9 ?_
  refine lv_icmp_lt (tgt := 14) hx hb dB_writeBlock_10 (by decide) (fun c2 => ?_) (fun c2 => absurd c2 (not_not_intro hb1))
  refine lv_aload_n hx hb dB_writeBlock_14 rfl (lv_at hl 0 rfl) ?_
  refine va_get (D := D) (ci := 4) (v := .ref ql) (C := "UnitRoom$Disk") (T := TK) (N := 8) hx hb hts inK hown hV (ur_one hI.1 f0) 0 rfl rfl 7 (by decide) (hts _ mw117) (fun _ h9 => h9) rfl dB_writeBlock_15 ?_
  refine lv_iload_n hx hb dB_writeBlock_18 rfl (lv_at hl 1 rfl) ?_
  refine ur_aldA hx hb hV hI 3 f1 rfl rfl (um_in hb0 hb1 (by decide)) dB_writeBlock_19 ?_
  refine ur_as (lv' := [(4, va_rf (f b.toNatClampNeg)), (0, .ref q), (1, .int b), (2, .int a), (3, .ref qm)]) hx hb dB_writeBlock_20 hl (by decide) rfl (fun ls hl => ?_)
  refine ur_al hx hb dB_writeBlock_22 (lv_at hl 0 rfl) ?_
  refine ur_ifnn (tgt := 41) hx hb dB_writeBlock_24 (by decide) (fun a4 c3 => ?_) (fun c3 => ?_)
  · rw [c3] at hl
    have hb9 : b.toNatClampNeg < 64 := um_lt2 hb0 hb1 (by decide)
    have fr : h a4 = some (.inl (E.1 0, 100, .inl (R b.toNatClampNeg))) := hrow.1 _ hb9 _ c3
    have hq9 : q1 ≠ a4 := fun z9 => hrq _ hb9 (by rw [c3, z9])
    refine lv_aload_n hx hb dB_writeBlock_41 rfl (lv_at hl 4 rfl) ?_
    refine lv_aload hx hb dB_writeBlock_42 (lv_at hl 0 rfl) ?_
    refine lv_iload_n hx hb dB_writeBlock_44 rfl (lv_at hl 3 rfl) ?_
    refine ur_xv (va_runV (As := [.ref a4, .int a]) (rest := []) ⟨hx, hb, hml, hown, hts⟩ (kM_ci l D E h qm q1 a4 g (R b.toNatClampNeg) 100 a f2 f3 fr (by first | assumption | omega | decide) hq9 s.heap.size) (cwV 2 hts (ur_gV mw340 mw341 mw342 mw2 mw343) rfl rfl rfl (by decide +kernel) ⟨(Nat.le_of_ble_eq_true rfl), (Nat.le_of_ble_eq_true rfl)⟩) ⟨ur_blind, va_recv hV (ur_one hI.1 f2) (ci := 1) (q0 := 0) rfl rfl, ur_pre hI hO hK (fun _ _ q => q)⟩ rfl rfl hl.1 rfl (lv_room (Nat.le_of_ble_eq_true rfl)) dB_writeBlock_45 ⟨Nat.le_of_ble_eq_true rfl, Nat.le_of_ble_eq_true rfl⟩) hI (fun h5 H locs p5 hI => ?_)
    have eh5 := p5
    have q6 : h5 q = some (.inr (4, [.int 100, .ref qb, .int du, .long fa, .int br, .int tu, .int ta, .ref ql])) := by rw [eh5]; exact ((va_up_ne _ _ (ur_ne f0 fr (by intro z; simp at z))).trans f0)
    have q7 : h5 ql = some (.inl (E.1 3, 64, .inr (.inr (.inr (.inr f))))) := by rw [eh5]; exact ((va_up_ne _ _ (ur_ne f1 fr (by intro z; simp at z))).trans f1)
    have q8 : h5 qm = some (.inr (1, [.ref q1])) := by rw [eh5]; exact ((va_up_ne _ _ (ur_ne f2 fr (by intro z; simp at z))).trans f2)
    have q9 : h5 q1 = some (.inl (E.1 0, 4000, .inl g)) := by rw [eh5]; exact ((va_up_ne _ _ hq9).trans f3)
    have q10 : h5 a4 = some (.inl (E.1 0, 100, .inl (um_cin g (R b.toNatClampNeg) a 100))) := by rw [eh5]; exact (va_up_self _ _ _)
    refine W.widen (k := 1) (n := 100) (by omega) (by omega) ?_
    exact ur_rv hx hb hr hlocks hI hQ (Or.inl ⟨_, c3, eh5⟩) dB_writeBlock_48
  · rw [c3] at hl
    have hb9 : b.toNatClampNeg < 64 := um_lt2 hb0 hb1 (by decide)
    refine lv_bipush (v := 100) hx hb dB_writeBlock_27 (by decide) ?_
    refine ur_newa (atype := .int) (a0 := (100, (.inl (fun _ => 0)))) hx hb (hts _ mw36) rfl 0 hV rfl rfl hI (n := 100) (N' := 100) (fun _ => by rfl) (by decide) rfl (by decide) (Nat.le_of_ble_eq_true rfl) (Nat.le_of_ble_eq_true rfl) dB_writeBlock_29 (fun w11 H zw11 hI => ?_)
    obtain ⟨h12, eh12⟩ : ∃ z : ur_M, z = va_up h w11 (some (.inl (E.1 0, 100, .inl (fun _ => 0)))) := ⟨_, rfl⟩
    replace hI : ur_I D vwCl (ur_A h s.heap.size) s.heap h12 H [] := by rw [eh12]; exact hI
    have n14 : q ≠ w11 := ur_fresh f0 zw11
    have q13 : h12 q = some (.inr (4, [.int 100, .ref qb, .int du, .long fa, .int br, .int tu, .int ta, .ref ql])) := by rw [eh12]; exact (va_up_ne _ _ n14).trans f0
    have n16 : ql ≠ w11 := ur_fresh f1 zw11
    have q15 : h12 ql = some (.inl (E.1 3, 64, .inr (.inr (.inr (.inr f))))) := by rw [eh12]; exact (va_up_ne _ _ n16).trans f1
    have n18 : qm ≠ w11 := ur_fresh f2 zw11
    have q17 : h12 qm = some (.inr (1, [.ref q1])) := by rw [eh12]; exact (va_up_ne _ _ n18).trans f2
    have n20 : q1 ≠ w11 := ur_fresh f3 zw11
    have q19 : h12 q1 = some (.inl (E.1 0, 4000, .inl g)) := by rw [eh12]; exact (va_up_ne _ _ n20).trans f3
    have q21 : h12 w11 = some (.inl (E.1 0, 100, .inl (fun _ => 0))) := by rw [eh12]; exact va_up_self _ _ _
    refine lv_astore (lv' := [(4, .ref w11), (0, .ref q), (1, .int b), (2, .int a), (3, .ref qm)]) hx hb dB_writeBlock_31 hl (by decide) rfl (fun ls hl => ?_)
    refine lv_aload_n hx hb dB_writeBlock_33 rfl (lv_at hl 1 rfl) ?_
    refine va_get (D := D) (ci := 4) (v := .ref ql) (C := "UnitRoom$Disk") (T := TK) (N := 8) hx hb hts inK hown hV (ur_one hI.1 q13) 0 rfl rfl 7 (by decide) (hts _ mw117) (fun _ h9 => h9) rfl dB_writeBlock_34 ?_
    refine lv_iload_n hx hb dB_writeBlock_37 rfl (lv_at hl 2 rfl) ?_
    refine lv_aload hx hb dB_writeBlock_38 (lv_at hl 0 rfl) ?_
    refine ur_astA hx hb hI q15 hK.2.1.2.2.2.2.2.1.1 hK.2.1.2.2.2.2.2.1.2 q21 (um_in hb0 hb1 (by decide)) dB_writeBlock_40 (fun H locs hI => ?_)
    obtain ⟨h22, eh22⟩ : ∃ z : ur_M, z = va_up h12 ql (some (.inl (E.1 3, 64, .inr (.inr (.inr (.inr (va_up f b.toNatClampNeg (some w11)))))))) := ⟨_, rfl⟩
    replace hI : ur_I D vwCl (ur_A h s.heap.size) s.heap h22 H locs := by rw [eh22]; exact hI
    have q23 : h22 q = some (.inr (4, [.int 100, .ref qb, .int du, .long fa, .int br, .int tu, .int ta, .ref ql])) := by rw [eh22]; exact ((va_up_ne _ _ (ur_ne q13 q15 (by intro z; simp at z))).trans q13)
    have q24 : h22 ql = some (.inl (E.1 3, 64, .inr (.inr (.inr (.inr (va_up f b.toNatClampNeg (some w11))))))) := by rw [eh22]; exact (va_up_self _ _ _)
    have q25 : h22 qm = some (.inr (1, [.ref q1])) := by rw [eh22]; exact ((va_up_ne _ _ (ur_ne q17 q15 (by intro z; simp at z))).trans q17)
    have q26 : h22 q1 = some (.inl (E.1 0, 4000, .inl g)) := by rw [eh22]; exact ((va_up_ne _ _ (ur_ne q19 q15 (by intro z; simp at z))).trans q19)
    have q27 : h22 w11 = some (.inl (E.1 0, 100, .inl (fun _ => 0))) := by rw [eh22]; exact ((va_up_ne _ _ (Ne.symm n16)).trans q21)
    refine lv_aload_n hx hb dB_writeBlock_41 rfl (lv_at hl 4 rfl) ?_
    refine lv_aload hx hb dB_writeBlock_42 (lv_at hl 0 rfl) ?_
    refine lv_iload_n hx hb dB_writeBlock_44 rfl (lv_at hl 3 rfl) ?_
    refine ur_xv (va_runV (As := [.ref w11, .int a]) (rest := []) ⟨hx, hb, hml, hown, hts⟩ (kM_ci l D E h22 qm q1 w11 g (fun _ => 0) 100 a q25 q26 q27 (by first | assumption | omega | decide) n20 H.size) (cwV 2 hts (ur_gV mw340 mw341 mw342 mw2 mw343) rfl rfl rfl (by decide +kernel) ⟨(Nat.le_of_ble_eq_true rfl), (Nat.le_of_ble_eq_true rfl)⟩) ⟨ur_blind, va_recv hV (ur_one hI.1 q25) (ci := 1) (q0 := 0) rfl rfl, ur_pre hI hO hK (fun _ _ q => q)⟩ rfl rfl hl.1 rfl (lv_room (Nat.le_of_ble_eq_true rfl)) dB_writeBlock_45 ⟨Nat.le_of_ble_eq_true rfl, Nat.le_of_ble_eq_true rfl⟩) hI (fun h28 H locs p28 hI => ?_)
    have eh28 := p28
    have q29 : h28 q = some (.inr (4, [.int 100, .ref qb, .int du, .long fa, .int br, .int tu, .int ta, .ref ql])) := by rw [eh28]; exact ((va_up_ne _ _ n14).trans q23)
    have q30 : h28 ql = some (.inl (E.1 3, 64, .inr (.inr (.inr (.inr (va_up f b.toNatClampNeg (some w11))))))) := by rw [eh28]; exact ((va_up_ne _ _ n16).trans q24)
    have q31 : h28 qm = some (.inr (1, [.ref q1])) := by rw [eh28]; exact ((va_up_ne _ _ n18).trans q25)
    have q32 : h28 q1 = some (.inl (E.1 0, 4000, .inl g)) := by rw [eh28]; exact ((va_up_ne _ _ n20).trans q26)
    have q33 : h28 w11 = some (.inl (E.1 0, 100, .inl (um_cin g (fun _ => 0) a 100))) := by rw [eh28]; exact (va_up_self _ _ _)
    exact ur_rv hx hb hr hlocks hI hQ (Or.inr ⟨c3, _, zw11, (by rw [hrow.2 _ hb9 c3, eh28, eh22, eh12, ur_sw (Ne.symm n16)])⟩) dB_writeBlock_48
end
section
/-! pure words: tapes, disks, the reader -/
def um_fT (op ps : Int32) : Int32 := if op = 0 then 0 else if ps < 64 then 0 else 6
def um_pos (ps m : Int32) : Int32 := (if (if ps.toInt64 + m.toInt64 < 64 then ps.toInt64 + m.toInt64 else 64) < 0 then 0 else (if ps.toInt64 + m.toInt64 < 64 then ps.toInt64 + m.toInt64 else 64)).toInt32
def um_posT (ps m : Int32) : Int32 := if m = 0 then 0 else um_pos ps m
def um_fK (op m x : Int32) : Int32 := if op = 0 then (if m = 0 then (if x < 0 then 6 else if x < 64 then 0 else 6) else 5) else (if x < 0 then 6 else if x < 64 then 0 else 6)
def um_hasR (x : Int32) : Bool := if 100 ≤ x then false else true
def um_fR (op x : Int32) : Int32 := if op = 1 then (if x = 0 then 6 else 0) else 5
theorem um_wrote.keep {E : ur_Ev} {h h2 : ur_M} {ql k x : Nat} {f : Nat → Option Nat} {r : Nat → Int32} {e : va_E} (hw : um_wrote E h ql f k r h2) (hx : h x = some e) (n1 : x ≠ ql) (n2 : ∀ a, f k = some a → x ≠ a) : h2 x = some e := by
  rcases hw with ⟨a, ha, rfl⟩ | ⟨-, a, ha, rfl⟩
  · exact (va_up_ne _ _ (n2 a ha)).trans hx
  · exact (va_up_ne _ _ n1).trans ((va_up_ne _ _ (ur_fresh hx ha)).trans hx)
theorem um_slot {a b : Nat} (ha : a < 100) (hb : b < 100) : ((nI a + nI b) - (nI a + nI b) / 100 * 100) * 16 = nI ((a + b) % 100 * 16) := by
  rw [nI_add, show (100 : Int32) = nI 100 from rfl, pk_rem (by omega) (by omega) (by omega), show (16 : Int32) = nI 16 from rfl, pk_mul]
theorem um_slot1 {a : Nat} : nI a * 16 = nI (a * 16) := by
  rw [show (16 : Int32) = nI 16 from rfl, pk_mul]
theorem um_next1 {a : Nat} (ha : a < 100) : (nI a + 1) - (nI a + 1) / 100 * 100 = nI ((a + 1) % 100) := by
  rw [nI_1, show (100 : Int32) = nI 100 from rfl, pk_rem (by omega) (by omega) (by omega)]
/-- k words of a card laid into the ring at place r -/
def um_acc (cs bs : Nat → Int32) (n r k : Nat) : Nat → Int32 := fun j => if r ≤ j ∧ j < r + k then um_wAt bs n (nI (j - r) * 5) else cs j
theorem um_acc_0 (cs bs : Nat → Int32) (n r : Nat) : um_acc cs bs n r 0 = cs := by
  funext j
  unfold um_acc
  rw [if_neg (by omega)]
theorem um_acc_succ (cs bs : Nat → Int32) (n r k : Nat) : upd (um_acc cs bs n r k) (r + k) (um_wAt bs n (nI k * 5)) = um_acc cs bs n r (k + 1) := by
  funext j
  unfold upd um_acc
  by_cases h : j = r + k
  · subst h
    rw [if_pos rfl, if_pos (by omega), show r + k - r = k by omega]
  · rw [if_neg h]
    by_cases h2 : r ≤ j ∧ j < r + k
    · rw [if_pos h2, if_pos (by omega)]
    · rw [if_neg h2, if_neg (by omega)]
/-- k words of a card read -/
def um_rd (cs o : Nat → Int32) (r k : Nat) : Nat → Int32 := fun j => if j < k then cs (r + j) else o j
theorem um_rd_0 (cs o : Nat → Int32) (r : Nat) : um_rd cs o r 0 = o := by
  funext j
  unfold um_rd
  rw [if_neg (by omega)]
theorem um_rd_succ (cs o : Nat → Int32) (r k : Nat) : upd (um_rd cs o r k) k (cs (r + k)) = um_rd cs o r (k + 1) := by
  funext j
  unfold upd um_rd
  by_cases h : j = k
  · subst h
    rw [if_pos rfl, if_pos (by omega)]
  · rw [if_neg h]
    by_cases h2 : j < k
    · rw [if_pos h2, if_pos (by omega)]
    · rw [if_neg h2, if_neg (by omega)]
theorem um_ix2 {r k : Nat} (h : r + k < 2 ^ 31) : (nI r + nI k).toNatClampNeg = r + k := by rw [nI_add, nI_clamp h]
end
section
theorem dT_faultOf_0 : decode cT_faultOf 0 = .ok (.iload_n 1, 1) := by decide +kernel
theorem dT_faultOf_1 : decode cT_faultOf 1 = .ok (.ifCond .eq 17, 3) := by decide +kernel
theorem dT_faultOf_4 : decode cT_faultOf 4 = .ok (.aload_n 0, 1) := by decide +kernel
theorem dT_faultOf_5 : decode cT_faultOf 5 = .ok (.getfield 9, 3) := by decide +kernel
theorem dT_faultOf_8 : decode cT_faultOf 8 = .ok (.bipush 64, 2) := by decide +kernel
theorem dT_faultOf_10 : decode cT_faultOf 10 = .ok (.if_icmp .lt 8, 3) := by decide +kernel
theorem dT_faultOf_13 : decode cT_faultOf 13 = .ok (.bipush 6, 2) := by decide +kernel
theorem dT_faultOf_15 : decode cT_faultOf 15 = .ok (.goto 4, 3) := by decide +kernel
theorem dT_faultOf_18 : decode cT_faultOf 18 = .ok (.iconst 0, 1) := by decide +kernel
theorem dT_faultOf_19 : decode cT_faultOf 19 = .ok (.ireturn, 1) := by decide +kernel
abbrev rmkT_fault : Room := { frames := 0, cells := 0, slots := 0, locals := 0 }
set_option maxHeartbeats 4000000 in
set_option maxRecDepth 100000 in
theorem kT_fault (l : Launch) (D : va_G) (E : ur_Ev) (h : ur_M) (q : Nat) (qb : Nat) (ql : Nat) (du : Int32) (br : Int32) (tu : Int32) (ta : Int32) (ps : Int32) (fa : Int64) (op : Int32) (mv : Int32) (x : Int32) (f0 : h q = some (.inr (3, [.int 100, .ref qb, .int du, .long fa, .int br, .int tu, .int ta, .int ps, .ref ql])))  : ur_Mi l yT_faultOf wsT_faultOf rmkT_fault D vwCl (ur_v E) [.ref q, .int op, .int mv, .int x] h (fun r h2 => r = um_fT op ps ∧ h2 = h) 0 0 := by
  intro sz
  refine ur_of (cc := cT_faultOf) (maxL := 4) (ret := (some .int)) (by decide) rfl (Nat.le_of_ble_eq_true rfl) ?_
  intro p e s m args below meth c ls Q hsz hx hb hml hr hlocks hnm hown hts hO hK hI hQ hl
  subst hsz
  have hV := hK.1
  have hts : ∀ w ∈ ur_G, w.before args s = true := fun w hw => hts w (List.mem_cons_of_mem _ hw)
  have hZ : ur_Z E (ur_A h s.heap.size) s s.heap := hO.1
  have hown : s.vm.findClass "UnitRoom$Tape" = some m.cls := hown
  have hl : lv_has ls 4 [(0, .ref q), (1, .int op), (2, .int mv), (3, .int x)] := hl
  refine lv_iload_n hx hb dT_faultOf_0 rfl (lv_at hl 1 rfl) ?_
  refine lv_if_eq (tgt := 18) hx hb dT_faultOf_1 (by decide) (fun c1 => ?_) (fun c1 => ?_)
  · refine lv_iconst (v := 0) hx hb dT_faultOf_18 (by decide) ?_
    exact ur_ri hx hb hr hlocks hI hQ ⟨(by first | (simp only [um_fT, c1, ↓reduceIte]; done) | (simp only [um_fT, c1, ↓reduceIte]; rfl) | rfl), rfl⟩ dT_faultOf_19
  · refine lv_aload_n hx hb dT_faultOf_4 rfl (lv_at hl 0 rfl) ?_
    refine va_get (D := D) (ci := 3) (v := .int ps) (C := "UnitRoom$Tape") (T := TT) (N := 9) hx hb hts inT hown hV (ur_one hI.1 f0) 0 rfl rfl 7 (by decide) (hts _ mw116) (fun _ h9 => h9) rfl dT_faultOf_5 ?_
    refine lv_bipush (v := 64) hx hb dT_faultOf_8 (by decide) ?_
    refine lv_icmp_lt (tgt := 18) hx hb dT_faultOf_10 (by decide) (fun c2 => ?_) (fun c2 => ?_)
    · refine lv_iconst (v := 0) hx hb dT_faultOf_18 (by decide) ?_
      exact ur_ri hx hb hr hlocks hI hQ ⟨(by first | (simp only [um_fT, c1, c2, ↓reduceIte]; done) | (simp only [um_fT, c1, c2, ↓reduceIte]; rfl) | rfl), rfl⟩ dT_faultOf_19
    · refine lv_bipush (v := 6) hx hb dT_faultOf_13 (by decide) ?_
      refine lv_goto (tgt := 19) hx hb dT_faultOf_15 (by decide) ?_
      exact ur_ri hx hb hr hlocks hI hQ ⟨(by first | (simp only [um_fT, c1, c2, ↓reduceIte]; done) | (simp only [um_fT, c1, c2, ↓reduceIte]; rfl) | rfl), rfl⟩ dT_faultOf_19
theorem dT_tell_0 : decode cT_tell 0 = .ok (.aload_n 0, 1) := by decide +kernel
theorem dT_tell_1 : decode cT_tell 1 = .ok (.getfield 9, 3) := by decide +kernel
theorem dT_tell_4 : decode cT_tell 4 = .ok (.ireturn, 1) := by decide +kernel
abbrev rmkT_tell : Room := { frames := 0, cells := 0, slots := 0, locals := 0 }
set_option maxHeartbeats 4000000 in
set_option maxRecDepth 100000 in
theorem kT_tell (l : Launch) (D : va_G) (E : ur_Ev) (h : ur_M) (q : Nat) (qb : Nat) (ql : Nat) (du : Int32) (br : Int32) (tu : Int32) (ta : Int32) (ps : Int32) (fa : Int64) (f0 : h q = some (.inr (3, [.int 100, .ref qb, .int du, .long fa, .int br, .int tu, .int ta, .int ps, .ref ql])))  : ur_Mi l yT_tell wsT_tell rmkT_tell D vwCl (ur_v E) [.ref q] h (fun r h2 => r = ps ∧ h2 = h) 0 0 := by
  intro sz
  refine ur_of (cc := cT_tell) (maxL := 1) (ret := (some .int)) (by decide) rfl (Nat.le_of_ble_eq_true rfl) ?_
  intro p e s m args below meth c ls Q hsz hx hb hml hr hlocks hnm hown hts hO hK hI hQ hl
  subst hsz
  have hV := hK.1
  have hts : ∀ w ∈ ur_G, w.before args s = true := fun w hw => hts w (List.mem_cons_of_mem _ hw)
  have hZ : ur_Z E (ur_A h s.heap.size) s s.heap := hO.1
  have hown : s.vm.findClass "UnitRoom$Tape" = some m.cls := hown
  have hl : lv_has ls 1 [(0, .ref q)] := hl
  refine lv_aload_n hx hb dT_tell_0 rfl (lv_at hl 0 rfl) ?_
  refine va_get (D := D) (ci := 3) (v := .int ps) (C := "UnitRoom$Tape") (T := TT) (N := 9) hx hb hts inT hown hV (ur_one hI.1 f0) 0 rfl rfl 7 (by decide) (hts _ mw116) (fun _ h9 => h9) rfl dT_tell_1 ?_
  exact ur_ri hx hb hr hlocks hI hQ ⟨(by first | (simp only [↓reduceIte]; done) | (simp only [↓reduceIte]; rfl) | rfl), rfl⟩ dT_tell_4
theorem dT_positionAfter_0 : decode cT_positionAfter 0 = .ok (.aload_n 0, 1) := by decide +kernel
theorem dT_positionAfter_1 : decode cT_positionAfter 1 = .ok (.getfield 9, 3) := by decide +kernel
theorem dT_positionAfter_4 : decode cT_positionAfter 4 = .ok (.i2l, 1) := by decide +kernel
theorem dT_positionAfter_5 : decode cT_positionAfter 5 = .ok (.iload_n 1, 1) := by decide +kernel
theorem dT_positionAfter_6 : decode cT_positionAfter 6 = .ok (.i2l, 1) := by decide +kernel
theorem dT_positionAfter_7 : decode cT_positionAfter 7 = .ok (.ladd, 1) := by decide +kernel
theorem dT_positionAfter_8 : decode cT_positionAfter 8 = .ok (.lstore_n 2, 1) := by decide +kernel
theorem dT_positionAfter_9 : decode cT_positionAfter 9 = .ok (.lconst 0, 1) := by decide +kernel
theorem dT_positionAfter_10 : decode cT_positionAfter 10 = .ok (.ldc2_w 27, 3) := by decide +kernel
theorem dT_positionAfter_13 : decode cT_positionAfter 13 = .ok (.lload_n 2, 1) := by decide +kernel
theorem dT_positionAfter_14 : decode cT_positionAfter 14 = .ok (.invokestatic 29, 3) := by decide +kernel
theorem dT_positionAfter_17 : decode cT_positionAfter 17 = .ok (.invokestatic 35, 3) := by decide +kernel
theorem dT_positionAfter_20 : decode cT_positionAfter 20 = .ok (.l2i, 1) := by decide +kernel
theorem dT_positionAfter_21 : decode cT_positionAfter 21 = .ok (.ireturn, 1) := by decide +kernel
abbrev rmkT_pos : Room := { frames := 1, cells := 0, slots := 0, locals := 23 }
set_option maxHeartbeats 4000000 in
set_option maxRecDepth 100000 in
theorem kT_pos (l : Launch) (D : va_G) (E : ur_Ev) (h : ur_M) (q : Nat) (qb : Nat) (ql : Nat) (du : Int32) (br : Int32) (tu : Int32) (ta : Int32) (ps : Int32) (fa : Int64) (mv : Int32) (f0 : h q = some (.inr (3, [.int 100, .ref qb, .int du, .long fa, .int br, .int tu, .int ta, .int ps, .ref ql])))  : ur_Mi l yT_positionAfter wsT_positionAfter rmkT_pos D vwCl (ur_v E) [.ref q, .int mv] h (fun r h2 => r = um_pos ps mv ∧ h2 = h) 0 0 := by
  intro sz
  refine ur_of (cc := cT_positionAfter) (maxL := 4) (ret := (some .int)) (by decide) rfl (Nat.le_of_ble_eq_true rfl) ?_
  intro p e s m args below meth c ls Q hsz hx hb hml hr hlocks hnm hown hts hO hK hI hQ hl
  subst hsz
  have hV := hK.1
  have hts : ∀ w ∈ ur_G, w.before args s = true := fun w hw => hts w (List.mem_cons_of_mem _ hw)
  have hZ : ur_Z E (ur_A h s.heap.size) s s.heap := hO.1
  have hown : s.vm.findClass "UnitRoom$Tape" = some m.cls := hown
  have hl : lv_has ls 4 [(0, .ref q), (1, .int mv)] := hl
  refine lv_aload_n hx hb dT_positionAfter_0 rfl (lv_at hl 0 rfl) ?_
  refine va_get (D := D) (ci := 3) (v := .int ps) (C := "UnitRoom$Tape") (T := TT) (N := 9) hx hb hts inT hown hV (ur_one hI.1 f0) 0 rfl rfl 7 (by decide) (hts _ mw116) (fun _ h9 => h9) rfl dT_positionAfter_1 ?_
  refine lv_i2l hx hb dT_positionAfter_4 rfl ?_
  refine lv_iload_n hx hb dT_positionAfter_5 rfl (lv_at hl 1 rfl) ?_
  refine lv_i2l hx hb dT_positionAfter_6 rfl ?_
  refine lv_ladd hx hb dT_positionAfter_7 ?_
  refine lv_lstore_n (lv' := [(2, .long ((ps.toInt64) + (mv.toInt64))), (0, .ref q), (1, .int mv)]) hx hb dT_positionAfter_8 rfl hl (by decide) rfl (fun ls hl => ?_)
  refine lv_lconst (v := 0) hx hb dT_positionAfter_9 (by decide) ?_
  refine lv_ldc2 (v := 64) hx hb hown (hts _ mw357) dT_positionAfter_10 ?_
  refine lv_lload_n hx hb dT_positionAfter_13 rfl (lv_at hl 0 rfl) ?_
  refine va_mmin_long hx hb (hml.trans hl.1.symm) hown (hts _ mw358) (hts _ mw359) (hts _ mw6) (hts _ mw360) (Nat.le_of_ble_eq_true rfl) (Nat.le_of_ble_eq_true rfl) (Nat.le_of_ble_eq_true rfl) (Nat.le_of_ble_eq_true rfl) dT_positionAfter_14 ?_
  refine va_mmax_long hx hb (hml.trans hl.1.symm) hown (hts _ mw361) (hts _ mw267) (hts _ mw6) (hts _ mw268) (Nat.le_of_ble_eq_true rfl) (Nat.le_of_ble_eq_true rfl) (Nat.le_of_ble_eq_true rfl) (Nat.le_of_ble_eq_true rfl) dT_positionAfter_17 ?_
  refine lv_l2i hx hb dT_positionAfter_20 rfl ?_
  exact ur_ri hx hb hr hlocks hI hQ ⟨(by first | (simp only [um_pos, ↓reduceIte]; done) | (simp only [um_pos, ↓reduceIte]; rfl) | rfl), rfl⟩ dT_positionAfter_21
theorem dT_work_0 : decode cT_work 0 = .ok (.iload_n 1, 1) := by decide +kernel
theorem dT_work_1 : decode cT_work 1 = .ok (.ifCond .ne 21, 3) := by decide +kernel
theorem dT_work_4 : decode cT_work 4 = .ok (.aload_n 0, 1) := by decide +kernel
theorem dT_work_5 : decode cT_work 5 = .ok (.iload_n 2, 1) := by decide +kernel
theorem dT_work_6 : decode cT_work 6 = .ok (.ifCond .ne 7, 3) := by decide +kernel
theorem dT_work_9 : decode cT_work 9 = .ok (.iconst 0, 1) := by decide +kernel
theorem dT_work_10 : decode cT_work 10 = .ok (.goto 8, 3) := by decide +kernel
theorem dT_work_13 : decode cT_work 13 = .ok (.aload_n 0, 1) := by decide +kernel
theorem dT_work_14 : decode cT_work 14 = .ok (.iload_n 2, 1) := by decide +kernel
theorem dT_work_15 : decode cT_work 15 = .ok (.invokevirtual 15, 3) := by decide +kernel
theorem dT_work_18 : decode cT_work 18 = .ok (.putfield 9, 3) := by decide +kernel
theorem dT_work_21 : decode cT_work 21 = .ok (.return_, 1) := by decide +kernel
theorem dT_work_22 : decode cT_work 22 = .ok (.iload_n 1, 1) := by decide +kernel
theorem dT_work_23 : decode cT_work 23 = .ok (.iconst 1, 1) := by decide +kernel
theorem dT_work_24 : decode cT_work 24 = .ok (.if_icmp .ne 15, 3) := by decide +kernel
theorem dT_work_27 : decode cT_work 27 = .ok (.aload_n 0, 1) := by decide +kernel
theorem dT_work_28 : decode cT_work 28 = .ok (.aload_n 0, 1) := by decide +kernel
theorem dT_work_29 : decode cT_work 29 = .ok (.getfield 9, 3) := by decide +kernel
theorem dT_work_32 : decode cT_work 32 = .ok (.iload_n 2, 1) := by decide +kernel
theorem dT_work_33 : decode cT_work 33 = .ok (.invokevirtual 19, 3) := by decide +kernel
theorem dT_work_36 : decode cT_work 36 = .ok (.goto 14, 3) := by decide +kernel
theorem dT_work_39 : decode cT_work 39 = .ok (.aload_n 0, 1) := by decide +kernel
theorem dT_work_40 : decode cT_work 40 = .ok (.aload_n 0, 1) := by decide +kernel
theorem dT_work_41 : decode cT_work 41 = .ok (.getfield 9, 3) := by decide +kernel
theorem dT_work_44 : decode cT_work 44 = .ok (.iload_n 2, 1) := by decide +kernel
theorem dT_work_45 : decode cT_work 45 = .ok (.aload 4, 2) := by decide +kernel
theorem dT_work_47 : decode cT_work 47 = .ok (.invokevirtual 23, 3) := by decide +kernel
theorem dT_work_50 : decode cT_work 50 = .ok (.aload_n 0, 1) := by decide +kernel
theorem dT_work_51 : decode cT_work 51 = .ok (.dup, 1) := by decide +kernel
theorem dT_work_52 : decode cT_work 52 = .ok (.getfield 9, 3) := by decide +kernel
theorem dT_work_55 : decode cT_work 55 = .ok (.iconst 1, 1) := by decide +kernel
theorem dT_work_56 : decode cT_work 56 = .ok (.iadd, 1) := by decide +kernel
theorem dT_work_57 : decode cT_work 57 = .ok (.putfield 9, 3) := by decide +kernel
theorem dT_work_60 : decode cT_work 60 = .ok (.return_, 1) := by decide +kernel
abbrev rmkT_work0 : Room := { frames := 2, cells := 0, slots := 0, locals := 46 }
set_option maxHeartbeats 4000000 in
set_option maxRecDepth 100000 in
theorem kT_work0 (l : Launch) (D : va_G) (E : ur_Ev) (h : ur_M) (q : Nat) (qb : Nat) (ql : Nat) (du : Int32) (br : Int32) (tu : Int32) (ta : Int32) (ps : Int32) (fa : Int64) (qm : Nat) (mv : Int32) (x : Int32) (f0 : h q = some (.inr (3, [.int 100, .ref qb, .int du, .long fa, .int br, .int tu, .int ta, .int ps, .ref ql])))  : ur_Mv l yT_work wsT_work rmkT_work0 D vwCl (ur_v E) [.ref q, .int 0, .int mv, .int x, .ref qm] h (fun h2 => h2 = va_up h q (some (.inr (3, [.int 100, .ref qb, .int du, .long fa, .int br, .int tu, .int ta, .int (um_posT ps mv), .ref ql])))) 0 0 := by
  intro sz
  refine ur_of (cc := cT_work) (maxL := 5) (ret := none) (by decide) rfl (Nat.le_of_ble_eq_true rfl) ?_
  intro p e s m args below meth c ls Q hsz hx hb hml hr hlocks hnm hown hts hO hK hI hQ hl
  subst hsz
  have hV := hK.1
  have hts : ∀ w ∈ ur_G, w.before args s = true := fun w hw => hts w (List.mem_cons_of_mem _ hw)
  have hZ : ur_Z E (ur_A h s.heap.size) s s.heap := hO.1
  have hown : s.vm.findClass "UnitRoom$Tape" = some m.cls := hown
  have hl : lv_has ls 5 [(0, .ref q), (1, .int 0), (2, .int mv), (3, .int x), (4, .ref qm)] := hl
  refine lv_iload_n hx hb dT_work_0 rfl (lv_at hl 1 rfl) ?_
  refine lv_if_ne (tgt := 22) hx hb dT_work_1 (by decide) (fun c1 => absurd c1 (by decide)) (fun c1 => ?_)
  refine lv_aload_n hx hb dT_work_4 rfl (lv_at hl 0 rfl) ?_
  refine lv_iload_n hx hb dT_work_5 rfl (lv_at hl 2 rfl) ?_
  refine lv_if_ne (tgt := 13) hx hb dT_work_6 (by decide) (fun c2 => ?_) (fun c2 => ?_)
  · refine lv_aload_n hx hb dT_work_13 rfl (lv_at hl 0 rfl) ?_
    refine lv_iload_n hx hb dT_work_14 rfl (lv_at hl 2 rfl) ?_
    refine ur_xi (va_runV (As := [.int mv]) (rest := [.ref q]) ⟨hx, hb, hml, hown, hts⟩ (kT_pos l D E h q qb ql du br tu ta ps fa mv f0 s.heap.size) (cwV 1 hts (ur_gV mw353 mw355 ms4 mw8 mw356) rfl rfl rfl (by decide +kernel) ⟨(Nat.le_of_ble_eq_true rfl), (Nat.le_of_ble_eq_true rfl)⟩) ⟨ur_blind, va_recv hV (ur_one hI.1 f0) (ci := 3) (q0 := 0) rfl rfl, ur_pre hI hO hK (fun _ _ q => q)⟩ rfl rfl hl.1 rfl (lv_room (Nat.le_of_ble_eq_true rfl)) dT_work_15 ⟨Nat.le_of_ble_eq_true rfl, Nat.le_of_ble_eq_true rfl⟩) hI (fun r3 h3 H locs p3 hI => ?_)
    obtain ⟨er3, eh3⟩ := p3
    replace eh3 := eh3.symm; subst eh3
    replace er3 := er3.symm; subst er3
    refine ur_put (D := D) (ci := 3) (v := .int (um_pos ps mv)) (ty := .int) (C := "UnitRoom$Tape") (T := TT) (N := 9) hx hb hts inT tyT tyT_ok nmT hown hV hI f0 rfl 7 (by decide) (hts _ mw116) (fun _ h9 => h9) rfl (by decide +kernel) rfl rfl (Nat.le_of_ble_eq_true rfl) dT_work_18 (fun H locs hI => ?_)
    obtain ⟨h4, eh4⟩ : ∃ z : ur_M, z = va_up h q (some (.inr (3, [.int 100, .ref qb, .int du, .long fa, .int br, .int tu, .int ta, .int (um_pos ps mv), .ref ql]))) := ⟨_, rfl⟩
    replace hI : ur_I D vwCl (ur_A h s.heap.size) s.heap h4 H locs := by rw [eh4]; exact hI
    have fq5 : h4 q = some (.inr (3, [.int 100, .ref qb, .int du, .long fa, .int br, .int tu, .int ta, .int (um_pos ps mv), .ref ql])) := by rw [eh4]; exact (va_up_self _ _ _)
    exact ur_rv hx hb hr hlocks hI hQ (by rw [eh4]; simp only [um_posT, c2, ↓reduceIte]) dT_work_21
  · refine lv_iconst (v := 0) hx hb dT_work_9 (by decide) ?_
    refine lv_goto (tgt := 18) hx hb dT_work_10 (by decide) ?_
    refine ur_put (D := D) (ci := 3) (v := .int 0) (ty := .int) (C := "UnitRoom$Tape") (T := TT) (N := 9) hx hb hts inT tyT tyT_ok nmT hown hV hI f0 rfl 7 (by decide) (hts _ mw116) (fun _ h9 => h9) rfl (by decide +kernel) rfl rfl (Nat.le_of_ble_eq_true rfl) dT_work_18 (fun H locs hI => ?_)
    obtain ⟨h6, eh6⟩ : ∃ z : ur_M, z = va_up h q (some (.inr (3, [.int 100, .ref qb, .int du, .long fa, .int br, .int tu, .int ta, .int 0, .ref ql]))) := ⟨_, rfl⟩
    replace hI : ur_I D vwCl (ur_A h s.heap.size) s.heap h6 H locs := by rw [eh6]; exact hI
    have fq7 : h6 q = some (.inr (3, [.int 100, .ref qb, .int du, .long fa, .int br, .int tu, .int ta, .int 0, .ref ql])) := by rw [eh6]; exact (va_up_self _ _ _)
    exact ur_rv hx hb hr hlocks hI hQ (by rw [eh6]; simp only [um_posT, c2, ↓reduceIte]) dT_work_21
abbrev rmkT_work1 : Room := { frames := 2, cells := 0, slots := 0, locals := 46 }
set_option maxHeartbeats 4000000 in
set_option maxRecDepth 100000 in
theorem kT_work1 (l : Launch) (D : va_G) (E : ur_Ev) (h : ur_M) (q : Nat) (qb : Nat) (ql : Nat) (du : Int32) (br : Int32) (tu : Int32) (ta : Int32) (ps : Int32) (fa : Int64) (qm : Nat) (q1 : Nat) (f : Nat → Option Nat) (R : Nat → Nat → Int32) (g : Nat → Int32) (o : Nat → Int32) (mv : Int32) (x : Int32) (f0 : h q = some (.inr (3, [.int 100, .ref qb, .int du, .long fa, .int br, .int tu, .int ta, .int ps, .ref ql]))) (f1 : h ql = some (.inl (E.1 3, 64, .inr (.inr (.inr (.inr f)))))) (f2 : h qb = some (.inl (E.1 0, 100, .inl o))) (f3 : h qm = some (.inr (1, [.ref q1]))) (f4 : h q1 = some (.inl (E.1 0, 4000, .inl g))) (hrow : um_rowsAt E h f R) (hrb : ∀ j, j < 64 → f j ≠ some qb) : ur_Mv l yT_work wsT_work rmkT_work1 D vwCl (ur_v E) [.ref q, .int 1, .int mv, .int x, .ref qm] h (fun h2 => h2 = va_up (va_up h qb (some (.inl (E.1 0, 100, .inl (um_bring R ps o 100))))) q (some (.inr (3, [.int 100, .ref qb, .int du, .long fa, .int 1, .int tu, .int mv, .int (ps + 1), .ref ql])))) 0 0 := by
  intro sz
  refine ur_of (cc := cT_work) (maxL := 5) (ret := none) (by decide) rfl (Nat.le_of_ble_eq_true rfl) ?_
  intro p e s m args below meth c ls Q hsz hx hb hml hr hlocks hnm hown hts hO hK hI hQ hl
  subst hsz
  have hV := hK.1
  have hts : ∀ w ∈ ur_G, w.before args s = true := fun w hw => hts w (List.mem_cons_of_mem _ hw)
  have hZ : ur_Z E (ur_A h s.heap.size) s s.heap := hO.1
  have hown : s.vm.findClass "UnitRoom$Tape" = some m.cls := hown
  have hl : lv_has ls 5 [(0, .ref q), (1, .int 1), (2, .int mv), (3, .int x), (4, .ref qm)] := hl
  refine lv_iload_n hx hb dT_work_0 rfl (lv_at hl 1 rfl) ?_
  refine lv_if_ne (tgt := 22) hx hb dT_work_1 (by decide) (fun c1 => ?_) (fun c1 => absurd c1 (by decide))
  refine lv_iload_n hx hb dT_work_22 rfl (lv_at hl 1 rfl) ?_
  refine lv_iconst (v := 1) hx hb dT_work_23 (by decide) ?_
  refine lv_icmp_ne (tgt := 39) hx hb dT_work_24 (by decide) (fun c2 => absurd c2 (by decide)) (fun c2 => ?_)
  refine lv_aload_n hx hb dT_work_27 rfl (lv_at hl 0 rfl) ?_
  refine lv_aload_n hx hb dT_work_28 rfl (lv_at hl 0 rfl) ?_
  refine va_get (D := D) (ci := 3) (v := .int ps) (C := "UnitRoom$Tape") (T := TT) (N := 9) hx hb hts inT hown hV (ur_one hI.1 f0) 0 rfl rfl 7 (by decide) (hts _ mw116) (fun _ h9 => h9) rfl dT_work_29 ?_
  refine lv_iload_n hx hb dT_work_32 rfl (lv_at hl 2 rfl) ?_
  refine ur_xv (va_runU (As := [.int ps, .int mv]) (rest := []) ⟨hx, hb, hml, hown, hts⟩ (kB_read_T l D E h q qb ql du br tu ta ps fa f R o ps mv f0 f1 f2 (by first | assumption | omega | decide) (by first | assumption | omega | decide) s.heap.size) (va_cwU (owner := "UnitRoom$BlockDevice") 2 hts (ur_gU mw362 mw363 mw364 mw318 mw7 mw319) rfl rfl rfl rfl (by decide +kernel) ⟨(Nat.le_of_ble_eq_true rfl), (Nat.le_of_ble_eq_true rfl)⟩) ⟨ur_blind, va_recv hV (ur_one hI.1 f0) (ci := 3) (q0 := 0) rfl rfl, ur_pre hI hO hK (fun _ _ q => q)⟩ rfl rfl hl.1 rfl (lv_room (Nat.le_of_ble_eq_true rfl)) dT_work_33 ⟨Nat.le_of_ble_eq_true rfl, Nat.le_of_ble_eq_true rfl⟩) hI (fun h3 H locs p3 hI => ?_)
  have eh3 := p3
  have fq4 : h3 q = some (.inr (3, [.int 100, .ref qb, .int du, .long fa, .int 1, .int tu, .int mv, .int ps, .ref ql])) := by rw [eh3]; exact (va_up_self _ _ _)
  have fq5 : h3 ql = some (.inl (E.1 3, 64, .inr (.inr (.inr (.inr f))))) := by rw [eh3]; exact ((va_up_ne _ _ (ur_ne f1 f0 (by intro z; simp at z))).trans ((va_up_ne _ _ (ur_ne f1 f2 (by intro z; simp at z))).trans f1))
  have fq6 : h3 qb = some (.inl (E.1 0, 100, .inl (um_bring R ps o 100))) := by rw [eh3]; exact ((va_up_ne _ _ (ur_ne f2 f0 (by intro z; simp at z))).trans (va_up_self _ _ _))
  have fq7 : h3 qm = some (.inr (1, [.ref q1])) := by rw [eh3]; exact ((va_up_ne _ _ (ur_ne f3 f0 (by intro z; simp at z))).trans ((va_up_ne _ _ (ur_ne f3 f2 (by intro z; simp at z))).trans f3))
  have fq8 : h3 q1 = some (.inl (E.1 0, 4000, .inl g)) := by rw [eh3]; exact ((va_up_ne _ _ (ur_ne f4 f0 (by intro z; simp at z))).trans ((va_up_ne _ _ (ur_ne f4 f2 (by intro z; simp at z))).trans f4))
  refine lv_goto (tgt := 50) hx hb dT_work_36 (by decide) ?_
  refine lv_aload_n hx hb dT_work_50 rfl (lv_at hl 0 rfl) ?_
  refine lv_dup hx hb dT_work_51 rfl ?_
  refine va_get (D := D) (ci := 3) (v := .int ps) (C := "UnitRoom$Tape") (T := TT) (N := 9) hx hb hts inT hown hV (ur_one hI.1 fq4) 0 rfl rfl 7 (by decide) (hts _ mw116) (fun _ h9 => h9) rfl dT_work_52 ?_
  refine lv_iconst (v := 1) hx hb dT_work_55 (by decide) ?_
  refine lv_iadd hx hb dT_work_56 ?_
  refine ur_put (D := D) (ci := 3) (v := .int (ps + 1)) (ty := .int) (C := "UnitRoom$Tape") (T := TT) (N := 9) hx hb hts inT tyT tyT_ok nmT hown hV hI fq4 rfl 7 (by decide) (hts _ mw116) (fun _ h9 => h9) rfl (by decide +kernel) rfl rfl (Nat.le_of_ble_eq_true rfl) dT_work_57 (fun H locs hI => ?_)
  obtain ⟨h9, eh9⟩ : ∃ z : ur_M, z = va_up h3 q (some (.inr (3, [.int 100, .ref qb, .int du, .long fa, .int 1, .int tu, .int mv, .int (ps + 1), .ref ql]))) := ⟨_, rfl⟩
  replace hI : ur_I D vwCl (ur_A h s.heap.size) s.heap h9 H locs := by rw [eh9]; exact hI
  have fq10 : h9 q = some (.inr (3, [.int 100, .ref qb, .int du, .long fa, .int 1, .int tu, .int mv, .int (ps + 1), .ref ql])) := by rw [eh9]; exact (va_up_self _ _ _)
  have fq11 : h9 ql = some (.inl (E.1 3, 64, .inr (.inr (.inr (.inr f))))) := by rw [eh9]; exact ((va_up_ne _ _ (ur_ne fq5 fq4 (by intro z; simp at z))).trans fq5)
  have fq12 : h9 qb = some (.inl (E.1 0, 100, .inl (um_bring R ps o 100))) := by rw [eh9]; exact ((va_up_ne _ _ (ur_ne fq6 fq4 (by intro z; simp at z))).trans fq6)
  have fq13 : h9 qm = some (.inr (1, [.ref q1])) := by rw [eh9]; exact ((va_up_ne _ _ (ur_ne fq7 fq4 (by intro z; simp at z))).trans fq7)
  have fq14 : h9 q1 = some (.inl (E.1 0, 4000, .inl g)) := by rw [eh9]; exact ((va_up_ne _ _ (ur_ne fq8 fq4 (by intro z; simp at z))).trans fq8)
  exact ur_rv hx hb hr hlocks hI hQ (by rw [eh9, eh3, bx_uu]) dT_work_60
abbrev rmkT_work2 : Room := { frames := 3, cells := 1, slots := 100, locals := 72 }
set_option maxHeartbeats 4000000 in
set_option maxRecDepth 100000 in
theorem kT_work2 (l : Launch) (D : va_G) (E : ur_Ev) (h : ur_M) (q : Nat) (qb : Nat) (ql : Nat) (du : Int32) (br : Int32) (tu : Int32) (ta : Int32) (ps : Int32) (fa : Int64) (qm : Nat) (q1 : Nat) (f : Nat → Option Nat) (R : Nat → Nat → Int32) (g : Nat → Int32) (o : Nat → Int32) (mv : Int32) (x : Int32) (f0 : h q = some (.inr (3, [.int 100, .ref qb, .int du, .long fa, .int br, .int tu, .int ta, .int ps, .ref ql]))) (f1 : h ql = some (.inl (E.1 3, 64, .inr (.inr (.inr (.inr f)))))) (f2 : h qb = some (.inl (E.1 0, 100, .inl o))) (f3 : h qm = some (.inr (1, [.ref q1]))) (f4 : h q1 = some (.inl (E.1 0, 4000, .inl g))) (hrow : um_rowsAt E h f R) (hrq : ∀ j, j < 64 → f j ≠ some q1) (hp0 : ¬ ps < 0) (hp1 : ps < 64) : ur_Mv l yT_work wsT_work rmkT_work2 D vwCl (ur_v E) [.ref q, .int 2, .int mv, .int x, .ref qm] h (fun h2 => ∃ h3, um_wrote E h ql f ps.toNatClampNeg (um_cin g (R ps.toNatClampNeg) mv 100) h3 ∧ h2 = va_up h3 q (some (.inr (3, [.int 100, .ref qb, .int du, .long fa, .int br, .int tu, .int ta, .int (ps + 1), .ref ql])))) 1 100 := by
  intro sz
  refine ur_of (cc := cT_work) (maxL := 5) (ret := none) (by decide) rfl (Nat.le_of_ble_eq_true rfl) ?_
  intro p e s m args below meth c ls Q hsz hx hb hml hr hlocks hnm hown hts hO hK hI hQ hl
  subst hsz
  have hV := hK.1
  have hts : ∀ w ∈ ur_G, w.before args s = true := fun w hw => hts w (List.mem_cons_of_mem _ hw)
  have hZ : ur_Z E (ur_A h s.heap.size) s s.heap := hO.1
  have hown : s.vm.findClass "UnitRoom$Tape" = some m.cls := hown
  have hl : lv_has ls 5 [(0, .ref q), (1, .int 2), (2, .int mv), (3, .int x), (4, .ref qm)] := hl
  refine lv_iload_n hx hb dT_work_0 rfl (lv_at hl 1 rfl) ?_
  refine lv_if_ne (tgt := 22) hx hb dT_work_1 (by decide) (fun c1 => ?_) (fun c1 => absurd c1 (by decide))
  refine lv_iload_n hx hb dT_work_22 rfl (lv_at hl 1 rfl) ?_
  refine lv_iconst (v := 1) hx hb dT_work_23 (by decide) ?_
  refine lv_icmp_ne (tgt := 39) hx hb dT_work_24 (by decide) (fun c2 => ?_) (fun c2 => absurd c2 (by decide))
  refine lv_aload_n hx hb dT_work_39 rfl (lv_at hl 0 rfl) ?_
  refine lv_aload_n hx hb dT_work_40 rfl (lv_at hl 0 rfl) ?_
  refine va_get (D := D) (ci := 3) (v := .int ps) (C := "UnitRoom$Tape") (T := TT) (N := 9) hx hb hts inT hown hV (ur_one hI.1 f0) 0 rfl rfl 7 (by decide) (hts _ mw116) (fun _ h9 => h9) rfl dT_work_41 ?_
  refine lv_iload_n hx hb dT_work_44 rfl (lv_at hl 2 rfl) ?_
  refine lv_aload hx hb dT_work_45 (lv_at hl 4 rfl) ?_
  refine ur_xv (va_runU (As := [.int ps, .int mv, .ref qm]) (rest := []) ⟨hx, hb, hml, hown, hts⟩ (kB_write_T l D E h q qb ql du br tu ta ps fa qm q1 f R g ps mv f0 f1 f3 f4 (by first | assumption | omega | decide) (by first | assumption | omega | decide) (by first | assumption | omega | decide) (by first | assumption | omega | decide) s.heap.size) (va_cwU (owner := "UnitRoom$BlockDevice") 3 hts (ur_gU mw365 mw366 mw367 mw338 mw7 mw339) rfl rfl rfl rfl (by decide +kernel) ⟨(Nat.le_of_ble_eq_true rfl), (Nat.le_of_ble_eq_true rfl)⟩) ⟨ur_blind, va_recv hV (ur_one hI.1 f0) (ci := 3) (q0 := 0) rfl rfl, ur_pre hI hO hK (fun _ _ q => q)⟩ rfl rfl hl.1 rfl (lv_room (Nat.le_of_ble_eq_true rfl)) dT_work_47 ⟨Nat.le_of_ble_eq_true rfl, Nat.le_of_ble_eq_true rfl⟩) hI (fun h3 H locs p3 hI => ?_)
  have hk9 : h3 q = some (.inr (3, [.int 100, .ref qb, .int du, .long fa, .int br, .int tu, .int ta, .int ps, .ref ql])) := um_wrote.keep p3 f0 (ur_ne f0 f1 (by intro z; simp at z)) (fun a9 ha9 => ur_ne f0 (hrow.1 _ (um_lt2 hp0 hp1 (by decide)) a9 ha9) (by intro z; simp at z))
  refine lv_aload_n hx hb dT_work_50 rfl (lv_at hl 0 rfl) ?_
  refine lv_dup hx hb dT_work_51 rfl ?_
  refine va_get (D := D) (ci := 3) (v := .int ps) (C := "UnitRoom$Tape") (T := TT) (N := 9) hx hb hts inT hown hV (ur_one hI.1 hk9) 0 rfl rfl 7 (by decide) (hts _ mw116) (fun _ h9 => h9) rfl dT_work_52 ?_
  refine lv_iconst (v := 1) hx hb dT_work_55 (by decide) ?_
  refine lv_iadd hx hb dT_work_56 ?_
  refine ur_put (D := D) (ci := 3) (v := .int (ps + 1)) (ty := .int) (C := "UnitRoom$Tape") (T := TT) (N := 9) hx hb hts inT tyT tyT_ok nmT hown hV hI hk9 rfl 7 (by decide) (hts _ mw116) (fun _ h9 => h9) rfl (by decide +kernel) rfl rfl (Nat.le_of_ble_eq_true rfl) dT_work_57 (fun H locs hI => ?_)
  obtain ⟨h4, eh4⟩ : ∃ z : ur_M, z = va_up h3 q (some (.inr (3, [.int 100, .ref qb, .int du, .long fa, .int br, .int tu, .int ta, .int (ps + 1), .ref ql]))) := ⟨_, rfl⟩
  replace hI : ur_I D vwCl (ur_A h s.heap.size) s.heap h4 H locs := by rw [eh4]; exact hI
  have fq5 : h4 q = some (.inr (3, [.int 100, .ref qb, .int du, .long fa, .int br, .int tu, .int ta, .int (ps + 1), .ref ql])) := by rw [eh4]; exact (va_up_self _ _ _)
  exact ur_rv hx hb hr hlocks hI hQ ⟨_, p3, eh4⟩ dT_work_60
theorem dK_faultOf_0 : decode cK_faultOf 0 = .ok (.iload_n 1, 1) := by decide +kernel
theorem dK_faultOf_1 : decode cK_faultOf 1 = .ok (.ifCond .ne 9, 3) := by decide +kernel
theorem dK_faultOf_4 : decode cK_faultOf 4 = .ok (.iload_n 2, 1) := by decide +kernel
theorem dK_faultOf_5 : decode cK_faultOf 5 = .ok (.ifCond .eq 5, 3) := by decide +kernel
theorem dK_faultOf_8 : decode cK_faultOf 8 = .ok (.iconst 5, 1) := by decide +kernel
theorem dK_faultOf_9 : decode cK_faultOf 9 = .ok (.ireturn, 1) := by decide +kernel
theorem dK_faultOf_10 : decode cK_faultOf 10 = .ok (.iload_n 3, 1) := by decide +kernel
theorem dK_faultOf_11 : decode cK_faultOf 11 = .ok (.ifCond .lt 9, 3) := by decide +kernel
theorem dK_faultOf_14 : decode cK_faultOf 14 = .ok (.iload_n 3, 1) := by decide +kernel
theorem dK_faultOf_15 : decode cK_faultOf 15 = .ok (.bipush 64, 2) := by decide +kernel
theorem dK_faultOf_17 : decode cK_faultOf 17 = .ok (.if_icmp .lt 8, 3) := by decide +kernel
theorem dK_faultOf_20 : decode cK_faultOf 20 = .ok (.bipush 6, 2) := by decide +kernel
theorem dK_faultOf_22 : decode cK_faultOf 22 = .ok (.goto 4, 3) := by decide +kernel
theorem dK_faultOf_25 : decode cK_faultOf 25 = .ok (.iconst 0, 1) := by decide +kernel
theorem dK_faultOf_26 : decode cK_faultOf 26 = .ok (.ireturn, 1) := by decide +kernel
abbrev rmkK_fault : Room := { frames := 0, cells := 0, slots := 0, locals := 0 }
set_option maxHeartbeats 4000000 in
set_option maxRecDepth 100000 in
theorem kK_fault (l : Launch) (D : va_G) (E : ur_Ev) (h : ur_M) (q : Nat) (qb : Nat) (ql : Nat) (du : Int32) (br : Int32) (tu : Int32) (ta : Int32) (fa : Int64) (op : Int32) (mv : Int32) (x : Int32) (f0 : h q = some (.inr (4, [.int 100, .ref qb, .int du, .long fa, .int br, .int tu, .int ta, .ref ql])))  : ur_Mi l yK_faultOf wsK_faultOf rmkK_fault D vwCl (ur_v E) [.ref q, .int op, .int mv, .int x] h (fun r h2 => r = um_fK op mv x ∧ h2 = h) 0 0 := by
  intro sz
  refine ur_of (cc := cK_faultOf) (maxL := 4) (ret := (some .int)) (by decide) rfl (Nat.le_of_ble_eq_true rfl) ?_
  intro p e s m args below meth c ls Q hsz hx hb hml hr hlocks hnm hown hts hO hK hI hQ hl
  subst hsz
  have hV := hK.1
  have hts : ∀ w ∈ ur_G, w.before args s = true := fun w hw => hts w (List.mem_cons_of_mem _ hw)
  have hZ : ur_Z E (ur_A h s.heap.size) s s.heap := hO.1
  have hown : s.vm.findClass "UnitRoom$Disk" = some m.cls := hown
  have hl : lv_has ls 4 [(0, .ref q), (1, .int op), (2, .int mv), (3, .int x)] := hl
  refine lv_iload_n hx hb dK_faultOf_0 rfl (lv_at hl 1 rfl) ?_
  refine lv_if_ne (tgt := 10) hx hb dK_faultOf_1 (by decide) (fun c1 => ?_) (fun c1 => ?_)
  · refine lv_iload_n hx hb dK_faultOf_10 rfl (lv_at hl 3 rfl) ?_
    refine lv_if_lt (tgt := 20) hx hb dK_faultOf_11 (by decide) (fun c2 => ?_) (fun c2 => ?_)
    · refine lv_bipush (v := 6) hx hb dK_faultOf_20 (by decide) ?_
      refine lv_goto (tgt := 26) hx hb dK_faultOf_22 (by decide) ?_
      exact ur_ri hx hb hr hlocks hI hQ ⟨(by first | (simp only [um_fK, c1, c2, ↓reduceIte]; done) | (simp only [um_fK, c1, c2, ↓reduceIte]; rfl) | rfl), rfl⟩ dK_faultOf_26
    · refine lv_iload_n hx hb dK_faultOf_14 rfl (lv_at hl 3 rfl) ?_
      refine lv_bipush (v := 64) hx hb dK_faultOf_15 (by decide) ?_
      refine lv_icmp_lt (tgt := 25) hx hb dK_faultOf_17 (by decide) (fun c3 => ?_) (fun c3 => ?_)
      · refine lv_iconst (v := 0) hx hb dK_faultOf_25 (by decide) ?_
        exact ur_ri hx hb hr hlocks hI hQ ⟨(by first | (simp only [um_fK, c1, c2, c3, ↓reduceIte]; done) | (simp only [um_fK, c1, c2, c3, ↓reduceIte]; rfl) | rfl), rfl⟩ dK_faultOf_26
      · refine lv_bipush (v := 6) hx hb dK_faultOf_20 (by decide) ?_
        refine lv_goto (tgt := 26) hx hb dK_faultOf_22 (by decide) ?_
        exact ur_ri hx hb hr hlocks hI hQ ⟨(by first | (simp only [um_fK, c1, c2, c3, ↓reduceIte]; done) | (simp only [um_fK, c1, c2, c3, ↓reduceIte]; rfl) | rfl), rfl⟩ dK_faultOf_26
  · refine lv_iload_n hx hb dK_faultOf_4 rfl (lv_at hl 2 rfl) ?_
    refine lv_if_eq (tgt := 10) hx hb dK_faultOf_5 (by decide) (fun c4 => ?_) (fun c4 => ?_)
    · refine lv_iload_n hx hb dK_faultOf_10 rfl (lv_at hl 3 rfl) ?_
      refine lv_if_lt (tgt := 20) hx hb dK_faultOf_11 (by decide) (fun c5 => ?_) (fun c5 => ?_)
      · refine lv_bipush (v := 6) hx hb dK_faultOf_20 (by decide) ?_
        refine lv_goto (tgt := 26) hx hb dK_faultOf_22 (by decide) ?_
        exact ur_ri hx hb hr hlocks hI hQ ⟨(by first | (simp only [um_fK, c1, c4, c5, ↓reduceIte]; done) | (simp only [um_fK, c1, c4, c5, ↓reduceIte]; rfl) | rfl), rfl⟩ dK_faultOf_26
      · refine lv_iload_n hx hb dK_faultOf_14 rfl (lv_at hl 3 rfl) ?_
        refine lv_bipush (v := 64) hx hb dK_faultOf_15 (by decide) ?_
        refine lv_icmp_lt (tgt := 25) hx hb dK_faultOf_17 (by decide) (fun c6 => ?_) (fun c6 => ?_)
        · refine lv_iconst (v := 0) hx hb dK_faultOf_25 (by decide) ?_
          exact ur_ri hx hb hr hlocks hI hQ ⟨(by first | (simp only [um_fK, c1, c4, c5, c6, ↓reduceIte]; done) | (simp only [um_fK, c1, c4, c5, c6, ↓reduceIte]; rfl) | rfl), rfl⟩ dK_faultOf_26
        · refine lv_bipush (v := 6) hx hb dK_faultOf_20 (by decide) ?_
          refine lv_goto (tgt := 26) hx hb dK_faultOf_22 (by decide) ?_
          exact ur_ri hx hb hr hlocks hI hQ ⟨(by first | (simp only [um_fK, c1, c4, c5, c6, ↓reduceIte]; done) | (simp only [um_fK, c1, c4, c5, c6, ↓reduceIte]; rfl) | rfl), rfl⟩ dK_faultOf_26
    · refine lv_iconst (v := 5) hx hb dK_faultOf_8 (by decide) ?_
      exact ur_ri hx hb hr hlocks hI hQ ⟨(by first | (simp only [um_fK, c1, c4, ↓reduceIte]; done) | (simp only [um_fK, c1, c4, ↓reduceIte]; rfl) | rfl), rfl⟩ dK_faultOf_9
theorem dK_tell_0 : decode cK_tell 0 = .ok (.iconst (-1), 1) := by decide +kernel
theorem dK_tell_1 : decode cK_tell 1 = .ok (.ireturn, 1) := by decide +kernel
abbrev rmkK_tell : Room := { frames := 0, cells := 0, slots := 0, locals := 0 }
set_option maxHeartbeats 4000000 in
set_option maxRecDepth 100000 in
theorem kK_tell (l : Launch) (D : va_G) (E : ur_Ev) (h : ur_M) (q : Nat) (qb : Nat) (ql : Nat) (du : Int32) (br : Int32) (tu : Int32) (ta : Int32) (fa : Int64) (f0 : h q = some (.inr (4, [.int 100, .ref qb, .int du, .long fa, .int br, .int tu, .int ta, .ref ql])))  : ur_Mi l yK_tell wsK_tell rmkK_tell D vwCl (ur_v E) [.ref q] h (fun r h2 => r = (-1) ∧ h2 = h) 0 0 := by
  intro sz
  refine ur_of (cc := cK_tell) (maxL := 1) (ret := (some .int)) (by decide) rfl (Nat.le_of_ble_eq_true rfl) ?_
  intro p e s m args below meth c ls Q hsz hx hb hml hr hlocks hnm hown hts hO hK hI hQ hl
  subst hsz
  have hV := hK.1
  have hts : ∀ w ∈ ur_G, w.before args s = true := fun w hw => hts w (List.mem_cons_of_mem _ hw)
  have hZ : ur_Z E (ur_A h s.heap.size) s s.heap := hO.1
  have hown : s.vm.findClass "UnitRoom$Disk" = some m.cls := hown
  have hl : lv_has ls 1 [(0, .ref q)] := hl
  refine lv_iconst (v := (-1)) hx hb dK_tell_0 (by decide) ?_
  exact ur_ri hx hb hr hlocks hI hQ ⟨(by first | (simp only [↓reduceIte]; done) | (simp only [↓reduceIte]; rfl) | rfl), rfl⟩ dK_tell_1
theorem dK_work_0 : decode cK_work 0 = .ok (.iload_n 1, 1) := by decide +kernel
theorem dK_work_1 : decode cK_work 1 = .ok (.iconst 1, 1) := by decide +kernel
theorem dK_work_2 : decode cK_work 2 = .ok (.if_icmp .ne 12, 3) := by decide +kernel
theorem dK_work_5 : decode cK_work 5 = .ok (.aload_n 0, 1) := by decide +kernel
theorem dK_work_6 : decode cK_work 6 = .ok (.iload_n 3, 1) := by decide +kernel
theorem dK_work_7 : decode cK_work 7 = .ok (.iload_n 2, 1) := by decide +kernel
theorem dK_work_8 : decode cK_work 8 = .ok (.invokevirtual 9, 3) := by decide +kernel
theorem dK_work_11 : decode cK_work 11 = .ok (.goto 16, 3) := by decide +kernel
theorem dK_work_14 : decode cK_work 14 = .ok (.iload_n 1, 1) := by decide +kernel
theorem dK_work_15 : decode cK_work 15 = .ok (.iconst 2, 1) := by decide +kernel
theorem dK_work_16 : decode cK_work 16 = .ok (.if_icmp .ne 11, 3) := by decide +kernel
theorem dK_work_19 : decode cK_work 19 = .ok (.aload_n 0, 1) := by decide +kernel
theorem dK_work_20 : decode cK_work 20 = .ok (.iload_n 3, 1) := by decide +kernel
theorem dK_work_21 : decode cK_work 21 = .ok (.iload_n 2, 1) := by decide +kernel
theorem dK_work_22 : decode cK_work 22 = .ok (.aload 4, 2) := by decide +kernel
theorem dK_work_24 : decode cK_work 24 = .ok (.invokevirtual 15, 3) := by decide +kernel
theorem dK_work_27 : decode cK_work 27 = .ok (.return_, 1) := by decide +kernel
abbrev rmkK_work0 : Room := { frames := 0, cells := 0, slots := 0, locals := 0 }
set_option maxHeartbeats 4000000 in
set_option maxRecDepth 100000 in
theorem kK_work0 (l : Launch) (D : va_G) (E : ur_Ev) (h : ur_M) (q : Nat) (qb : Nat) (ql : Nat) (du : Int32) (br : Int32) (tu : Int32) (ta : Int32) (fa : Int64) (qm : Nat) (mv : Int32) (x : Int32) (f0 : h q = some (.inr (4, [.int 100, .ref qb, .int du, .long fa, .int br, .int tu, .int ta, .ref ql])))  : ur_Mv l yK_work wsK_work rmkK_work0 D vwCl (ur_v E) [.ref q, .int 0, .int mv, .int x, .ref qm] h (fun h2 => h2 = h) 0 0 := by
  intro sz
  refine ur_of (cc := cK_work) (maxL := 5) (ret := none) (by decide) rfl (Nat.le_of_ble_eq_true rfl) ?_
  intro p e s m args below meth c ls Q hsz hx hb hml hr hlocks hnm hown hts hO hK hI hQ hl
  subst hsz
  have hV := hK.1
  have hts : ∀ w ∈ ur_G, w.before args s = true := fun w hw => hts w (List.mem_cons_of_mem _ hw)
  have hZ : ur_Z E (ur_A h s.heap.size) s s.heap := hO.1
  have hown : s.vm.findClass "UnitRoom$Disk" = some m.cls := hown
  have hl : lv_has ls 5 [(0, .ref q), (1, .int 0), (2, .int mv), (3, .int x), (4, .ref qm)] := hl
  refine lv_iload_n hx hb dK_work_0 rfl (lv_at hl 1 rfl) ?_
  refine lv_iconst (v := 1) hx hb dK_work_1 (by decide) ?_
  refine lv_icmp_ne (tgt := 14) hx hb dK_work_2 (by decide) (fun c1 => ?_) (fun c1 => absurd c1 (by decide))
  refine lv_iload_n hx hb dK_work_14 rfl (lv_at hl 1 rfl) ?_
  refine lv_iconst (v := 2) hx hb dK_work_15 (by decide) ?_
  refine lv_icmp_ne (tgt := 27) hx hb dK_work_16 (by decide) (fun c2 => ?_) (fun c2 => absurd c2 (by decide))
  exact ur_rv hx hb hr hlocks hI hQ rfl dK_work_27
abbrev rmkK_work1 : Room := { frames := 2, cells := 0, slots := 0, locals := 46 }
set_option maxHeartbeats 4000000 in
set_option maxRecDepth 100000 in
theorem kK_work1 (l : Launch) (D : va_G) (E : ur_Ev) (h : ur_M) (q : Nat) (qb : Nat) (ql : Nat) (du : Int32) (br : Int32) (tu : Int32) (ta : Int32) (fa : Int64) (qm : Nat) (q1 : Nat) (f : Nat → Option Nat) (R : Nat → Nat → Int32) (g : Nat → Int32) (o : Nat → Int32) (mv : Int32) (x : Int32) (f0 : h q = some (.inr (4, [.int 100, .ref qb, .int du, .long fa, .int br, .int tu, .int ta, .ref ql]))) (f1 : h ql = some (.inl (E.1 3, 64, .inr (.inr (.inr (.inr f)))))) (f2 : h qb = some (.inl (E.1 0, 100, .inl o))) (f3 : h qm = some (.inr (1, [.ref q1]))) (f4 : h q1 = some (.inl (E.1 0, 4000, .inl g))) (hrow : um_rowsAt E h f R) (hrb : ∀ j, j < 64 → f j ≠ some qb) : ur_Mv l yK_work wsK_work rmkK_work1 D vwCl (ur_v E) [.ref q, .int 1, .int mv, .int x, .ref qm] h (fun h2 => h2 = va_up (va_up h qb (some (.inl (E.1 0, 100, .inl (um_bring R x o 100))))) q (some (.inr (4, [.int 100, .ref qb, .int du, .long fa, .int 1, .int tu, .int mv, .ref ql])))) 0 0 := by
  intro sz
  refine ur_of (cc := cK_work) (maxL := 5) (ret := none) (by decide) rfl (Nat.le_of_ble_eq_true rfl) ?_
  intro p e s m args below meth c ls Q hsz hx hb hml hr hlocks hnm hown hts hO hK hI hQ hl
  subst hsz
  have hV := hK.1
  have hts : ∀ w ∈ ur_G, w.before args s = true := fun w hw => hts w (List.mem_cons_of_mem _ hw)
  have hZ : ur_Z E (ur_A h s.heap.size) s s.heap := hO.1
  have hown : s.vm.findClass "UnitRoom$Disk" = some m.cls := hown
  have hl : lv_has ls 5 [(0, .ref q), (1, .int 1), (2, .int mv), (3, .int x), (4, .ref qm)] := hl
  refine lv_iload_n hx hb dK_work_0 rfl (lv_at hl 1 rfl) ?_
  refine lv_iconst (v := 1) hx hb dK_work_1 (by decide) ?_
  refine lv_icmp_ne (tgt := 14) hx hb dK_work_2 (by decide) (fun c1 => absurd c1 (by decide)) (fun c1 => ?_)
  refine lv_aload_n hx hb dK_work_5 rfl (lv_at hl 0 rfl) ?_
  refine lv_iload_n hx hb dK_work_6 rfl (lv_at hl 3 rfl) ?_
  refine lv_iload_n hx hb dK_work_7 rfl (lv_at hl 2 rfl) ?_
  refine ur_xv (va_runU (As := [.int x, .int mv]) (rest := []) ⟨hx, hb, hml, hown, hts⟩ (kB_read_K l D E h q qb ql du br tu ta fa f R o x mv f0 f1 f2 (by first | assumption | omega | decide) (by first | assumption | omega | decide) s.heap.size) (va_cwU (owner := "UnitRoom$BlockDevice") 2 hts (ur_gU mw314 mw315 mw317 mw318 mw7 mw319) rfl rfl rfl rfl (by decide +kernel) ⟨(Nat.le_of_ble_eq_true rfl), (Nat.le_of_ble_eq_true rfl)⟩) ⟨ur_blind, va_recv hV (ur_one hI.1 f0) (ci := 4) (q0 := 0) rfl rfl, ur_pre hI hO hK (fun _ _ q => q)⟩ rfl rfl hl.1 rfl (lv_room (Nat.le_of_ble_eq_true rfl)) dK_work_8 ⟨Nat.le_of_ble_eq_true rfl, Nat.le_of_ble_eq_true rfl⟩) hI (fun h2 H locs p2 hI => ?_)
  have eh2 := p2
  have fq3 : h2 q = some (.inr (4, [.int 100, .ref qb, .int du, .long fa, .int 1, .int tu, .int mv, .ref ql])) := by rw [eh2]; exact (va_up_self _ _ _)
  have fq4 : h2 ql = some (.inl (E.1 3, 64, .inr (.inr (.inr (.inr f))))) := by rw [eh2]; exact ((va_up_ne _ _ (ur_ne f1 f0 (by intro z; simp at z))).trans ((va_up_ne _ _ (ur_ne f1 f2 (by intro z; simp at z))).trans f1))
  have fq5 : h2 qb = some (.inl (E.1 0, 100, .inl (um_bring R x o 100))) := by rw [eh2]; exact ((va_up_ne _ _ (ur_ne f2 f0 (by intro z; simp at z))).trans (va_up_self _ _ _))
  have fq6 : h2 qm = some (.inr (1, [.ref q1])) := by rw [eh2]; exact ((va_up_ne _ _ (ur_ne f3 f0 (by intro z; simp at z))).trans ((va_up_ne _ _ (ur_ne f3 f2 (by intro z; simp at z))).trans f3))
  have fq7 : h2 q1 = some (.inl (E.1 0, 4000, .inl g)) := by rw [eh2]; exact ((va_up_ne _ _ (ur_ne f4 f0 (by intro z; simp at z))).trans ((va_up_ne _ _ (ur_ne f4 f2 (by intro z; simp at z))).trans f4))
  refine lv_goto (tgt := 27) hx hb dK_work_11 (by decide) ?_
  exact ur_rv hx hb hr hlocks hI hQ (by first | rfl | rw [eh2]) dK_work_27
abbrev rmkK_work2 : Room := { frames := 3, cells := 1, slots := 100, locals := 72 }
set_option maxHeartbeats 4000000 in
set_option maxRecDepth 100000 in
theorem kK_work2 (l : Launch) (D : va_G) (E : ur_Ev) (h : ur_M) (q : Nat) (qb : Nat) (ql : Nat) (du : Int32) (br : Int32) (tu : Int32) (ta : Int32) (fa : Int64) (qm : Nat) (q1 : Nat) (f : Nat → Option Nat) (R : Nat → Nat → Int32) (g : Nat → Int32) (o : Nat → Int32) (mv : Int32) (x : Int32) (f0 : h q = some (.inr (4, [.int 100, .ref qb, .int du, .long fa, .int br, .int tu, .int ta, .ref ql]))) (f1 : h ql = some (.inl (E.1 3, 64, .inr (.inr (.inr (.inr f)))))) (f2 : h qb = some (.inl (E.1 0, 100, .inl o))) (f3 : h qm = some (.inr (1, [.ref q1]))) (f4 : h q1 = some (.inl (E.1 0, 4000, .inl g))) (hrow : um_rowsAt E h f R) (hrq : ∀ j, j < 64 → f j ≠ some q1) (hp0 : ¬ x < 0) (hp1 : x < 64) : ur_Mv l yK_work wsK_work rmkK_work2 D vwCl (ur_v E) [.ref q, .int 2, .int mv, .int x, .ref qm] h (fun h2 => um_wrote E h ql f x.toNatClampNeg (um_cin g (R x.toNatClampNeg) mv 100) h2) 1 100 := by
  intro sz
  refine ur_of (cc := cK_work) (maxL := 5) (ret := none) (by decide) rfl (Nat.le_of_ble_eq_true rfl) ?_
  intro p e s m args below meth c ls Q hsz hx hb hml hr hlocks hnm hown hts hO hK hI hQ hl
  subst hsz
  have hV := hK.1
  have hts : ∀ w ∈ ur_G, w.before args s = true := fun w hw => hts w (List.mem_cons_of_mem _ hw)
  have hZ : ur_Z E (ur_A h s.heap.size) s s.heap := hO.1
  have hown : s.vm.findClass "UnitRoom$Disk" = some m.cls := hown
  have hl : lv_has ls 5 [(0, .ref q), (1, .int 2), (2, .int mv), (3, .int x), (4, .ref qm)] := hl
  refine lv_iload_n hx hb dK_work_0 rfl (lv_at hl 1 rfl) ?_
  refine lv_iconst (v := 1) hx hb dK_work_1 (by decide) ?_
  refine lv_icmp_ne (tgt := 14) hx hb dK_work_2 (by decide) (fun c1 => ?_) (fun c1 => absurd c1 (by decide))
  refine lv_iload_n hx hb dK_work_14 rfl (lv_at hl 1 rfl) ?_
  refine lv_iconst (v := 2) hx hb dK_work_15 (by decide) ?_
  refine lv_icmp_ne (tgt := 27) hx hb dK_work_16 (by decide) (fun c2 => absurd c2 (by decide)) (fun c2 => ?_)
  refine lv_aload_n hx hb dK_work_19 rfl (lv_at hl 0 rfl) ?_
  refine lv_iload_n hx hb dK_work_20 rfl (lv_at hl 3 rfl) ?_
  refine lv_iload_n hx hb dK_work_21 rfl (lv_at hl 2 rfl) ?_
  refine lv_aload hx hb dK_work_22 (lv_at hl 4 rfl) ?_
  refine ur_xv (va_runU (As := [.int x, .int mv, .ref qm]) (rest := []) ⟨hx, hb, hml, hown, hts⟩ (kB_write_K l D E h q qb ql du br tu ta fa qm q1 f R g x mv f0 f1 f3 f4 (by first | assumption | omega | decide) (by first | assumption | omega | decide) (by first | assumption | omega | decide) (by first | assumption | omega | decide) s.heap.size) (va_cwU (owner := "UnitRoom$BlockDevice") 3 hts (ur_gU mw334 mw335 mw337 mw338 mw7 mw339) rfl rfl rfl rfl (by decide +kernel) ⟨(Nat.le_of_ble_eq_true rfl), (Nat.le_of_ble_eq_true rfl)⟩) ⟨ur_blind, va_recv hV (ur_one hI.1 f0) (ci := 4) (q0 := 0) rfl rfl, ur_pre hI hO hK (fun _ _ q => q)⟩ rfl rfl hl.1 rfl (lv_room (Nat.le_of_ble_eq_true rfl)) dK_work_24 ⟨Nat.le_of_ble_eq_true rfl, Nat.le_of_ble_eq_true rfl⟩) hI (fun h3 H locs p3 hI => ?_)
  exact ur_rv hx hb hr hlocks hI hQ p3 dK_work_27
theorem dR_hasRoom_0 : decode cR_hasRoom 0 = .ok (.aload_n 0, 1) := by decide +kernel
theorem dR_hasRoom_1 : decode cR_hasRoom 1 = .ok (.getfield 19, 3) := by decide +kernel
theorem dR_hasRoom_4 : decode cR_hasRoom 4 = .ok (.bipush 100, 2) := by decide +kernel
theorem dR_hasRoom_6 : decode cR_hasRoom 6 = .ok (.if_icmp .ge 7, 3) := by decide +kernel
theorem dR_hasRoom_9 : decode cR_hasRoom 9 = .ok (.iconst 1, 1) := by decide +kernel
theorem dR_hasRoom_10 : decode cR_hasRoom 10 = .ok (.goto 4, 3) := by decide +kernel
theorem dR_hasRoom_13 : decode cR_hasRoom 13 = .ok (.iconst 0, 1) := by decide +kernel
theorem dR_hasRoom_14 : decode cR_hasRoom 14 = .ok (.ireturn, 1) := by decide +kernel
abbrev rmkR_hasRoom : Room := { frames := 0, cells := 0, slots := 0, locals := 0 }
set_option maxHeartbeats 4000000 in
set_option maxRecDepth 100000 in
theorem kR_hasRoom (l : Launch) (D : va_G) (E : ur_Ev) (h : ur_M) (q : Nat) (qb : Nat) (qc : Nat) (a : Nat) (b : Nat) (du : Int32) (br : Int32) (tu : Int32) (ta : Int32) (fa : Int64) (f0 : h q = some (.inr (5, [.int 16, .ref qb, .int du, .long fa, .int br, .int tu, .int ta, .ref qc, .int (nI a), .int (nI b)])))  : ur_Mi l yR_hasRoom wsR_hasRoom rmkR_hasRoom D vwCl (ur_v E) [.ref q] h (fun r h2 => r = um_b (um_hasR (nI b)) ∧ h2 = h) 0 0 := by
  intro sz
  refine ur_of (cc := cR_hasRoom) (maxL := 1) (ret := (some .boolean)) (by decide) rfl (Nat.le_of_ble_eq_true rfl) ?_
  intro p e s m args below meth c ls Q hsz hx hb hml hr hlocks hnm hown hts hO hK hI hQ hl
  subst hsz
  have hV := hK.1
  have hts : ∀ w ∈ ur_G, w.before args s = true := fun w hw => hts w (List.mem_cons_of_mem _ hw)
  have hZ : ur_Z E (ur_A h s.heap.size) s s.heap := hO.1
  have hown : s.vm.findClass "UnitRoom$Reader" = some m.cls := hown
  have hl : lv_has ls 1 [(0, .ref q)] := hl
  refine lv_aload_n hx hb dR_hasRoom_0 rfl (lv_at hl 0 rfl) ?_
  refine va_get (D := D) (ci := 5) (v := .int (nI b)) (C := "UnitRoom$Reader") (T := TR) (N := 10) hx hb hts inR hown hV (ur_one hI.1 f0) 0 rfl rfl 9 (by decide) (hts _ mw65) (fun _ h9 => h9) rfl dR_hasRoom_1 ?_
  refine lv_bipush (v := 100) hx hb dR_hasRoom_4 (by decide) ?_
  refine lv_icmp_ge (tgt := 13) hx hb dR_hasRoom_6 (by decide) (fun c1 => ?_) (fun c1 => ?_)
  · refine lv_iconst (v := 0) hx hb dR_hasRoom_13 (by decide) ?_
    exact ur_rz hx hb hr hlocks hI hQ rfl ⟨(by first | (simp only [um_hasR, c1, ↓reduceIte]; done) | (simp only [um_hasR, c1, ↓reduceIte]; rfl) | rfl), rfl⟩ dR_hasRoom_14
  · refine lv_iconst (v := 1) hx hb dR_hasRoom_9 (by decide) ?_
    refine lv_goto (tgt := 14) hx hb dR_hasRoom_10 (by decide) ?_
    exact ur_rz hx hb hr hlocks hI hQ rfl ⟨(by first | (simp only [um_hasR, c1, ↓reduceIte]; done) | (simp only [um_hasR, c1, ↓reduceIte]; rfl) | rfl), rfl⟩ dR_hasRoom_14
theorem dR_tell_0 : decode cR_tell 0 = .ok (.aload_n 0, 1) := by decide +kernel
theorem dR_tell_1 : decode cR_tell 1 = .ok (.getfield 19, 3) := by decide +kernel
theorem dR_tell_4 : decode cR_tell 4 = .ok (.ireturn, 1) := by decide +kernel
abbrev rmkR_tell : Room := { frames := 0, cells := 0, slots := 0, locals := 0 }
set_option maxHeartbeats 4000000 in
set_option maxRecDepth 100000 in
theorem kR_tell (l : Launch) (D : va_G) (E : ur_Ev) (h : ur_M) (q : Nat) (qb : Nat) (qc : Nat) (a : Nat) (b : Nat) (du : Int32) (br : Int32) (tu : Int32) (ta : Int32) (fa : Int64) (f0 : h q = some (.inr (5, [.int 16, .ref qb, .int du, .long fa, .int br, .int tu, .int ta, .ref qc, .int (nI a), .int (nI b)])))  : ur_Mi l yR_tell wsR_tell rmkR_tell D vwCl (ur_v E) [.ref q] h (fun r h2 => r = nI b ∧ h2 = h) 0 0 := by
  intro sz
  refine ur_of (cc := cR_tell) (maxL := 1) (ret := (some .int)) (by decide) rfl (Nat.le_of_ble_eq_true rfl) ?_
  intro p e s m args below meth c ls Q hsz hx hb hml hr hlocks hnm hown hts hO hK hI hQ hl
  subst hsz
  have hV := hK.1
  have hts : ∀ w ∈ ur_G, w.before args s = true := fun w hw => hts w (List.mem_cons_of_mem _ hw)
  have hZ : ur_Z E (ur_A h s.heap.size) s s.heap := hO.1
  have hown : s.vm.findClass "UnitRoom$Reader" = some m.cls := hown
  have hl : lv_has ls 1 [(0, .ref q)] := hl
  refine lv_aload_n hx hb dR_tell_0 rfl (lv_at hl 0 rfl) ?_
  refine va_get (D := D) (ci := 5) (v := .int (nI b)) (C := "UnitRoom$Reader") (T := TR) (N := 10) hx hb hts inR hown hV (ur_one hI.1 f0) 0 rfl rfl 9 (by decide) (hts _ mw65) (fun _ h9 => h9) rfl dR_tell_1 ?_
  exact ur_ri hx hb hr hlocks hI hQ ⟨(by first | (simp only [↓reduceIte]; done) | (simp only [↓reduceIte]; rfl) | rfl), rfl⟩ dR_tell_4
theorem dR_faultOf_0 : decode cR_faultOf 0 = .ok (.iload_n 1, 1) := by decide +kernel
theorem dR_faultOf_1 : decode cR_faultOf 1 = .ok (.iconst 1, 1) := by decide +kernel
theorem dR_faultOf_2 : decode cR_faultOf 2 = .ok (.if_icmp .eq 5, 3) := by decide +kernel
theorem dR_faultOf_5 : decode cR_faultOf 5 = .ok (.iconst 5, 1) := by decide +kernel
theorem dR_faultOf_6 : decode cR_faultOf 6 = .ok (.ireturn, 1) := by decide +kernel
theorem dR_faultOf_7 : decode cR_faultOf 7 = .ok (.aload_n 0, 1) := by decide +kernel
theorem dR_faultOf_8 : decode cR_faultOf 8 = .ok (.getfield 19, 3) := by decide +kernel
theorem dR_faultOf_11 : decode cR_faultOf 11 = .ok (.ifCond .ne 8, 3) := by decide +kernel
theorem dR_faultOf_14 : decode cR_faultOf 14 = .ok (.bipush 6, 2) := by decide +kernel
theorem dR_faultOf_16 : decode cR_faultOf 16 = .ok (.goto 4, 3) := by decide +kernel
theorem dR_faultOf_19 : decode cR_faultOf 19 = .ok (.iconst 0, 1) := by decide +kernel
theorem dR_faultOf_20 : decode cR_faultOf 20 = .ok (.ireturn, 1) := by decide +kernel
abbrev rmkR_fault : Room := { frames := 0, cells := 0, slots := 0, locals := 0 }
set_option maxHeartbeats 4000000 in
set_option maxRecDepth 100000 in
theorem kR_fault (l : Launch) (D : va_G) (E : ur_Ev) (h : ur_M) (q : Nat) (qb : Nat) (qc : Nat) (a : Nat) (b : Nat) (du : Int32) (br : Int32) (tu : Int32) (ta : Int32) (fa : Int64) (op : Int32) (mv : Int32) (x : Int32) (f0 : h q = some (.inr (5, [.int 16, .ref qb, .int du, .long fa, .int br, .int tu, .int ta, .ref qc, .int (nI a), .int (nI b)])))  : ur_Mi l yR_faultOf wsR_faultOf rmkR_fault D vwCl (ur_v E) [.ref q, .int op, .int mv, .int x] h (fun r h2 => r = um_fR op (nI b) ∧ h2 = h) 0 0 := by
  intro sz
  refine ur_of (cc := cR_faultOf) (maxL := 4) (ret := (some .int)) (by decide) rfl (Nat.le_of_ble_eq_true rfl) ?_
  intro p e s m args below meth c ls Q hsz hx hb hml hr hlocks hnm hown hts hO hK hI hQ hl
  subst hsz
  have hV := hK.1
  have hts : ∀ w ∈ ur_G, w.before args s = true := fun w hw => hts w (List.mem_cons_of_mem _ hw)
  have hZ : ur_Z E (ur_A h s.heap.size) s s.heap := hO.1
  have hown : s.vm.findClass "UnitRoom$Reader" = some m.cls := hown
  have hl : lv_has ls 4 [(0, .ref q), (1, .int op), (2, .int mv), (3, .int x)] := hl
  refine lv_iload_n hx hb dR_faultOf_0 rfl (lv_at hl 1 rfl) ?_
  refine lv_iconst (v := 1) hx hb dR_faultOf_1 (by decide) ?_
  refine lv_icmp_eq (tgt := 7) hx hb dR_faultOf_2 (by decide) (fun c1 => ?_) (fun c1 => ?_)
  · refine lv_aload_n hx hb dR_faultOf_7 rfl (lv_at hl 0 rfl) ?_
    refine va_get (D := D) (ci := 5) (v := .int (nI b)) (C := "UnitRoom$Reader") (T := TR) (N := 10) hx hb hts inR hown hV (ur_one hI.1 f0) 0 rfl rfl 9 (by decide) (hts _ mw65) (fun _ h9 => h9) rfl dR_faultOf_8 ?_
    refine lv_if_ne (tgt := 19) hx hb dR_faultOf_11 (by decide) (fun c2 => ?_) (fun c2 => ?_)
    · refine lv_iconst (v := 0) hx hb dR_faultOf_19 (by decide) ?_
      exact ur_ri hx hb hr hlocks hI hQ ⟨(by first | (simp only [um_fR, c1, c2, ↓reduceIte]; done) | (simp only [um_fR, c1, c2, ↓reduceIte]; rfl) | rfl), rfl⟩ dR_faultOf_20
    · refine lv_bipush (v := 6) hx hb dR_faultOf_14 (by decide) ?_
      refine lv_goto (tgt := 20) hx hb dR_faultOf_16 (by decide) ?_
      exact ur_ri hx hb hr hlocks hI hQ ⟨(by first | (simp only [um_fR, c1, c2, ↓reduceIte]; done) | (simp only [um_fR, c1, c2, ↓reduceIte]; rfl) | rfl), rfl⟩ dR_faultOf_20
  · refine lv_iconst (v := 5) hx hb dR_faultOf_5 (by decide) ?_
    exact ur_ri hx hb hr hlocks hI hQ ⟨(by first | (simp only [um_fR, c1, ↓reduceIte]; done) | (simp only [um_fR, c1, ↓reduceIte]; rfl) | rfl), rfl⟩ dR_faultOf_6
theorem dR_accept_0 : decode cR_accept 0 = .ok (.aload_n 0, 1) := by decide +kernel
theorem dR_accept_1 : decode cR_accept 1 = .ok (.getfield 15, 3) := by decide +kernel
theorem dR_accept_4 : decode cR_accept 4 = .ok (.aload_n 0, 1) := by decide +kernel
theorem dR_accept_5 : decode cR_accept 5 = .ok (.getfield 19, 3) := by decide +kernel
theorem dR_accept_8 : decode cR_accept 8 = .ok (.iadd, 1) := by decide +kernel
theorem dR_accept_9 : decode cR_accept 9 = .ok (.bipush 100, 2) := by decide +kernel
theorem dR_accept_11 : decode cR_accept 11 = .ok (.irem, 1) := by decide +kernel
theorem dR_accept_12 : decode cR_accept 12 = .ok (.bipush 16, 2) := by decide +kernel
theorem dR_accept_14 : decode cR_accept 14 = .ok (.imul, 1) := by decide +kernel
theorem dR_accept_15 : decode cR_accept 15 = .ok (.istore_n 2, 1) := by decide +kernel
theorem dR_accept_16 : decode cR_accept 16 = .ok (.iconst 0, 1) := by decide +kernel
theorem dR_accept_17 : decode cR_accept 17 = .ok (.istore_n 3, 1) := by decide +kernel
theorem dR_accept_18 : decode cR_accept 18 = .ok (.iload_n 3, 1) := by decide +kernel
theorem dR_accept_19 : decode cR_accept 19 = .ok (.bipush 16, 2) := by decide +kernel
theorem dR_accept_21 : decode cR_accept 21 = .ok (.if_icmp .ge 35, 3) := by decide +kernel
theorem dR_accept_24 : decode cR_accept 24 = .ok (.iload_n 2, 1) := by decide +kernel
theorem dR_accept_25 : decode cR_accept 25 = .ok (.iload_n 3, 1) := by decide +kernel
theorem dR_accept_26 : decode cR_accept 26 = .ok (.iadd, 1) := by decide +kernel
theorem dR_accept_27 : decode cR_accept 27 = .ok (.aload_n 0, 1) := by decide +kernel
theorem dR_accept_28 : decode cR_accept 28 = .ok (.getfield 11, 3) := by decide +kernel
theorem dR_accept_31 : decode cR_accept 31 = .ok (.arraylength, 1) := by decide +kernel
theorem dR_accept_32 : decode cR_accept 32 = .ok (.if_icmp .ge 24, 3) := by decide +kernel
theorem dR_accept_35 : decode cR_accept 35 = .ok (.aload_n 0, 1) := by decide +kernel
theorem dR_accept_36 : decode cR_accept 36 = .ok (.getfield 11, 3) := by decide +kernel
theorem dR_accept_39 : decode cR_accept 39 = .ok (.iload_n 2, 1) := by decide +kernel
theorem dR_accept_40 : decode cR_accept 40 = .ok (.iload_n 3, 1) := by decide +kernel
theorem dR_accept_41 : decode cR_accept 41 = .ok (.iadd, 1) := by decide +kernel
theorem dR_accept_42 : decode cR_accept 42 = .ok (.aload_n 1, 1) := by decide +kernel
theorem dR_accept_43 : decode cR_accept 43 = .ok (.iload_n 3, 1) := by decide +kernel
theorem dR_accept_44 : decode cR_accept 44 = .ok (.iconst 5, 1) := by decide +kernel
theorem dR_accept_45 : decode cR_accept 45 = .ok (.imul, 1) := by decide +kernel
theorem dR_accept_46 : decode cR_accept 46 = .ok (.invokestatic 22, 3) := by decide +kernel
theorem dR_accept_49 : decode cR_accept 49 = .ok (.iastore, 1) := by decide +kernel
theorem dR_accept_50 : decode cR_accept 50 = .ok (.iinc 3 1, 3) := by decide +kernel
theorem dR_accept_53 : decode cR_accept 53 = .ok (.goto (-35), 3) := by decide +kernel
theorem dR_accept_56 : decode cR_accept 56 = .ok (.aload_n 0, 1) := by decide +kernel
theorem dR_accept_57 : decode cR_accept 57 = .ok (.dup, 1) := by decide +kernel
theorem dR_accept_58 : decode cR_accept 58 = .ok (.getfield 19, 3) := by decide +kernel
theorem dR_accept_61 : decode cR_accept 61 = .ok (.iconst 1, 1) := by decide +kernel
theorem dR_accept_62 : decode cR_accept 62 = .ok (.iadd, 1) := by decide +kernel
theorem dR_accept_63 : decode cR_accept 63 = .ok (.putfield 19, 3) := by decide +kernel
theorem dR_accept_66 : decode cR_accept 66 = .ok (.return_, 1) := by decide +kernel
abbrev rmkR_accept : Room := { frames := 7, cells := 0, slots := 0, locals := 156 }
set_option maxHeartbeats 4000000 in
set_option maxRecDepth 100000 in
theorem kR_accept (l : Launch) (D : va_G) (E : ur_Ev) (h : ur_M) (q : Nat) (qb : Nat) (qc : Nat) (a : Nat) (b : Nat) (du : Int32) (br : Int32) (tu : Int32) (ta : Int32) (fa : Int64) (q2 : Nat) (q3 : Nat) (n : Nat) (cs : Nat → Int32) (bs : Nat → Int32) (f0 : h q = some (.inr (5, [.int 16, .ref qb, .int du, .long fa, .int br, .int tu, .int ta, .ref qc, .int (nI a), .int (nI b)]))) (f1 : h qc = some (.inl (E.1 0, 1600, .inl cs))) (f2 : h q2 = some (.inr (2, [.ref q3, .int (nI n)]))) (f3 : h q3 = some (.inl (E.1 1, 400, .inl bs))) (ha1 : a < 100) (hb1 : b < 100) (hn : n ≤ 400) : ur_Mv l yR_accept wsR_accept rmkR_accept D vwCl (ur_v E) [.ref q, .ref q2] h (fun h2 => h2 = va_up (va_up h qc (some (.inl (E.1 0, 1600, .inl (um_acc cs bs n ((a + b) % 100 * 16) 16))))) q (some (.inr (5, [.int 16, .ref qb, .int du, .long fa, .int br, .int tu, .int ta, .ref qc, .int (nI a), .int (nI (b + 1))])))) 0 0 := by
  intro sz
  refine ur_of (cc := cR_accept) (maxL := 4) (ret := none) (by decide) rfl (Nat.le_of_ble_eq_true rfl) ?_
  intro p e s m args below meth c ls Q hsz hx hb hml hr hlocks hnm hown hts hO hK hI hQ hl
  subst hsz
  have hV := hK.1
  have hts : ∀ w ∈ ur_G, w.before args s = true := fun w hw => hts w (List.mem_cons_of_mem _ hw)
  have hZ : ur_Z E (ur_A h s.heap.size) s s.heap := hO.1
  have hown : s.vm.findClass "UnitRoom$Reader" = some m.cls := hown
  have hl : lv_has ls 4 [(0, .ref q), (1, .ref q2)] := hl
  refine lv_aload_n hx hb dR_accept_0 rfl (lv_at hl 0 rfl) ?_
  refine va_get (D := D) (ci := 5) (v := .int (nI a)) (C := "UnitRoom$Reader") (T := TR) (N := 10) hx hb hts inR hown hV (ur_one hI.1 f0) 0 rfl rfl 8 (by decide) (hts _ mw64) (fun _ h9 => h9) rfl dR_accept_1 ?_
  refine lv_aload_n hx hb dR_accept_4 rfl (lv_at hl 0 rfl) ?_
  refine va_get (D := D) (ci := 5) (v := .int (nI b)) (C := "UnitRoom$Reader") (T := TR) (N := 10) hx hb hts inR hown hV (ur_one hI.1 f0) 0 rfl rfl 9 (by decide) (hts _ mw65) (fun _ h9 => h9) rfl dR_accept_5 ?_
  refine lv_iadd hx hb dR_accept_8 ?_
  refine lv_bipush (v := 100) hx hb dR_accept_9 (by decide) ?_
  refine lv_irem hx hb dR_accept_11 (by decide) ?_
  refine lv_bipush (v := 16) hx hb dR_accept_12 (by decide) ?_
  refine lv_imul hx hb dR_accept_14 ?_
  refine lv_topi (fun x9 ex9 => ?_)
  rw [um_slot ha1 hb1] at ex9
  have hr9 : (a + b) % 100 * 16 ≤ 1584 := by omega
  generalize (a + b) % 100 * 16 = r at ex9 hr9 hQ
  subst ex9
  refine lv_istore_n (lv' := [(2, .int (nI r)), (0, .ref q), (1, .ref q2)]) hx hb dR_accept_15 rfl hl (by decide) rfl (fun ls hl => ?_)
  refine lv_iconst (v := 0) hx hb dR_accept_16 (by decide) ?_
  refine lv_istore_n (lv' := [(3, .int 0), (2, .int (nI r)), (0, .ref q), (1, .ref q2)]) hx hb dR_accept_17 rfl hl (by decide) rfl (fun ls hl => ?_)
  have lpn1 : ∀ (n1 : Nat) (k : Nat) (hn1 : ur_M) (H : Heap) (locs : List Loc) (ls : Array Slot), 16 - k < n1 → (k ≤ 16) → hn1 = va_up h qc (some (.inl (E.1 0, 1600, .inl (um_acc cs bs n r k)))) → ur_I D vwCl (ur_A h s.heap.size) s.heap hn1 H locs → lv_has ls 4 [(0, .ref q), (1, .ref q2), (2, .int (nI r)), (3, .int (nI k))] → W p l e rmkR_accept s m args below meth c H locs 0 0 Q (F0 m 18 ls []) := by
    intro n1
    induction n1 with
    | zero => intro k hn1 H locs ls hnn1; exact absurd hnn1 (Nat.not_lt_zero _)
    | succ n1 ihn1 =>
      intro k hn1 H locs ls hnn1 hk ehn1 hI hl
      have fq2 : hn1 q = some (.inr (5, [.int 16, .ref qb, .int du, .long fa, .int br, .int tu, .int ta, .ref qc, .int (nI a), .int (nI b)])) := by rw [ehn1]; exact (va_up_ne _ _ (ur_ne f0 f1 (by intro z; simp at z))).trans f0
      have fq3 : hn1 qc = some (.inl (E.1 0, 1600, .inl (um_acc cs bs n r k))) := by rw [ehn1]; exact va_up_self _ _ _
      have fq4 : hn1 q2 = some (.inr (2, [.ref q3, .int (nI n)])) := by rw [ehn1]; exact (va_up_ne _ _ (ur_ne f2 f1 (by intro z; simp at z))).trans f2
      have fq5 : hn1 q3 = some (.inl (E.1 1, 400, .inl bs)) := by rw [ehn1]; exact (va_up_ne _ _ (ur_ne f3 f1 (by intro z; simp at z))).trans f3
      refine lv_iload_n hx hb dR_accept_18 rfl (lv_at hl 3 rfl) ?_
      refine lv_bipush (v := 16) hx hb dR_accept_19 (by decide) ?_
      refine lv_icmp_ge (tgt := 56) hx hb dR_accept_21 (by decide) (fun c6 => ?_) (fun c6 => ?_)
      · have he9 : k = 16 := Nat.le_antisymm hk (Nat.not_lt.mp (fun z9 => nI_ge (b := 16) z9 (by decide) c6))
        refine lv_aload_n hx hb dR_accept_56 rfl (lv_at hl 0 rfl) ?_
        refine lv_dup hx hb dR_accept_57 rfl ?_
        refine va_get (D := D) (ci := 5) (v := .int (nI b)) (C := "UnitRoom$Reader") (T := TR) (N := 10) hx hb hts inR hown hV (ur_one hI.1 fq2) 0 rfl rfl 9 (by decide) (hts _ mw65) (fun _ h9 => h9) rfl dR_accept_58 ?_
        refine lv_iconst (v := 1) hx hb dR_accept_61 (by decide) ?_
        refine lv_iadd hx hb dR_accept_62 ?_
        refine ur_put (D := D) (ci := 5) (v := .int ((nI b) + 1)) (ty := .int) (C := "UnitRoom$Reader") (T := TR) (N := 10) hx hb hts inR tyR tyR_ok nmR hown hV hI fq2 rfl 9 (by decide) (hts _ mw65) (fun _ h9 => h9) rfl (by decide +kernel) rfl rfl (Nat.le_of_ble_eq_true rfl) dR_accept_63 (fun H locs hI => ?_)
        obtain ⟨h7, eh7⟩ : ∃ z : ur_M, z = va_up hn1 q (some (.inr (5, [.int 16, .ref qb, .int du, .long fa, .int br, .int tu, .int ta, .ref qc, .int (nI a), .int ((nI b) + 1)]))) := ⟨_, rfl⟩
        replace hI : ur_I D vwCl (ur_A h s.heap.size) s.heap h7 H locs := by rw [eh7]; exact hI
        have fq8 : h7 q = some (.inr (5, [.int 16, .ref qb, .int du, .long fa, .int br, .int tu, .int ta, .ref qc, .int (nI a), .int ((nI b) + 1)])) := by rw [eh7]; exact (va_up_self _ _ _)
        have fq9 : h7 qc = some (.inl (E.1 0, 1600, .inl (um_acc cs bs n r k))) := by rw [eh7]; exact ((va_up_ne _ _ (ur_ne fq3 fq2 (by intro z; simp at z))).trans fq3)
        have fq10 : h7 q2 = some (.inr (2, [.ref q3, .int (nI n)])) := by rw [eh7]; exact ((va_up_ne _ _ (ur_ne fq4 fq2 (by intro z; simp at z))).trans fq4)
        have fq11 : h7 q3 = some (.inl (E.1 1, 400, .inl bs)) := by rw [eh7]; exact ((va_up_ne _ _ (ur_ne fq5 fq2 (by intro z; simp at z))).trans fq5)
        exact ur_rv hx hb hr hlocks hI hQ (by rw [eh7, ehn1, he9, nI_1]) dR_accept_66
      · have hlt : k < 16 := Nat.not_le.mp (fun z9 => c6 (nI_le z9 (by omega)))
        refine lv_iload_n hx hb dR_accept_24 rfl (lv_at hl 2 rfl) ?_
        refine lv_iload_n hx hb dR_accept_25 rfl (lv_at hl 3 rfl) ?_
        refine lv_iadd hx hb dR_accept_26 ?_
        refine lv_aload_n hx hb dR_accept_27 rfl (lv_at hl 0 rfl) ?_
        refine va_get (D := D) (ci := 5) (v := .ref qc) (C := "UnitRoom$Reader") (T := TR) (N := 10) hx hb hts inR hown hV (ur_one hI.1 fq2) 0 rfl rfl 7 (by decide) (hts _ mw63) (fun _ h9 => h9) rfl dR_accept_28 ?_
        refine va_alen (v := 1600) hx hb hV (ur_one hI.1 fq3) 0 0 rfl rfl rfl dR_accept_31 ?_
        refine lv_icmp_ge (tgt := 56) hx hb dR_accept_32 (by decide) (fun c12 => absurd c12 (by rw [nI_add]; exact nI_ge (b := 1600) (by omega) (by decide))) (fun c12 => ?_)
        refine lv_aload_n hx hb dR_accept_35 rfl (lv_at hl 0 rfl) ?_
        refine va_get (D := D) (ci := 5) (v := .ref qc) (C := "UnitRoom$Reader") (T := TR) (N := 10) hx hb hts inR hown hV (ur_one hI.1 fq2) 0 rfl rfl 7 (by decide) (hts _ mw63) (fun _ h9 => h9) rfl dR_accept_36 ?_
        refine lv_iload_n hx hb dR_accept_39 rfl (lv_at hl 2 rfl) ?_
        refine lv_iload_n hx hb dR_accept_40 rfl (lv_at hl 3 rfl) ?_
        refine lv_iadd hx hb dR_accept_41 ?_
        refine lv_aload_n hx hb dR_accept_42 rfl (lv_at hl 1 rfl) ?_
        refine lv_iload_n hx hb dR_accept_43 rfl (lv_at hl 3 rfl) ?_
        refine lv_iconst (v := 5) hx hb dR_accept_44 (by decide) ?_
        refine lv_imul hx hb dR_accept_45 ?_
        refine ur_xi (va_runS (As := [.ref q2, .int ((nI k) * 5)]) (rest := [.int ((nI r) + (nI k)), .ref qc]) ⟨hx, hb, hml, hown, hts⟩ (kR_wordOf l D E hn1 q2 q3 bs n ((nI k) * 5) fq4 fq5 (by first | assumption | omega | decide) H.size) (va_cwS 2 hts (ur_gT mw468 mw469 mw5 mw470) rfl rfl rfl (by decide +kernel) ⟨(Nat.le_of_ble_eq_true rfl), (Nat.le_of_ble_eq_true rfl)⟩) ⟨ur_blind, ur_pre hI hO hK (fun _ _ q => q)⟩ rfl rfl hl.1 rfl (lv_room (Nat.le_of_ble_eq_true rfl)) dR_accept_46 ⟨Nat.le_of_ble_eq_true rfl, Nat.le_of_ble_eq_true rfl⟩) hI (fun r13 h13 H locs p13 hI => ?_)
        obtain ⟨er13, eh13⟩ := p13
        replace eh13 := eh13.symm; subst eh13
        replace er13 := er13.symm; subst er13
        refine ur_iast hx hb hV hI 0 fq3 rfl (by rw [nI_add]; exact vp_in_nI (by omega) (by decide)) dR_accept_49 (fun H locs hI => ?_)
        obtain ⟨h14, eh14⟩ : ∃ z : ur_M, z = va_up hn1 qc (some (.inl (E.1 0, 1600, .inl (upd (um_acc cs bs n r k) (Int32.toNatClampNeg ((nI r) + (nI k))) (um_wAt bs n ((nI k) * 5)))))) := ⟨_, rfl⟩
        replace hI : ur_I D vwCl (ur_A h s.heap.size) s.heap h14 H locs := by rw [eh14]; exact hI
        have fq15 : h14 q = some (.inr (5, [.int 16, .ref qb, .int du, .long fa, .int br, .int tu, .int ta, .ref qc, .int (nI a), .int (nI b)])) := by rw [eh14]; exact ((va_up_ne _ _ (ur_ne fq2 fq3 (by intro z; simp at z))).trans fq2)
        have fq16 : h14 qc = some (.inl (E.1 0, 1600, .inl (upd (um_acc cs bs n r k) (Int32.toNatClampNeg ((nI r) + (nI k))) (um_wAt bs n ((nI k) * 5))))) := by rw [eh14]; exact (va_up_self _ _ _)
        have fq17 : h14 q2 = some (.inr (2, [.ref q3, .int (nI n)])) := by rw [eh14]; exact ((va_up_ne _ _ (ur_ne fq4 fq3 (by intro z; simp at z))).trans fq4)
        have fq18 : h14 q3 = some (.inl (E.1 1, 400, .inl bs)) := by rw [eh14]; exact ((va_up_ne _ _ (ur_ne fq5 fq3 (by intro z; simp at z))).trans fq5)
        refine lv_iinc (v := ((nI k) + 1)) (lv' := [(3, .int ((nI k) + 1)), (0, .ref q), (1, .ref q2), (2, .int (nI r))]) hx hb dR_accept_50 hl (k := 3) rfl rfl (by decide) rfl (fun ls hl => ?_)
        refine lv_goto (tgt := 18) hx hb dR_accept_53 (by decide) ?_
        rw [nI_1] at hl
        exact ihn1 (k + 1) h14 H locs ls (by omega) hlt (by rw [eh14, ehn1, bx_uu, um_ix2 (by omega), um_acc_succ]) hI (lv_sub hl [1, 2, 3, 0] rfl)
  exact lpn1 _ 0 h _ _ ls (Nat.lt_succ_self _) (by decide) ((by rw [um_acc_0]; exact (ur_same f1).symm)) hI (lv_sub hl [2, 3, 1, 0] rfl)
theorem dR_work_0 : decode cR_work 0 = .ok (.aload_n 0, 1) := by decide +kernel
theorem dR_work_1 : decode cR_work 1 = .ok (.getfield 15, 3) := by decide +kernel
theorem dR_work_4 : decode cR_work 4 = .ok (.bipush 16, 2) := by decide +kernel
theorem dR_work_6 : decode cR_work 6 = .ok (.imul, 1) := by decide +kernel
theorem dR_work_7 : decode cR_work 7 = .ok (.istore 5, 2) := by decide +kernel
theorem dR_work_9 : decode cR_work 9 = .ok (.iconst 0, 1) := by decide +kernel
theorem dR_work_10 : decode cR_work 10 = .ok (.istore 6, 2) := by decide +kernel
theorem dR_work_12 : decode cR_work 12 = .ok (.iload 6, 2) := by decide +kernel
theorem dR_work_14 : decode cR_work 14 = .ok (.aload_n 0, 1) := by decide +kernel
theorem dR_work_15 : decode cR_work 15 = .ok (.getfield 26, 3) := by decide +kernel
theorem dR_work_18 : decode cR_work 18 = .ok (.arraylength, 1) := by decide +kernel
theorem dR_work_19 : decode cR_work 19 = .ok (.if_icmp .ge 39, 3) := by decide +kernel
theorem dR_work_22 : decode cR_work 22 = .ok (.iload 5, 2) := by decide +kernel
theorem dR_work_24 : decode cR_work 24 = .ok (.iload 6, 2) := by decide +kernel
theorem dR_work_26 : decode cR_work 26 = .ok (.iadd, 1) := by decide +kernel
theorem dR_work_27 : decode cR_work 27 = .ok (.aload_n 0, 1) := by decide +kernel
theorem dR_work_28 : decode cR_work 28 = .ok (.getfield 11, 3) := by decide +kernel
theorem dR_work_31 : decode cR_work 31 = .ok (.arraylength, 1) := by decide +kernel
theorem dR_work_32 : decode cR_work 32 = .ok (.if_icmp .ge 26, 3) := by decide +kernel
theorem dR_work_35 : decode cR_work 35 = .ok (.aload_n 0, 1) := by decide +kernel
theorem dR_work_36 : decode cR_work 36 = .ok (.getfield 26, 3) := by decide +kernel
theorem dR_work_39 : decode cR_work 39 = .ok (.iload 6, 2) := by decide +kernel
theorem dR_work_41 : decode cR_work 41 = .ok (.aload_n 0, 1) := by decide +kernel
theorem dR_work_42 : decode cR_work 42 = .ok (.getfield 11, 3) := by decide +kernel
theorem dR_work_45 : decode cR_work 45 = .ok (.iload 5, 2) := by decide +kernel
theorem dR_work_47 : decode cR_work 47 = .ok (.iload 6, 2) := by decide +kernel
theorem dR_work_49 : decode cR_work 49 = .ok (.iadd, 1) := by decide +kernel
theorem dR_work_50 : decode cR_work 50 = .ok (.iaload, 1) := by decide +kernel
theorem dR_work_51 : decode cR_work 51 = .ok (.iastore, 1) := by decide +kernel
theorem dR_work_52 : decode cR_work 52 = .ok (.iinc 6 1, 3) := by decide +kernel
theorem dR_work_55 : decode cR_work 55 = .ok (.goto (-43), 3) := by decide +kernel
theorem dR_work_58 : decode cR_work 58 = .ok (.aload_n 0, 1) := by decide +kernel
theorem dR_work_59 : decode cR_work 59 = .ok (.aload_n 0, 1) := by decide +kernel
theorem dR_work_60 : decode cR_work 60 = .ok (.getfield 15, 3) := by decide +kernel
theorem dR_work_63 : decode cR_work 63 = .ok (.iconst 1, 1) := by decide +kernel
theorem dR_work_64 : decode cR_work 64 = .ok (.iadd, 1) := by decide +kernel
theorem dR_work_65 : decode cR_work 65 = .ok (.bipush 100, 2) := by decide +kernel
theorem dR_work_67 : decode cR_work 67 = .ok (.irem, 1) := by decide +kernel
theorem dR_work_68 : decode cR_work 68 = .ok (.putfield 15, 3) := by decide +kernel
theorem dR_work_71 : decode cR_work 71 = .ok (.aload_n 0, 1) := by decide +kernel
theorem dR_work_72 : decode cR_work 72 = .ok (.dup, 1) := by decide +kernel
theorem dR_work_73 : decode cR_work 73 = .ok (.getfield 19, 3) := by decide +kernel
theorem dR_work_76 : decode cR_work 76 = .ok (.iconst 1, 1) := by decide +kernel
theorem dR_work_77 : decode cR_work 77 = .ok (.isub, 1) := by decide +kernel
theorem dR_work_78 : decode cR_work 78 = .ok (.putfield 19, 3) := by decide +kernel
theorem dR_work_81 : decode cR_work 81 = .ok (.aload_n 0, 1) := by decide +kernel
theorem dR_work_82 : decode cR_work 82 = .ok (.iload_n 2, 1) := by decide +kernel
theorem dR_work_83 : decode cR_work 83 = .ok (.invokevirtual 29, 3) := by decide +kernel
theorem dR_work_86 : decode cR_work 86 = .ok (.return_, 1) := by decide +kernel
abbrev rmkR_work : Room := { frames := 1, cells := 0, slots := 0, locals := 21 }
set_option maxHeartbeats 4000000 in
set_option maxRecDepth 100000 in
theorem kR_work (l : Launch) (D : va_G) (E : ur_Ev) (h : ur_M) (q : Nat) (qb : Nat) (qc : Nat) (a : Nat) (b : Nat) (du : Int32) (br : Int32) (tu : Int32) (ta : Int32) (fa : Int64) (qm : Nat) (cs : Nat → Int32) (o : Nat → Int32) (op : Int32) (mv : Int32) (x : Int32) (f0 : h q = some (.inr (5, [.int 16, .ref qb, .int du, .long fa, .int br, .int tu, .int ta, .ref qc, .int (nI a), .int (nI b)]))) (f1 : h qc = some (.inl (E.1 0, 1600, .inl cs))) (f2 : h qb = some (.inl (E.1 0, 16, .inl o))) (ha1 : a < 100) (hb1 : 0 < b) : ur_Mv l yR_work wsR_work rmkR_work D vwCl (ur_v E) [.ref q, .int op, .int mv, .int x, .ref qm] h (fun h2 => h2 = va_up (va_up h qb (some (.inl (E.1 0, 16, .inl (um_rd cs o (a * 16) 16))))) q (some (.inr (5, [.int 16, .ref qb, .int du, .long fa, .int 1, .int tu, .int mv, .ref qc, .int (nI ((a + 1) % 100)), .int (nI (b - 1))])))) 0 0 := by
  intro sz
  refine ur_of (cc := cR_work) (maxL := 7) (ret := none) (by decide) rfl (Nat.le_of_ble_eq_true rfl) ?_
  intro p e s m args below meth c ls Q hsz hx hb hml hr hlocks hnm hown hts hO hK hI hQ hl
  subst hsz
  have hV := hK.1
  have hts : ∀ w ∈ ur_G, w.before args s = true := fun w hw => hts w (List.mem_cons_of_mem _ hw)
  have hZ : ur_Z E (ur_A h s.heap.size) s s.heap := hO.1
  have hown : s.vm.findClass "UnitRoom$Reader" = some m.cls := hown
  have hl : lv_has ls 7 [(0, .ref q), (1, .int op), (2, .int mv), (3, .int x), (4, .ref qm)] := hl
  refine lv_aload_n hx hb dR_work_0 rfl (lv_at hl 0 rfl) ?_
  refine va_get (D := D) (ci := 5) (v := .int (nI a)) (C := "UnitRoom$Reader") (T := TR) (N := 10) hx hb hts inR hown hV (ur_one hI.1 f0) 0 rfl rfl 8 (by decide) (hts _ mw64) (fun _ h9 => h9) rfl dR_work_1 ?_
  refine lv_bipush (v := 16) hx hb dR_work_4 (by decide) ?_
  refine lv_imul hx hb dR_work_6 ?_
  refine lv_topi (fun x9 ex9 => ?_)
  rw [um_slot1] at ex9
  have hr9 : a * 16 ≤ 1584 := by omega
  generalize a * 16 = r at ex9 hr9 hQ
  subst ex9
  refine lv_istore (lv' := [(5, .int (nI r)), (0, .ref q), (1, .int op), (2, .int mv), (3, .int x), (4, .ref qm)]) hx hb dR_work_7 hl (by decide) rfl (fun ls hl => ?_)
  refine lv_iconst (v := 0) hx hb dR_work_9 (by decide) ?_
  refine lv_istore (lv' := [(6, .int 0), (5, .int (nI r)), (0, .ref q), (1, .int op), (2, .int mv), (3, .int x), (4, .ref qm)]) hx hb dR_work_10 hl (by decide) rfl (fun ls hl => ?_)
  have lpn1 : ∀ (n1 : Nat) (k : Nat) (hn1 : ur_M) (H : Heap) (locs : List Loc) (ls : Array Slot), 16 - k < n1 → (k ≤ 16) → hn1 = va_up h qb (some (.inl (E.1 0, 16, .inl (um_rd cs o r k)))) → ur_I D vwCl (ur_A h s.heap.size) s.heap hn1 H locs → lv_has ls 7 [(0, .ref q), (2, .int mv), (5, .int (nI r)), (6, .int (nI k))] → W p l e rmkR_work s m args below meth c H locs 0 0 Q (F0 m 12 ls []) := by
    intro n1
    induction n1 with
    | zero => intro k hn1 H locs ls hnn1; exact absurd hnn1 (Nat.not_lt_zero _)
    | succ n1 ihn1 =>
      intro k hn1 H locs ls hnn1 hk ehn1 hI hl
      have fq2 : hn1 q = some (.inr (5, [.int 16, .ref qb, .int du, .long fa, .int br, .int tu, .int ta, .ref qc, .int (nI a), .int (nI b)])) := by rw [ehn1]; exact (va_up_ne _ _ (ur_ne f0 f2 (by intro z; simp at z))).trans f0
      have fq3 : hn1 qc = some (.inl (E.1 0, 1600, .inl cs)) := by rw [ehn1]; exact (va_up_ne _ _ (ur_ne f1 f2 (by intro z; simp at z))).trans f1
      have fq4 : hn1 qb = some (.inl (E.1 0, 16, .inl (um_rd cs o r k))) := by rw [ehn1]; exact va_up_self _ _ _
      refine lv_iload hx hb dR_work_12 (lv_at hl 3 rfl) ?_
      refine lv_aload_n hx hb dR_work_14 rfl (lv_at hl 0 rfl) ?_
      refine va_get (D := D) (ci := 5) (v := .ref qb) (C := "UnitRoom$Reader") (T := TR) (N := 10) hx hb hts inR hown hV (ur_one hI.1 fq2) 0 rfl rfl 1 (by decide) (hts _ mw73) (fun x9 h9 => u_same (hts _ mw74) x9 h9) rfl dR_work_15 ?_
      refine va_alen (v := 16) hx hb hV (ur_one hI.1 fq4) 0 0 rfl rfl rfl dR_work_18 ?_
      refine lv_icmp_ge (tgt := 58) hx hb dR_work_19 (by decide) (fun c5 => ?_) (fun c5 => ?_)
      · have he9 : k = 16 := Nat.le_antisymm hk (Nat.not_lt.mp (fun z9 => nI_ge (b := 16) z9 (by decide) c5))
        refine lv_aload_n hx hb dR_work_58 rfl (lv_at hl 0 rfl) ?_
        refine lv_aload_n hx hb dR_work_59 rfl (lv_at hl 0 rfl) ?_
        refine va_get (D := D) (ci := 5) (v := .int (nI a)) (C := "UnitRoom$Reader") (T := TR) (N := 10) hx hb hts inR hown hV (ur_one hI.1 fq2) 0 rfl rfl 8 (by decide) (hts _ mw64) (fun _ h9 => h9) rfl dR_work_60 ?_
        refine lv_iconst (v := 1) hx hb dR_work_63 (by decide) ?_
        refine lv_iadd hx hb dR_work_64 ?_
        refine lv_bipush (v := 100) hx hb dR_work_65 (by decide) ?_
        refine lv_irem hx hb dR_work_67 (by decide) ?_
        refine ur_put (D := D) (ci := 5) (v := .int (((nI a) + 1) - ((nI a) + 1) / 100 * 100)) (ty := .int) (C := "UnitRoom$Reader") (T := TR) (N := 10) hx hb hts inR tyR tyR_ok nmR hown hV hI fq2 rfl 8 (by decide) (hts _ mw64) (fun _ h9 => h9) rfl (by decide +kernel) rfl rfl (Nat.le_of_ble_eq_true rfl) dR_work_68 (fun H locs hI => ?_)
        obtain ⟨h6, eh6⟩ : ∃ z : ur_M, z = va_up hn1 q (some (.inr (5, [.int 16, .ref qb, .int du, .long fa, .int br, .int tu, .int ta, .ref qc, .int (((nI a) + 1) - ((nI a) + 1) / 100 * 100), .int (nI b)]))) := ⟨_, rfl⟩
        replace hI : ur_I D vwCl (ur_A h s.heap.size) s.heap h6 H locs := by rw [eh6]; exact hI
        have fq7 : h6 q = some (.inr (5, [.int 16, .ref qb, .int du, .long fa, .int br, .int tu, .int ta, .ref qc, .int (((nI a) + 1) - ((nI a) + 1) / 100 * 100), .int (nI b)])) := by rw [eh6]; exact (va_up_self _ _ _)
        have fq8 : h6 qc = some (.inl (E.1 0, 1600, .inl cs)) := by rw [eh6]; exact ((va_up_ne _ _ (ur_ne fq3 fq2 (by intro z; simp at z))).trans fq3)
        have fq9 : h6 qb = some (.inl (E.1 0, 16, .inl (um_rd cs o r k))) := by rw [eh6]; exact ((va_up_ne _ _ (ur_ne fq4 fq2 (by intro z; simp at z))).trans fq4)
        refine lv_aload_n hx hb dR_work_71 rfl (lv_at hl 0 rfl) ?_
        refine lv_dup hx hb dR_work_72 rfl ?_
        refine va_get (D := D) (ci := 5) (v := .int (nI b)) (C := "UnitRoom$Reader") (T := TR) (N := 10) hx hb hts inR hown hV (ur_one hI.1 fq7) 0 rfl rfl 9 (by decide) (hts _ mw65) (fun _ h9 => h9) rfl dR_work_73 ?_
        refine lv_iconst (v := 1) hx hb dR_work_76 (by decide) ?_
        refine lv_isub hx hb dR_work_77 ?_
        refine ur_put (D := D) (ci := 5) (v := .int ((nI b) - 1)) (ty := .int) (C := "UnitRoom$Reader") (T := TR) (N := 10) hx hb hts inR tyR tyR_ok nmR hown hV hI fq7 rfl 9 (by decide) (hts _ mw65) (fun _ h9 => h9) rfl (by decide +kernel) rfl rfl (Nat.le_of_ble_eq_true rfl) dR_work_78 (fun H locs hI => ?_)
        obtain ⟨h10, eh10⟩ : ∃ z : ur_M, z = va_up h6 q (some (.inr (5, [.int 16, .ref qb, .int du, .long fa, .int br, .int tu, .int ta, .ref qc, .int (((nI a) + 1) - ((nI a) + 1) / 100 * 100), .int ((nI b) - 1)]))) := ⟨_, rfl⟩
        replace hI : ur_I D vwCl (ur_A h s.heap.size) s.heap h10 H locs := by rw [eh10]; exact hI
        have fq11 : h10 q = some (.inr (5, [.int 16, .ref qb, .int du, .long fa, .int br, .int tu, .int ta, .ref qc, .int (((nI a) + 1) - ((nI a) + 1) / 100 * 100), .int ((nI b) - 1)])) := by rw [eh10]; exact (va_up_self _ _ _)
        have fq12 : h10 qc = some (.inl (E.1 0, 1600, .inl cs)) := by rw [eh10]; exact ((va_up_ne _ _ (ur_ne fq8 fq7 (by intro z; simp at z))).trans fq8)
        have fq13 : h10 qb = some (.inl (E.1 0, 16, .inl (um_rd cs o r k))) := by rw [eh10]; exact ((va_up_ne _ _ (ur_ne fq9 fq7 (by intro z; simp at z))).trans fq9)
        refine lv_aload_n hx hb dR_work_81 rfl (lv_at hl 0 rfl) ?_
        refine lv_iload_n hx hb dR_work_82 rfl (lv_at hl 1 rfl) ?_
        refine ur_xv (va_runU (As := [.int mv]) (rest := []) ⟨hx, hb, hml, hown, hts⟩ (kD_bringTo l D E h10 q 5 qb 16 du br tu ta fa ([.ref qc, .int (((nI a) + 1) - ((nI a) + 1) / 100 * 100), .int ((nI b) - 1)]) mv fq11 (by unfold um_isD; decide) H.size) (va_cwU (owner := "UnitRoom$Device") 1 hts (ur_gU mw347 mw348 mw349 mw332 mw4 mw333) rfl rfl rfl rfl (by decide +kernel) ⟨(Nat.le_of_ble_eq_true rfl), (Nat.le_of_ble_eq_true rfl)⟩) ⟨ur_blind, va_recv hV (ur_one hI.1 fq11) (ci := 5) (q0 := 0) rfl rfl, ur_pre hI hO hK (fun _ _ q => q)⟩ rfl rfl hl.1 rfl (lv_room (Nat.le_of_ble_eq_true rfl)) dR_work_83 ⟨Nat.le_of_ble_eq_true rfl, Nat.le_of_ble_eq_true rfl⟩) hI (fun h14 H locs p14 hI => ?_)
        have eh14 := p14
        have fq15 : h14 q = some (.inr (5, [.int 16, .ref qb, .int du, .long fa, .int 1, .int tu, .int mv, .ref qc, .int (((nI a) + 1) - ((nI a) + 1) / 100 * 100), .int ((nI b) - 1)])) := by rw [eh14]; exact (va_up_self _ _ _)
        have fq16 : h14 qc = some (.inl (E.1 0, 1600, .inl cs)) := by rw [eh14]; exact ((va_up_ne _ _ (ur_ne fq12 fq11 (by intro z; simp at z))).trans fq12)
        have fq17 : h14 qb = some (.inl (E.1 0, 16, .inl (um_rd cs o r k))) := by rw [eh14]; exact ((va_up_ne _ _ (ur_ne fq13 fq11 (by intro z; simp at z))).trans fq13)
        exact ur_rv hx hb hr hlocks hI hQ (by rw [eh14, eh10, eh6, ehn1, bx_uu, bx_uu, he9, um_next1 ha1, show nI b - 1 = nI (b - 1) by rw [show b = (b - 1) + 1 by omega, nI_pred, Nat.add_sub_cancel]]) dR_work_86
      · have hlt : k < 16 := Nat.not_le.mp (fun z9 => c5 (nI_le z9 (by omega)))
        refine lv_iload hx hb dR_work_22 (lv_at hl 2 rfl) ?_
        refine lv_iload hx hb dR_work_24 (lv_at hl 3 rfl) ?_
        refine lv_iadd hx hb dR_work_26 ?_
        refine lv_aload_n hx hb dR_work_27 rfl (lv_at hl 0 rfl) ?_
        refine va_get (D := D) (ci := 5) (v := .ref qc) (C := "UnitRoom$Reader") (T := TR) (N := 10) hx hb hts inR hown hV (ur_one hI.1 fq2) 0 rfl rfl 7 (by decide) (hts _ mw63) (fun _ h9 => h9) rfl dR_work_28 ?_
        refine va_alen (v := 1600) hx hb hV (ur_one hI.1 fq3) 0 0 rfl rfl rfl dR_work_31 ?_
        refine lv_icmp_ge (tgt := 58) hx hb dR_work_32 (by decide) (fun c18 => absurd c18 (by rw [nI_add]; exact nI_ge (b := 1600) (by omega) (by decide))) (fun c18 => ?_)
        refine lv_aload_n hx hb dR_work_35 rfl (lv_at hl 0 rfl) ?_
        refine va_get (D := D) (ci := 5) (v := .ref qb) (C := "UnitRoom$Reader") (T := TR) (N := 10) hx hb hts inR hown hV (ur_one hI.1 fq2) 0 rfl rfl 1 (by decide) (hts _ mw73) (fun x9 h9 => u_same (hts _ mw74) x9 h9) rfl dR_work_36 ?_
        refine lv_iload hx hb dR_work_39 (lv_at hl 3 rfl) ?_
        refine lv_aload_n hx hb dR_work_41 rfl (lv_at hl 0 rfl) ?_
        refine va_get (D := D) (ci := 5) (v := .ref qc) (C := "UnitRoom$Reader") (T := TR) (N := 10) hx hb hts inR hown hV (ur_one hI.1 fq2) 0 rfl rfl 7 (by decide) (hts _ mw63) (fun _ h9 => h9) rfl dR_work_42 ?_
        refine lv_iload hx hb dR_work_45 (lv_at hl 2 rfl) ?_
        refine lv_iload hx hb dR_work_47 (lv_at hl 3 rfl) ?_
        refine lv_iadd hx hb dR_work_49 ?_
        refine va_iald hx hb hV (ur_one hI.1 fq3) 0 0 rfl rfl (by rw [nI_add]; exact vp_in_nI (by omega) (by decide)) dR_work_50 ?_
        refine ur_iast hx hb hV hI 0 fq4 rfl (vp_in_nI hlt (by decide)) dR_work_51 (fun H locs hI => ?_)
        obtain ⟨h19, eh19⟩ : ∃ z : ur_M, z = va_up hn1 qb (some (.inl (E.1 0, 16, .inl (upd (um_rd cs o r k) (Int32.toNatClampNeg (nI k)) (cs (Int32.toNatClampNeg ((nI r) + (nI k)))))))) := ⟨_, rfl⟩
        replace hI : ur_I D vwCl (ur_A h s.heap.size) s.heap h19 H locs := by rw [eh19]; exact hI
        have fq20 : h19 q = some (.inr (5, [.int 16, .ref qb, .int du, .long fa, .int br, .int tu, .int ta, .ref qc, .int (nI a), .int (nI b)])) := by rw [eh19]; exact ((va_up_ne _ _ (ur_ne fq2 fq4 (by intro z; simp at z))).trans fq2)
        have fq21 : h19 qc = some (.inl (E.1 0, 1600, .inl cs)) := by rw [eh19]; exact ((va_up_ne _ _ (ur_ne fq3 fq4 (by intro z; simp at z))).trans fq3)
        have fq22 : h19 qb = some (.inl (E.1 0, 16, .inl (upd (um_rd cs o r k) (Int32.toNatClampNeg (nI k)) (cs (Int32.toNatClampNeg ((nI r) + (nI k))))))) := by rw [eh19]; exact (va_up_self _ _ _)
        refine lv_iinc (v := ((nI k) + 1)) (lv' := [(6, .int ((nI k) + 1)), (0, .ref q), (2, .int mv), (5, .int (nI r))]) hx hb dR_work_52 hl (k := 3) rfl rfl (by decide) rfl (fun ls hl => ?_)
        refine lv_goto (tgt := 12) hx hb dR_work_55 (by decide) ?_
        rw [nI_1] at hl
        exact ihn1 (k + 1) h19 H locs ls (by omega) hlt (by rw [eh19, ehn1, bx_uu, um_ix2 (by omega), nI_clamp (by omega), um_rd_succ]) hI (lv_sub hl [1, 2, 3, 0] rfl)
  exact lpn1 _ 0 h _ _ ls (Nat.lt_succ_self _) (by decide) ((by rw [um_rd_0]; exact (ur_same f2).symm)) hI (lv_sub hl [2, 4, 1, 0] rfl)
end
section
/-! pure words: writers -/
def um_fW (op hp m : Int32) : Int32 := if op = 2 then 0 else if op = 0 then (if hp = 0 then 5 else if m = 0 then 0 else 5) else 5
def um_len (g : Nat → Int32) (a : Int32) : Nat → Nat
  | 0 => 0
  | n + 1 => if um_byte g a (nI (n + 1) - 1) = 0 then um_len g a n else n + 1
theorem um_len_le (g : Nat → Int32) (a : Int32) (n : Nat) : um_len g a n ≤ n := by
  induction n with
  | zero => exact Nat.le_refl 0
  | succ n ih =>
    rw [um_len]
    by_cases h : um_byte g a (nI (n + 1) - 1) = 0
    · rw [if_pos h]; omega
    · rw [if_neg h]; omega
theorem um_w5 {n : Nat} (h : 0 < n) (h2 : n < 2 ^ 20) : (if 0 < nI n then nI n else 0) * 5 = nI (n * 5) := by
  rw [if_pos (by rw [show (0 : Int32) = nI 0 from rfl, nI_ltI (by omega) (by omega)]; exact h), show (5 : Int32) = nI 5 from rfl, pk_mul]
def um_lb (g : Nat → Int32) (a : Int32) (j : Nat) : Int32 := vp_nar .byte (um_letter (um_byte g a (nI j))).toInt8.toInt32
/-- i letters of a line -/
def um_line (g : Nat → Int32) (a : Int32) (i : Nat) : Nat → Int32 := fun j => if j < i then um_lb g a j else 0
theorem um_line_0 (g : Nat → Int32) (a : Int32) : um_line g a 0 = fun _ => 0 := by
  funext j
  unfold um_line
  rw [if_neg (by omega)]
theorem um_line_succ (g : Nat → Int32) (a : Int32) (i : Nat) : upd (um_line g a i) i (um_lb g a i) = um_line g a (i + 1) := by
  funext j
  unfold upd um_line
  by_cases h : j = i
  · subst h
    rw [if_pos rfl, if_pos (by omega)]
  · rw [if_neg h]
    by_cases h2 : j < i
    · rw [if_pos h2, if_pos (by omega)]
    · rw [if_neg h2, if_neg (by omega)]
def um_ff : Nat → Int32 := upd (fun _ => 0) 0 (vp_nar .byte 12)
/-- the lines: k rows are there, of lengths G and letters B -/
def um_linesAt (E : ur_Ev) (h : ur_M) (f : Nat → Option Nat) (G : Nat → Nat) (B : Nat → Nat → Int32) (k : Nat) : Prop := ∀ j, j < k → ∃ a, f j = some a ∧ h a = some (.inl (E.1 1, G j, .inl (B j))) ∧ G j ≤ 120
def um_lAt (G : Nat → Nat) (B : Nat → Nat → Int32) (k : Nat) (x i : Int32) : Int32 := if x < 0 then -1 else if nI k ≤ x then -1 else if x < 300 then (if i < 0 then -1 else if i < nI (G x.toNatClampNeg) then B x.toNatClampNeg i.toNatClampNeg else -1) else -1
end
section
theorem dW_tell_0 : decode cW_tell 0 = .ok (.aload_n 0, 1) := by decide +kernel
theorem dW_tell_1 : decode cW_tell 1 = .ok (.getfield 17, 3) := by decide +kernel
theorem dW_tell_4 : decode cW_tell 4 = .ok (.ireturn, 1) := by decide +kernel
abbrev rmkW_tell : Room := { frames := 0, cells := 0, slots := 0, locals := 0 }
set_option maxHeartbeats 4000000 in
set_option maxRecDepth 100000 in
theorem kW_tell (l : Launch) (D : va_G) (E : ur_Ev) (h : ur_M) (q : Nat) (qb : Nat) (ql : Nat) (nw : Nat) (k : Nat) (du : Int32) (br : Int32) (tu : Int32) (ta : Int32) (hp : Int32) (fa : Int64) (f0 : h q = some (.inr (6, [.int (nI nw), .ref qb, .int du, .long fa, .int br, .int tu, .int ta, .ref ql, .int hp, .int (nI k)])))  : ur_Mi l yW_tell wsW_tell rmkW_tell D vwCl (ur_v E) [.ref q] h (fun r h2 => r = nI k ∧ h2 = h) 0 0 := by
  intro sz
  refine ur_of (cc := cW_tell) (maxL := 1) (ret := (some .int)) (by decide) rfl (Nat.le_of_ble_eq_true rfl) ?_
  intro p e s m args below meth c ls Q hsz hx hb hml hr hlocks hnm hown hts hO hK hI hQ hl
  subst hsz
  have hV := hK.1
  have hts : ∀ w ∈ ur_G, w.before args s = true := fun w hw => hts w (List.mem_cons_of_mem _ hw)
  have hZ : ur_Z E (ur_A h s.heap.size) s s.heap := hO.1
  have hown : s.vm.findClass "UnitRoom$Writer" = some m.cls := hown
  have hl : lv_has ls 1 [(0, .ref q)] := hl
  refine lv_aload_n hx hb dW_tell_0 rfl (lv_at hl 0 rfl) ?_
  refine va_get (D := D) (ci := 6) (v := .int (nI k)) (C := "UnitRoom$Writer") (T := TW) (N := 10) hx hb hts inW hown hV (ur_one hI.1 f0) 0 rfl rfl 9 (by decide) (hts _ mw155) (fun _ h9 => h9) rfl dW_tell_1 ?_
  exact ur_ri hx hb hr hlocks hI hQ ⟨(by first | (simp only [↓reduceIte]; done) | (simp only [↓reduceIte]; rfl) | rfl), rfl⟩ dW_tell_4
theorem dW_faultOf_0 : decode cW_faultOf 0 = .ok (.iload_n 1, 1) := by decide +kernel
theorem dW_faultOf_1 : decode cW_faultOf 1 = .ok (.iconst 2, 1) := by decide +kernel
theorem dW_faultOf_2 : decode cW_faultOf 2 = .ok (.if_icmp .eq 18, 3) := by decide +kernel
theorem dW_faultOf_5 : decode cW_faultOf 5 = .ok (.iload_n 1, 1) := by decide +kernel
theorem dW_faultOf_6 : decode cW_faultOf 6 = .ok (.ifCond .ne 18, 3) := by decide +kernel
theorem dW_faultOf_9 : decode cW_faultOf 9 = .ok (.aload_n 0, 1) := by decide +kernel
theorem dW_faultOf_10 : decode cW_faultOf 10 = .ok (.getfield 21, 3) := by decide +kernel
theorem dW_faultOf_13 : decode cW_faultOf 13 = .ok (.ifCond .eq 11, 3) := by decide +kernel
theorem dW_faultOf_16 : decode cW_faultOf 16 = .ok (.iload_n 2, 1) := by decide +kernel
theorem dW_faultOf_17 : decode cW_faultOf 17 = .ok (.ifCond .ne 7, 3) := by decide +kernel
theorem dW_faultOf_20 : decode cW_faultOf 20 = .ok (.iconst 1, 1) := by decide +kernel
theorem dW_faultOf_21 : decode cW_faultOf 21 = .ok (.goto 4, 3) := by decide +kernel
theorem dW_faultOf_24 : decode cW_faultOf 24 = .ok (.iconst 0, 1) := by decide +kernel
theorem dW_faultOf_25 : decode cW_faultOf 25 = .ok (.istore 4, 2) := by decide +kernel
theorem dW_faultOf_27 : decode cW_faultOf 27 = .ok (.iload 4, 2) := by decide +kernel
theorem dW_faultOf_29 : decode cW_faultOf 29 = .ok (.ifCond .eq 7, 3) := by decide +kernel
theorem dW_faultOf_32 : decode cW_faultOf 32 = .ok (.iconst 0, 1) := by decide +kernel
theorem dW_faultOf_33 : decode cW_faultOf 33 = .ok (.goto 4, 3) := by decide +kernel
theorem dW_faultOf_36 : decode cW_faultOf 36 = .ok (.iconst 5, 1) := by decide +kernel
theorem dW_faultOf_37 : decode cW_faultOf 37 = .ok (.ireturn, 1) := by decide +kernel
abbrev rmkW_fault : Room := { frames := 0, cells := 0, slots := 0, locals := 0 }
set_option maxHeartbeats 4000000 in
set_option maxRecDepth 100000 in
theorem kW_fault (l : Launch) (D : va_G) (E : ur_Ev) (h : ur_M) (q : Nat) (qb : Nat) (ql : Nat) (nw : Nat) (k : Nat) (du : Int32) (br : Int32) (tu : Int32) (ta : Int32) (hp : Int32) (fa : Int64) (op : Int32) (mv : Int32) (x : Int32) (f0 : h q = some (.inr (6, [.int (nI nw), .ref qb, .int du, .long fa, .int br, .int tu, .int ta, .ref ql, .int hp, .int (nI k)])))  : ur_Mi l yW_faultOf wsW_faultOf rmkW_fault D vwCl (ur_v E) [.ref q, .int op, .int mv, .int x] h (fun r h2 => r = um_fW op hp mv ∧ h2 = h) 0 0 := by
  intro sz
  refine ur_of (cc := cW_faultOf) (maxL := 5) (ret := (some .int)) (by decide) rfl (Nat.le_of_ble_eq_true rfl) ?_
  intro p e s m args below meth c ls Q hsz hx hb hml hr hlocks hnm hown hts hO hK hI hQ hl
  subst hsz
  have hV := hK.1
  have hts : ∀ w ∈ ur_G, w.before args s = true := fun w hw => hts w (List.mem_cons_of_mem _ hw)
  have hZ : ur_Z E (ur_A h s.heap.size) s s.heap := hO.1
  have hown : s.vm.findClass "UnitRoom$Writer" = some m.cls := hown
  have hl : lv_has ls 5 [(0, .ref q), (1, .int op), (2, .int mv), (3, .int x)] := hl
  refine lv_iload_n hx hb dW_faultOf_0 rfl (lv_at hl 1 rfl) ?_
  refine lv_iconst (v := 2) hx hb dW_faultOf_1 (by decide) ?_
  refine lv_icmp_eq (tgt := 20) hx hb dW_faultOf_2 (by decide) (fun c1 => ?_) (fun c1 => ?_)
  · refine lv_iconst (v := 1) hx hb dW_faultOf_20 (by decide) ?_
    refine lv_goto (tgt := 25) hx hb dW_faultOf_21 (by decide) ?_
    refine lv_istore (lv' := [(4, .int 1), (0, .ref q), (1, .int op), (2, .int mv), (3, .int x)]) hx hb dW_faultOf_25 hl (by decide) rfl (fun ls hl => ?_)
    refine lv_iload hx hb dW_faultOf_27 (lv_at hl 0 rfl) ?_
    refine lv_if_eq (tgt := 36) hx hb dW_faultOf_29 (by decide) (fun c2 => absurd c2 (by decide)) (fun c2 => ?_)
    refine lv_iconst (v := 0) hx hb dW_faultOf_32 (by decide) ?_
    refine lv_goto (tgt := 37) hx hb dW_faultOf_33 (by decide) ?_
    exact ur_ri hx hb hr hlocks hI hQ ⟨(by first | (simp only [um_fW, c1, c2, ↓reduceIte]; done) | (simp only [um_fW, c1, c2, ↓reduceIte]; rfl) | rfl), rfl⟩ dW_faultOf_37
  · refine lv_iload_n hx hb dW_faultOf_5 rfl (lv_at hl 1 rfl) ?_
    refine lv_if_ne (tgt := 24) hx hb dW_faultOf_6 (by decide) (fun c3 => ?_) (fun c3 => ?_)
    · refine lv_iconst (v := 0) hx hb dW_faultOf_24 (by decide) ?_
      refine lv_istore (lv' := [(4, .int 0), (0, .ref q), (1, .int op), (2, .int mv), (3, .int x)]) hx hb dW_faultOf_25 hl (by decide) rfl (fun ls hl => ?_)
      refine lv_iload hx hb dW_faultOf_27 (lv_at hl 0 rfl) ?_
      refine lv_if_eq (tgt := 36) hx hb dW_faultOf_29 (by decide) (fun c4 => ?_) (fun c4 => absurd c4 (by decide))
      refine lv_iconst (v := 5) hx hb dW_faultOf_36 (by decide) ?_
      exact ur_ri hx hb hr hlocks hI hQ ⟨(by first | (simp only [um_fW, c1, c3, c4, ↓reduceIte]; done) | (simp only [um_fW, c1, c3, c4, ↓reduceIte]; rfl) | rfl), rfl⟩ dW_faultOf_37
    · refine lv_aload_n hx hb dW_faultOf_9 rfl (lv_at hl 0 rfl) ?_
      refine va_get (D := D) (ci := 6) (v := .int hp) (C := "UnitRoom$Writer") (T := TW) (N := 10) hx hb hts inW hown hV (ur_one hI.1 f0) 0 rfl rfl 8 (by decide) (hts _ mw154) (fun _ h9 => h9) rfl dW_faultOf_10 ?_
      refine lv_if_eq (tgt := 24) hx hb dW_faultOf_13 (by decide) (fun c5 => ?_) (fun c5 => ?_)
      · refine lv_iconst (v := 0) hx hb dW_faultOf_24 (by decide) ?_
        refine lv_istore (lv' := [(4, .int 0), (0, .ref q), (1, .int op), (2, .int mv), (3, .int x)]) hx hb dW_faultOf_25 hl (by decide) rfl (fun ls hl => ?_)
        refine lv_iload hx hb dW_faultOf_27 (lv_at hl 0 rfl) ?_
        refine lv_if_eq (tgt := 36) hx hb dW_faultOf_29 (by decide) (fun c6 => ?_) (fun c6 => absurd c6 (by decide))
        refine lv_iconst (v := 5) hx hb dW_faultOf_36 (by decide) ?_
        exact ur_ri hx hb hr hlocks hI hQ ⟨(by first | (simp only [um_fW, c1, c3, c5, c6, ↓reduceIte]; done) | (simp only [um_fW, c1, c3, c5, c6, ↓reduceIte]; rfl) | rfl), rfl⟩ dW_faultOf_37
      · refine lv_iload_n hx hb dW_faultOf_16 rfl (lv_at hl 2 rfl) ?_
        refine lv_if_ne (tgt := 24) hx hb dW_faultOf_17 (by decide) (fun c7 => ?_) (fun c7 => ?_)
        · refine lv_iconst (v := 0) hx hb dW_faultOf_24 (by decide) ?_
          refine lv_istore (lv' := [(4, .int 0), (0, .ref q), (1, .int op), (2, .int mv), (3, .int x)]) hx hb dW_faultOf_25 hl (by decide) rfl (fun ls hl => ?_)
          refine lv_iload hx hb dW_faultOf_27 (lv_at hl 0 rfl) ?_
          refine lv_if_eq (tgt := 36) hx hb dW_faultOf_29 (by decide) (fun c8 => ?_) (fun c8 => absurd c8 (by decide))
          refine lv_iconst (v := 5) hx hb dW_faultOf_36 (by decide) ?_
          exact ur_ri hx hb hr hlocks hI hQ ⟨(by first | (simp only [um_fW, c1, c3, c5, c7, c8, ↓reduceIte]; done) | (simp only [um_fW, c1, c3, c5, c7, c8, ↓reduceIte]; rfl) | rfl), rfl⟩ dW_faultOf_37
        · refine lv_iconst (v := 1) hx hb dW_faultOf_20 (by decide) ?_
          refine lv_goto (tgt := 25) hx hb dW_faultOf_21 (by decide) ?_
          refine lv_istore (lv' := [(4, .int 1), (0, .ref q), (1, .int op), (2, .int mv), (3, .int x)]) hx hb dW_faultOf_25 hl (by decide) rfl (fun ls hl => ?_)
          refine lv_iload hx hb dW_faultOf_27 (lv_at hl 0 rfl) ?_
          refine lv_if_eq (tgt := 36) hx hb dW_faultOf_29 (by decide) (fun c9 => absurd c9 (by decide)) (fun c9 => ?_)
          refine lv_iconst (v := 0) hx hb dW_faultOf_32 (by decide) ?_
          refine lv_goto (tgt := 37) hx hb dW_faultOf_33 (by decide) ?_
          exact ur_ri hx hb hr hlocks hI hQ ⟨(by first | (simp only [um_fW, c1, c3, c5, c7, c9, ↓reduceIte]; done) | (simp only [um_fW, c1, c3, c5, c7, c9, ↓reduceIte]; rfl) | rfl), rfl⟩ dW_faultOf_37
theorem dW_formFeedLine_0 : decode cW_formFeedLine 0 = .ok (.iconst 1, 1) := by decide +kernel
theorem dW_formFeedLine_1 : decode cW_formFeedLine 1 = .ok (.newarray .byte, 2) := by decide +kernel
theorem dW_formFeedLine_3 : decode cW_formFeedLine 3 = .ok (.astore_n 0, 1) := by decide +kernel
theorem dW_formFeedLine_4 : decode cW_formFeedLine 4 = .ok (.aload_n 0, 1) := by decide +kernel
theorem dW_formFeedLine_5 : decode cW_formFeedLine 5 = .ok (.iconst 0, 1) := by decide +kernel
theorem dW_formFeedLine_6 : decode cW_formFeedLine 6 = .ok (.bipush 12, 2) := by decide +kernel
theorem dW_formFeedLine_8 : decode cW_formFeedLine 8 = .ok (.bastore, 1) := by decide +kernel
theorem dW_formFeedLine_9 : decode cW_formFeedLine 9 = .ok (.aload_n 0, 1) := by decide +kernel
theorem dW_formFeedLine_10 : decode cW_formFeedLine 10 = .ok (.areturn, 1) := by decide +kernel
abbrev rmkW_ff : Room := { frames := 0, cells := 1, slots := 1, locals := 0 }
set_option maxHeartbeats 4000000 in
set_option maxRecDepth 100000 in
theorem kW_ff (l : Launch) (D : va_G) (E : ur_Ev) (h : ur_M)    : ur_Mq l yW_formFeedLine wsW_formFeedLine rmkW_ff D vwCl (ur_v E) [] h (fun r h2 => ∃ w, r = some w ∧ h w = none ∧ h2 = va_up h w (some (.inl (E.1 1, 1, .inl um_ff)))) 1 1 := by
  intro sz
  refine ur_of (cc := cW_formFeedLine) (maxL := 1) (ret := (some (.array .byte))) (by decide) rfl (Nat.le_of_ble_eq_true rfl) ?_
  intro p e s m args below meth c ls Q hsz hx hb hml hr hlocks hnm hown hts hO hK hI hQ hl
  subst hsz
  have hV := hK.1
  have hts : ∀ w ∈ ur_G, w.before args s = true := fun w hw => hts w (List.mem_cons_of_mem _ hw)
  have hZ : ur_Z E (ur_A h s.heap.size) s s.heap := hO.1
  have hown : s.vm.findClass "UnitRoom$Writer" = some m.cls := hown
  have hl : lv_has ls 1 [] := hl
  refine lv_iconst (v := 1) hx hb dW_formFeedLine_0 (by decide) ?_
  refine ur_newa (atype := .byte) (a0 := (1, (.inl (fun _ => 0)))) hx hb (hts _ mw50) rfl 1 hV rfl rfl hI (n := 1) (N' := 1) (fun _ => by rfl) (by decide) rfl (by decide) (Nat.le_of_ble_eq_true rfl) (Nat.le_of_ble_eq_true rfl) dW_formFeedLine_1 (fun w1 H zw1 hI => ?_)
  obtain ⟨h2, eh2⟩ : ∃ z : ur_M, z = va_up h w1 (some (.inl (E.1 1, 1, .inl (fun _ => 0)))) := ⟨_, rfl⟩
  replace hI : ur_I D vwCl (ur_A h s.heap.size) s.heap h2 H [] := by rw [eh2]; exact hI
  have fq3 : h2 w1 = some (.inl (E.1 1, 1, .inl (fun _ => 0))) := by rw [eh2]; exact va_up_self _ _ _
  refine lv_astore_n (lv' := [(0, .ref w1)]) hx hb dW_formFeedLine_3 rfl hl (by decide) rfl (fun ls hl => ?_)
  refine lv_aload_n hx hb dW_formFeedLine_4 rfl (lv_at hl 0 rfl) ?_
  refine lv_iconst (v := 0) hx hb dW_formFeedLine_5 (by decide) ?_
  refine lv_bipush (v := 12) hx hb dW_formFeedLine_6 (by decide) ?_
  refine ur_bast hx hb hV hI 1 fq3 rfl (vp_in_nI (n := 0) (by decide) (by decide)) dW_formFeedLine_8 (fun H locs hI => ?_)
  obtain ⟨h4, eh4⟩ : ∃ z : ur_M, z = va_up h2 w1 (some (.inl (E.1 1, 1, .inl (upd (fun _ => 0) (Int32.toNatClampNeg 0) (vp_nar .byte 12))))) := ⟨_, rfl⟩
  replace hI : ur_I D vwCl (ur_A h s.heap.size) s.heap h4 H locs := by rw [eh4]; exact hI
  have fq5 : h4 w1 = some (.inl (E.1 1, 1, .inl (upd (fun _ => 0) (Int32.toNatClampNeg 0) (vp_nar .byte 12)))) := by rw [eh4]; exact (va_up_self _ _ _)
  refine lv_aload_n hx hb dW_formFeedLine_9 rfl (lv_at hl 0 rfl) ?_
  exact ur_rq (v := (some w1)) hx hb hr hlocks hI hQ (Or.inr ⟨_, rfl⟩) ⟨_, rfl, zw1, (by rw [eh4, eh2, bx_uu]; rfl)⟩ dW_formFeedLine_10
theorem dW_lengthWithoutBlanks_0 : decode cW_lengthWithoutBlanks 0 = .ok (.iconst 0, 1) := by decide +kernel
theorem dW_lengthWithoutBlanks_1 : decode cW_lengthWithoutBlanks 1 = .ok (.aload_n 0, 1) := by decide +kernel
theorem dW_lengthWithoutBlanks_2 : decode cW_lengthWithoutBlanks 2 = .ok (.getfield 47, 3) := by decide +kernel
theorem dW_lengthWithoutBlanks_5 : decode cW_lengthWithoutBlanks 5 = .ok (.invokestatic 50, 3) := by decide +kernel
theorem dW_lengthWithoutBlanks_8 : decode cW_lengthWithoutBlanks 8 = .ok (.iconst 5, 1) := by decide +kernel
theorem dW_lengthWithoutBlanks_9 : decode cW_lengthWithoutBlanks 9 = .ok (.imul, 1) := by decide +kernel
theorem dW_lengthWithoutBlanks_10 : decode cW_lengthWithoutBlanks 10 = .ok (.istore_n 3, 1) := by decide +kernel
theorem dW_lengthWithoutBlanks_11 : decode cW_lengthWithoutBlanks 11 = .ok (.iload_n 3, 1) := by decide +kernel
theorem dW_lengthWithoutBlanks_12 : decode cW_lengthWithoutBlanks 12 = .ok (.ifCond .le 20, 3) := by decide +kernel
theorem dW_lengthWithoutBlanks_15 : decode cW_lengthWithoutBlanks 15 = .ok (.aload_n 2, 1) := by decide +kernel
theorem dW_lengthWithoutBlanks_16 : decode cW_lengthWithoutBlanks 16 = .ok (.iload_n 1, 1) := by decide +kernel
theorem dW_lengthWithoutBlanks_17 : decode cW_lengthWithoutBlanks 17 = .ok (.iload_n 3, 1) := by decide +kernel
theorem dW_lengthWithoutBlanks_18 : decode cW_lengthWithoutBlanks 18 = .ok (.iconst 1, 1) := by decide +kernel
theorem dW_lengthWithoutBlanks_19 : decode cW_lengthWithoutBlanks 19 = .ok (.isub, 1) := by decide +kernel
theorem dW_lengthWithoutBlanks_20 : decode cW_lengthWithoutBlanks 20 = .ok (.invokevirtual 37, 3) := by decide +kernel
theorem dW_lengthWithoutBlanks_23 : decode cW_lengthWithoutBlanks 23 = .ok (.ifCond .ne 9, 3) := by decide +kernel
theorem dW_lengthWithoutBlanks_26 : decode cW_lengthWithoutBlanks 26 = .ok (.iinc 3 (-1), 3) := by decide +kernel
theorem dW_lengthWithoutBlanks_29 : decode cW_lengthWithoutBlanks 29 = .ok (.goto (-18), 3) := by decide +kernel
theorem dW_lengthWithoutBlanks_32 : decode cW_lengthWithoutBlanks 32 = .ok (.iload_n 3, 1) := by decide +kernel
theorem dW_lengthWithoutBlanks_33 : decode cW_lengthWithoutBlanks 33 = .ok (.ireturn, 1) := by decide +kernel
abbrev rmkW_len : Room := { frames := 3, cells := 0, slots := 0, locals := 68 }
set_option maxHeartbeats 4000000 in
set_option maxRecDepth 100000 in
theorem kW_len (l : Launch) (D : va_G) (E : ur_Ev) (h : ur_M) (q : Nat) (qb : Nat) (ql : Nat) (nw : Nat) (k : Nat) (du : Int32) (br : Int32) (tu : Int32) (ta : Int32) (hp : Int32) (fa : Int64) (qm : Nat) (q1 : Nat) (g : Nat → Int32) (a : Int32) (f0 : h q = some (.inr (6, [.int (nI nw), .ref qb, .int du, .long fa, .int br, .int tu, .int ta, .ref ql, .int hp, .int (nI k)]))) (f1 : h qm = some (.inr (1, [.ref q1]))) (f2 : h q1 = some (.inl (E.1 0, 4000, .inl g))) (hw0 : 0 < nw) (hw1 : nw ≤ 24) : ur_Mi l yW_lengthWithoutBlanks wsW_lengthWithoutBlanks rmkW_len D vwCl (ur_v E) [.ref q, .int a, .ref qm] h (fun r h2 => r = nI (um_len g a (nw * 5)) ∧ h2 = h) 0 0 := by
  intro sz
  refine ur_of (cc := cW_lengthWithoutBlanks) (maxL := 4) (ret := (some .int)) (by decide) rfl (Nat.le_of_ble_eq_true rfl) ?_
  intro p e s m args below meth c ls Q hsz hx hb hml hr hlocks hnm hown hts hO hK hI hQ hl
  subst hsz
  have hV := hK.1
  have hts : ∀ w ∈ ur_G, w.before args s = true := fun w hw => hts w (List.mem_cons_of_mem _ hw)
  have hZ : ur_Z E (ur_A h s.heap.size) s s.heap := hO.1
  have hown : s.vm.findClass "UnitRoom$Writer" = some m.cls := hown
  have hl : lv_has ls 4 [(0, .ref q), (1, .int a), (2, .ref qm)] := hl
  refine lv_iconst (v := 0) hx hb dW_lengthWithoutBlanks_0 (by decide) ?_
  refine lv_aload_n hx hb dW_lengthWithoutBlanks_1 rfl (lv_at hl 0 rfl) ?_
  refine va_get (D := D) (ci := 6) (v := .int (nI nw)) (C := "UnitRoom$Writer") (T := TW) (N := 10) hx hb hts inW hown hV (ur_one hI.1 f0) 0 rfl rfl 0 (by decide) (hts _ mw67) (fun x9 h9 => u_same (hts _ mw68) x9 h9) rfl dW_lengthWithoutBlanks_2 ?_
  refine va_mmax hx hb (hml.trans hl.1.symm) hown (hts _ mw382) (hts _ mw61) (hts _ mw6) (hts _ mw62) (Nat.le_of_ble_eq_true rfl) (Nat.le_of_ble_eq_true rfl) (Nat.le_of_ble_eq_true rfl) (Nat.le_of_ble_eq_true rfl) dW_lengthWithoutBlanks_5 ?_
  refine lv_iconst (v := 5) hx hb dW_lengthWithoutBlanks_8 (by decide) ?_
  refine lv_imul hx hb dW_lengthWithoutBlanks_9 ?_
  refine lv_topi (fun x9 ex9 => ?_)
  rw [um_w5 hw0 (by omega)] at ex9
  subst ex9
  refine lv_istore_n (lv' := [(3, .int (nI (nw * 5))), (0, .ref q), (1, .int a), (2, .ref qm)]) hx hb dW_lengthWithoutBlanks_10 rfl hl (by decide) rfl (fun ls hl => ?_)
  have lpn1 : ∀ (n1 : Nat) (n : Nat) (H : Heap) (locs : List Loc) (ls : Array Slot), n < n1 → (n ≤ 120) → (um_len g a (nw * 5) = um_len g a n) → ur_I D vwCl (ur_A h s.heap.size) s.heap h H locs → lv_has ls 4 [(0, .ref q), (1, .int a), (2, .ref qm), (3, .int (nI n))] → W p l e rmkW_len s m args below meth c H locs 0 0 Q (F0 m 11 ls []) := by
    intro n1
    induction n1 with
    | zero => intro n H locs ls hnn1; exact absurd hnn1 (Nat.not_lt_zero _)
    | succ n1 ihn1 =>
      intro n H locs ls hnn1 hn hf hI hl
      refine lv_iload_n hx hb dW_lengthWithoutBlanks_11 rfl (lv_at hl 3 rfl) ?_
      refine lv_if_le (tgt := 32) hx hb dW_lengthWithoutBlanks_12 (by decide) (fun c2 => ?_) (fun c2 => ?_)
      · refine lv_iload_n hx hb dW_lengthWithoutBlanks_32 rfl (lv_at hl 3 rfl) ?_
        exact ur_ri hx hb hr hlocks hI hQ ⟨(by have h9 : n = 0 := Nat.eq_zero_of_not_pos (fun z9 => nI_nle z9 (by omega) c2); rw [hf, h9]; rfl), rfl⟩ dW_lengthWithoutBlanks_33
      · obtain ⟨j, rfl⟩ : ∃ j, n = j + 1 := ⟨n - 1, by have : n ≠ 0 := fun z9 => c2 (by rw [z9]; decide); omega⟩
        refine lv_aload_n hx hb dW_lengthWithoutBlanks_15 rfl (lv_at hl 2 rfl) ?_
        refine lv_iload_n hx hb dW_lengthWithoutBlanks_16 rfl (lv_at hl 1 rfl) ?_
        refine lv_iload_n hx hb dW_lengthWithoutBlanks_17 rfl (lv_at hl 3 rfl) ?_
        refine lv_iconst (v := 1) hx hb dW_lengthWithoutBlanks_18 (by decide) ?_
        refine lv_isub hx hb dW_lengthWithoutBlanks_19 ?_
        refine ur_xi (va_runV (As := [.int a, .int ((nI (j + 1)) - 1)]) (rest := []) ⟨hx, hb, hml, hown, hts⟩ (kM_by l D E h qm q1 g a ((nI (j + 1)) - 1) f1 f2 H.size) (cwV 2 hts (ur_gV mw383 mw384 mw385 mw2 mw386) rfl rfl rfl (by decide +kernel) ⟨(Nat.le_of_ble_eq_true rfl), (Nat.le_of_ble_eq_true rfl)⟩) ⟨ur_blind, va_recv hV (ur_one hI.1 f1) (ci := 1) (q0 := 0) rfl rfl, ur_pre hI hO hK (fun _ _ q => q)⟩ rfl rfl hl.1 rfl (lv_room (Nat.le_of_ble_eq_true rfl)) dW_lengthWithoutBlanks_20 ⟨Nat.le_of_ble_eq_true rfl, Nat.le_of_ble_eq_true rfl⟩) hI (fun r3 h3 H locs p3 hI => ?_)
        obtain ⟨er3, eh3⟩ := p3
        replace eh3 := eh3.symm; subst eh3
        replace er3 := er3.symm; subst er3
        refine lv_if_ne (tgt := 32) hx hb dW_lengthWithoutBlanks_23 (by decide) (fun c4 => ?_) (fun c4 => ?_)
        · refine lv_iload_n hx hb dW_lengthWithoutBlanks_32 rfl (lv_at hl 3 rfl) ?_
          exact ur_ri hx hb hr hlocks hI hQ ⟨(by rw [hf, um_len, if_neg c4]), rfl⟩ dW_lengthWithoutBlanks_33
        · refine lv_iinc (v := ((nI (j + 1)) + (-1))) (lv' := [(3, .int ((nI (j + 1)) + (-1))), (0, .ref q), (1, .int a), (2, .ref qm)]) hx hb dW_lengthWithoutBlanks_26 hl (k := 3) rfl rfl (by decide) rfl (fun ls hl => ?_)
          refine lv_goto (tgt := 11) hx hb dW_lengthWithoutBlanks_29 (by decide) ?_
          rw [pk_m1] at hl
          exact ihn1 j H locs ls (by omega) (by omega) (by rw [hf, um_len, if_pos c4]) hI (lv_sub hl [1, 2, 3, 0] rfl)
  exact lpn1 _ (nw * 5) _ _ ls (Nat.lt_succ_self _) (by omega) rfl hI (lv_sub hl [1, 2, 3, 0] rfl)
theorem dW_lineOf_0 : decode cW_lineOf 0 = .ok (.aload_n 0, 1) := by decide +kernel
theorem dW_lineOf_1 : decode cW_lineOf 1 = .ok (.iload_n 1, 1) := by decide +kernel
theorem dW_lineOf_2 : decode cW_lineOf 2 = .ok (.aload_n 2, 1) := by decide +kernel
theorem dW_lineOf_3 : decode cW_lineOf 3 = .ok (.invokevirtual 33, 3) := by decide +kernel
theorem dW_lineOf_6 : decode cW_lineOf 6 = .ok (.newarray .byte, 2) := by decide +kernel
theorem dW_lineOf_8 : decode cW_lineOf 8 = .ok (.astore_n 3, 1) := by decide +kernel
theorem dW_lineOf_9 : decode cW_lineOf 9 = .ok (.iconst 0, 1) := by decide +kernel
theorem dW_lineOf_10 : decode cW_lineOf 10 = .ok (.istore 4, 2) := by decide +kernel
theorem dW_lineOf_12 : decode cW_lineOf 12 = .ok (.iload 4, 2) := by decide +kernel
theorem dW_lineOf_14 : decode cW_lineOf 14 = .ok (.aload_n 3, 1) := by decide +kernel
theorem dW_lineOf_15 : decode cW_lineOf 15 = .ok (.arraylength, 1) := by decide +kernel
theorem dW_lineOf_16 : decode cW_lineOf 16 = .ok (.if_icmp .ge 24, 3) := by decide +kernel
theorem dW_lineOf_19 : decode cW_lineOf 19 = .ok (.aload_n 3, 1) := by decide +kernel
theorem dW_lineOf_20 : decode cW_lineOf 20 = .ok (.iload 4, 2) := by decide +kernel
theorem dW_lineOf_22 : decode cW_lineOf 22 = .ok (.aload_n 2, 1) := by decide +kernel
theorem dW_lineOf_23 : decode cW_lineOf 23 = .ok (.iload_n 1, 1) := by decide +kernel
theorem dW_lineOf_24 : decode cW_lineOf 24 = .ok (.iload 4, 2) := by decide +kernel
theorem dW_lineOf_26 : decode cW_lineOf 26 = .ok (.invokevirtual 37, 3) := by decide +kernel
theorem dW_lineOf_29 : decode cW_lineOf 29 = .ok (.invokestatic 43, 3) := by decide +kernel
theorem dW_lineOf_32 : decode cW_lineOf 32 = .ok (.i2b, 1) := by decide +kernel
theorem dW_lineOf_33 : decode cW_lineOf 33 = .ok (.bastore, 1) := by decide +kernel
theorem dW_lineOf_34 : decode cW_lineOf 34 = .ok (.iinc 4 1, 3) := by decide +kernel
theorem dW_lineOf_37 : decode cW_lineOf 37 = .ok (.goto (-25), 3) := by decide +kernel
theorem dW_lineOf_40 : decode cW_lineOf 40 = .ok (.aload_n 3, 1) := by decide +kernel
theorem dW_lineOf_41 : decode cW_lineOf 41 = .ok (.areturn, 1) := by decide +kernel
abbrev rmkW_line : Room := { frames := 5, cells := 1, slots := 120, locals := 105 }
set_option maxHeartbeats 4000000 in
set_option maxRecDepth 100000 in
theorem kW_line (l : Launch) (D : va_G) (E : ur_Ev) (h : ur_M) (q : Nat) (qb : Nat) (ql : Nat) (nw : Nat) (k : Nat) (du : Int32) (br : Int32) (tu : Int32) (ta : Int32) (hp : Int32) (fa : Int64) (qm : Nat) (q1 : Nat) (g : Nat → Int32) (a : Int32) (f0 : h q = some (.inr (6, [.int (nI nw), .ref qb, .int du, .long fa, .int br, .int tu, .int ta, .ref ql, .int hp, .int (nI k)]))) (f1 : h qm = some (.inr (1, [.ref q1]))) (f2 : h q1 = some (.inl (E.1 0, 4000, .inl g))) (hw0 : 0 < nw) (hw1 : nw ≤ 24) : ur_Mq l yW_lineOf wsW_lineOf rmkW_line D vwCl (ur_v E) [.ref q, .int a, .ref qm] h (fun r h2 => ∃ w, r = some w ∧ h w = none ∧ h2 = va_up h w (some (.inl (E.1 1, (um_len g a (nw * 5)), .inl (um_line g a (um_len g a (nw * 5))))))) 1 120 := by
  intro sz
  refine ur_of (cc := cW_lineOf) (maxL := 5) (ret := (some (.array .byte))) (by decide) rfl (Nat.le_of_ble_eq_true rfl) ?_
  intro p e s m args below meth c ls Q hsz hx hb hml hr hlocks hnm hown hts hO hK hI hQ hl
  subst hsz
  have hV := hK.1
  have hts : ∀ w ∈ ur_G, w.before args s = true := fun w hw => hts w (List.mem_cons_of_mem _ hw)
  have hZ : ur_Z E (ur_A h s.heap.size) s s.heap := hO.1
  have hown : s.vm.findClass "UnitRoom$Writer" = some m.cls := hown
  have hl : lv_has ls 5 [(0, .ref q), (1, .int a), (2, .ref qm)] := hl
  refine lv_aload_n hx hb dW_lineOf_0 rfl (lv_at hl 0 rfl) ?_
  refine lv_iload_n hx hb dW_lineOf_1 rfl (lv_at hl 1 rfl) ?_
  refine lv_aload_n hx hb dW_lineOf_2 rfl (lv_at hl 2 rfl) ?_
  refine ur_xi (va_runV (As := [.int a, .ref qm]) (rest := []) ⟨hx, hb, hml, hown, hts⟩ (kW_len l D E h q qb ql nw k du br tu ta hp fa qm q1 g a f0 f1 f2 (by first | assumption | omega | decide) (by first | assumption | omega | decide) s.heap.size) (cwV 2 hts (ur_gV mw378 mw380 ms6 mw10 mw381) rfl rfl rfl (by decide +kernel) ⟨(Nat.le_of_ble_eq_true rfl), (Nat.le_of_ble_eq_true rfl)⟩) ⟨ur_blind, va_recv hV (ur_one hI.1 f0) (ci := 6) (q0 := 0) rfl rfl, ur_pre hI hO hK (fun _ _ q => q)⟩ rfl rfl hl.1 rfl (lv_room (Nat.le_of_ble_eq_true rfl)) dW_lineOf_3 ⟨Nat.le_of_ble_eq_true rfl, Nat.le_of_ble_eq_true rfl⟩) hI (fun r1 h1 H locs p1 hI => ?_)
  obtain ⟨er1, eh1⟩ := p1
  replace eh1 := eh1.symm; subst eh1
  replace er1 := er1.symm; subst er1
  have hL := um_len_le g a (nw * 5)
  generalize um_len g a (nw * 5) = L at hL hQ ⊢
  refine ur_newa (atype := .byte) (a0 := (L, (.inl (fun _ => 0)))) hx hb (hts _ mw50) rfl 1 hV rfl rfl hI (n := (nI L)) (N' := L) (fun _ => by rfl) (nI_pos (by omega)) (nI_clamp (by omega)) (by show L * 1 ≤ _; omega) (Nat.le_of_ble_eq_true rfl) (by show 0 + L ≤ 120; omega) dW_lineOf_6 (fun w2 H zw2 hI => ?_)
  obtain ⟨h3, eh3⟩ : ∃ z : ur_M, z = va_up h w2 (some (.inl (E.1 1, L, .inl (fun _ => 0)))) := ⟨_, rfl⟩
  replace hI : ur_I D vwCl (ur_A h s.heap.size) s.heap h3 H locs := by rw [eh3]; exact hI
  have n5 : q ≠ w2 := ur_fresh f0 zw2
  have fq4 : h3 q = some (.inr (6, [.int (nI nw), .ref qb, .int du, .long fa, .int br, .int tu, .int ta, .ref ql, .int hp, .int (nI k)])) := by rw [eh3]; exact (va_up_ne _ _ n5).trans f0
  have n7 : qm ≠ w2 := ur_fresh f1 zw2
  have fq6 : h3 qm = some (.inr (1, [.ref q1])) := by rw [eh3]; exact (va_up_ne _ _ n7).trans f1
  have n9 : q1 ≠ w2 := ur_fresh f2 zw2
  have fq8 : h3 q1 = some (.inl (E.1 0, 4000, .inl g)) := by rw [eh3]; exact (va_up_ne _ _ n9).trans f2
  have fq10 : h3 w2 = some (.inl (E.1 1, L, .inl (fun _ => 0))) := by rw [eh3]; exact va_up_self _ _ _
  refine W.widen (k := 1) (n := 120) (by omega) (by omega) ?_
  refine lv_astore_n (lv' := [(3, .ref w2), (0, .ref q), (1, .int a), (2, .ref qm)]) hx hb dW_lineOf_8 rfl hl (by decide) rfl (fun ls hl => ?_)
  refine lv_iconst (v := 0) hx hb dW_lineOf_9 (by decide) ?_
  refine lv_istore (lv' := [(4, .int 0), (3, .ref w2), (0, .ref q), (1, .int a), (2, .ref qm)]) hx hb dW_lineOf_10 hl (by decide) rfl (fun ls hl => ?_)
  have hz9 : h w2 = none := zw2
  have lpn11 : ∀ (n11 : Nat) (i : Nat) (hn11 : ur_M) (H : Heap) (locs : List Loc) (ls : Array Slot), L - i < n11 → (i ≤ L) → hn11 = va_up h w2 (some (.inl (E.1 1, L, .inl (um_line g a i)))) → ur_I D vwCl (ur_A h s.heap.size) s.heap hn11 H locs → lv_has ls 5 [(0, .ref q), (1, .int a), (2, .ref qm), (3, .ref w2), (4, .int (nI i))] → W p l e rmkW_line s m args below meth c H locs 1 120 Q (F0 m 12 ls []) := by
    intro n11
    induction n11 with
    | zero => intro i hn11 H locs ls hnn11; exact absurd hnn11 (Nat.not_lt_zero _)
    | succ n11 ihn11 =>
      intro i hn11 H locs ls hnn11 hi ehn11 hI hl
      have fq12 : hn11 q = some (.inr (6, [.int (nI nw), .ref qb, .int du, .long fa, .int br, .int tu, .int ta, .ref ql, .int hp, .int (nI k)])) := by rw [ehn11]; exact (va_up_ne _ _ (ur_fresh f0 hz9)).trans f0
      have fq13 : hn11 qm = some (.inr (1, [.ref q1])) := by rw [ehn11]; exact (va_up_ne _ _ (ur_fresh f1 hz9)).trans f1
      have fq14 : hn11 q1 = some (.inl (E.1 0, 4000, .inl g)) := by rw [ehn11]; exact (va_up_ne _ _ (ur_fresh f2 hz9)).trans f2
      have fq15 : hn11 w2 = some (.inl (E.1 1, L, .inl (um_line g a i))) := by rw [ehn11]; exact va_up_self _ _ _
      refine lv_iload hx hb dW_lineOf_12 (lv_at hl 4 rfl) ?_
      refine lv_aload_n hx hb dW_lineOf_14 rfl (lv_at hl 3 rfl) ?_
      refine va_alen (v := (nI L)) hx hb hV (ur_one hI.1 fq15) 0 1 rfl rfl rfl dW_lineOf_15 ?_
      refine lv_icmp_ge (tgt := 40) hx hb dW_lineOf_16 (by decide) (fun c16 => ?_) (fun c16 => ?_)
      · have he9 : i = L := Nat.le_antisymm hi (Nat.not_lt.mp (fun z9 => nI_ge z9 (by omega) c16))
        refine lv_aload_n hx hb dW_lineOf_40 rfl (lv_at hl 3 rfl) ?_
        exact ur_rq (v := (some w2)) hx hb hr hlocks hI hQ (Or.inr ⟨_, rfl⟩) ⟨_, rfl, zw2, (by rw [ehn11, he9])⟩ dW_lineOf_41
      · have hlt : i < L := Nat.not_le.mp (fun z9 => c16 (nI_le z9 (by omega)))
        refine lv_aload_n hx hb dW_lineOf_19 rfl (lv_at hl 3 rfl) ?_
        refine lv_iload hx hb dW_lineOf_20 (lv_at hl 4 rfl) ?_
        refine lv_aload_n hx hb dW_lineOf_22 rfl (lv_at hl 2 rfl) ?_
        refine lv_iload_n hx hb dW_lineOf_23 rfl (lv_at hl 1 rfl) ?_
        refine lv_iload hx hb dW_lineOf_24 (lv_at hl 4 rfl) ?_
        refine ur_xi (va_runV (As := [.int a, .int (nI i)]) (rest := [.int (nI i), .ref w2]) ⟨hx, hb, hml, hown, hts⟩ (kM_by l D E hn11 qm q1 g a (nI i) fq13 fq14 H.size) (cwV 2 hts (ur_gV mw383 mw384 mw385 mw2 mw386) rfl rfl rfl (by decide +kernel) ⟨(Nat.le_of_ble_eq_true rfl), (Nat.le_of_ble_eq_true rfl)⟩) ⟨ur_blind, va_recv hV (ur_one hI.1 fq13) (ci := 1) (q0 := 0) rfl rfl, ur_pre hI hO hK (fun _ _ q => q)⟩ rfl rfl hl.1 rfl (lv_room (Nat.le_of_ble_eq_true rfl)) dW_lineOf_26 ⟨Nat.le_of_ble_eq_true rfl, Nat.le_of_ble_eq_true rfl⟩) hI (fun r17 h17 H locs p17 hI => ?_)
        obtain ⟨er17, eh17⟩ := p17
        replace eh17 := eh17.symm; subst eh17
        replace er17 := er17.symm; subst er17
        refine ur_xi (va_runSN (As := [.int (um_byte g a (nI i))]) (rest := [.int (nI i), .ref w2]) ⟨hx, hb, hml, hown, hts⟩ (kU_letterOf l D E hn11 (um_byte g a (nI i)) H.size) ⟨va_cnB (host := "UnitRoom") 1 hts (ur_gI mw394) rfl rfl rfl (hK.2.1.1 ("UnitRoom$Writer", 43, ⟨"UnitRoom", "letterOf", "(I)C"⟩, "UnitRoom") (by decide +kernel)) (hts _ mw1) (by decide +kernel) ⟨(Nat.le_of_ble_eq_true rfl), (Nat.le_of_ble_eq_true rfl)⟩, hts _ mw393, trivial⟩ ⟨ur_blind, ur_pre hI hO hK (fun _ _ q => q)⟩ rfl rfl hl.1 rfl (lv_room (Nat.le_of_ble_eq_true rfl)) dW_lineOf_29 ⟨Nat.le_of_ble_eq_true rfl, Nat.le_of_ble_eq_true rfl⟩) hI (fun r18 h18 H locs p18 hI => ?_)
        obtain ⟨er18, eh18⟩ := p18
        replace eh18 := eh18.symm; subst eh18
        replace er18 := er18.symm; subst er18
        refine lv_i2b hx hb dW_lineOf_32 rfl ?_
        refine ur_bast hx hb hV hI 1 fq15 rfl (vp_in_nI hlt (by omega)) dW_lineOf_33 (fun H locs hI => ?_)
        obtain ⟨h19, eh19⟩ : ∃ z : ur_M, z = va_up hn11 w2 (some (.inl (E.1 1, L, .inl (upd (um_line g a i) (Int32.toNatClampNeg (nI i)) (vp_nar .byte ((um_letter (um_byte g a (nI i))).toInt8.toInt32)))))) := ⟨_, rfl⟩
        replace hI : ur_I D vwCl (ur_A h s.heap.size) s.heap h19 H locs := by rw [eh19]; exact hI
        have fq20 : h19 q = some (.inr (6, [.int (nI nw), .ref qb, .int du, .long fa, .int br, .int tu, .int ta, .ref ql, .int hp, .int (nI k)])) := by rw [eh19]; exact ((va_up_ne _ _ n5).trans fq12)
        have fq21 : h19 qm = some (.inr (1, [.ref q1])) := by rw [eh19]; exact ((va_up_ne _ _ n7).trans fq13)
        have fq22 : h19 q1 = some (.inl (E.1 0, 4000, .inl g)) := by rw [eh19]; exact ((va_up_ne _ _ n9).trans fq14)
        have fq23 : h19 w2 = some (.inl (E.1 1, L, .inl (upd (um_line g a i) (Int32.toNatClampNeg (nI i)) (vp_nar .byte ((um_letter (um_byte g a (nI i))).toInt8.toInt32))))) := by rw [eh19]; exact (va_up_self _ _ _)
        refine lv_iinc (v := ((nI i) + 1)) (lv' := [(4, .int ((nI i) + 1)), (0, .ref q), (1, .int a), (2, .ref qm), (3, .ref w2)]) hx hb dW_lineOf_34 hl (k := 4) rfl rfl (by decide) rfl (fun ls hl => ?_)
        refine lv_goto (tgt := 12) hx hb dW_lineOf_37 (by decide) ?_
        rw [nI_1] at hl
        exact ihn11 (i + 1) h19 H locs ls (by omega) hlt (by rw [eh19, ehn11, bx_uu, nI_clamp (by omega), ← um_line_succ]; rfl) hI (lv_sub hl [1, 2, 3, 4, 0] rfl)
  exact lpn11 _ 0 h3 _ _ ls (Nat.lt_succ_self _) (Nat.zero_le _) ((by rw [um_line_0]; exact eh3)) hI (lv_sub hl [2, 3, 4, 1, 0] rfl)
theorem dW_work_0 : decode cW_work 0 = .ok (.aload_n 0, 1) := by decide +kernel
theorem dW_work_1 : decode cW_work 1 = .ok (.getfield 17, 3) := by decide +kernel
theorem dW_work_4 : decode cW_work 4 = .ok (.aload_n 0, 1) := by decide +kernel
theorem dW_work_5 : decode cW_work 5 = .ok (.getfield 13, 3) := by decide +kernel
theorem dW_work_8 : decode cW_work 8 = .ok (.arraylength, 1) := by decide +kernel
theorem dW_work_9 : decode cW_work 9 = .ok (.if_icmp .lt 4, 3) := by decide +kernel
theorem dW_work_12 : decode cW_work 12 = .ok (.return_, 1) := by decide +kernel
theorem dW_work_13 : decode cW_work 13 = .ok (.aload_n 0, 1) := by decide +kernel
theorem dW_work_14 : decode cW_work 14 = .ok (.getfield 13, 3) := by decide +kernel
theorem dW_work_17 : decode cW_work 17 = .ok (.aload_n 0, 1) := by decide +kernel
theorem dW_work_18 : decode cW_work 18 = .ok (.getfield 17, 3) := by decide +kernel
theorem dW_work_21 : decode cW_work 21 = .ok (.iload_n 1, 1) := by decide +kernel
theorem dW_work_22 : decode cW_work 22 = .ok (.ifCond .ne 9, 3) := by decide +kernel
theorem dW_work_25 : decode cW_work 25 = .ok (.invokestatic 25, 3) := by decide +kernel
theorem dW_work_28 : decode cW_work 28 = .ok (.goto 10, 3) := by decide +kernel
theorem dW_work_31 : decode cW_work 31 = .ok (.aload_n 0, 1) := by decide +kernel
theorem dW_work_32 : decode cW_work 32 = .ok (.iload_n 2, 1) := by decide +kernel
theorem dW_work_33 : decode cW_work 33 = .ok (.aload 4, 2) := by decide +kernel
theorem dW_work_35 : decode cW_work 35 = .ok (.invokevirtual 29, 3) := by decide +kernel
theorem dW_work_38 : decode cW_work 38 = .ok (.aastore, 1) := by decide +kernel
theorem dW_work_39 : decode cW_work 39 = .ok (.aload_n 0, 1) := by decide +kernel
theorem dW_work_40 : decode cW_work 40 = .ok (.dup, 1) := by decide +kernel
theorem dW_work_41 : decode cW_work 41 = .ok (.getfield 17, 3) := by decide +kernel
theorem dW_work_44 : decode cW_work 44 = .ok (.iconst 1, 1) := by decide +kernel
theorem dW_work_45 : decode cW_work 45 = .ok (.iadd, 1) := by decide +kernel
theorem dW_work_46 : decode cW_work 46 = .ok (.putfield 17, 3) := by decide +kernel
theorem dW_work_49 : decode cW_work 49 = .ok (.return_, 1) := by decide +kernel
abbrev rmkW_full : Room := { frames := 0, cells := 0, slots := 0, locals := 0 }
set_option maxHeartbeats 4000000 in
set_option maxRecDepth 100000 in
theorem kW_full (l : Launch) (D : va_G) (E : ur_Ev) (h : ur_M) (q : Nat) (qb : Nat) (ql : Nat) (nw : Nat) (k : Nat) (du : Int32) (br : Int32) (tu : Int32) (ta : Int32) (hp : Int32) (fa : Int64) (f : Nat → Option Nat) (qm : Nat) (op : Int32) (mv : Int32) (x : Int32) (f0 : h q = some (.inr (6, [.int (nI nw), .ref qb, .int du, .long fa, .int br, .int tu, .int ta, .ref ql, .int hp, .int (nI k)]))) (f1 : h ql = some (.inl (E.1 4, 300, .inr (.inr (.inr (.inr f)))))) (hk : k = 300) : ur_Mv l yW_work wsW_work rmkW_full D vwCl (ur_v E) [.ref q, .int op, .int mv, .int x, .ref qm] h (fun h2 => h2 = h) 0 0 := by
  intro sz
  refine ur_of (cc := cW_work) (maxL := 5) (ret := none) (by decide) rfl (Nat.le_of_ble_eq_true rfl) ?_
  intro p e s m args below meth c ls Q hsz hx hb hml hr hlocks hnm hown hts hO hK hI hQ hl
  subst hsz
  have hV := hK.1
  have hts : ∀ w ∈ ur_G, w.before args s = true := fun w hw => hts w (List.mem_cons_of_mem _ hw)
  have hZ : ur_Z E (ur_A h s.heap.size) s s.heap := hO.1
  have hown : s.vm.findClass "UnitRoom$Writer" = some m.cls := hown
  have hl : lv_has ls 5 [(0, .ref q), (1, .int op), (2, .int mv), (3, .int x), (4, .ref qm)] := hl
  refine lv_aload_n hx hb dW_work_0 rfl (lv_at hl 0 rfl) ?_
  refine va_get (D := D) (ci := 6) (v := .int (nI k)) (C := "UnitRoom$Writer") (T := TW) (N := 10) hx hb hts inW hown hV (ur_one hI.1 f0) 0 rfl rfl 9 (by decide) (hts _ mw155) (fun _ h9 => h9) rfl dW_work_1 ?_
  refine lv_aload_n hx hb dW_work_4 rfl (lv_at hl 0 rfl) ?_
  refine va_get (D := D) (ci := 6) (v := .ref ql) (C := "UnitRoom$Writer") (T := TW) (N := 10) hx hb hts inW hown hV (ur_one hI.1 f0) 0 rfl rfl 7 (by decide) (hts _ mw153) (fun _ h9 => h9) rfl dW_work_5 ?_
  refine va_alen (v := 300) hx hb hV (ur_one hI.1 f1) 0 4 rfl rfl rfl dW_work_8 ?_
  refine lv_icmp_lt (tgt := 13) hx hb dW_work_9 (by decide) (fun c1 => absurd c1 (by rw [hk]; decide)) (fun c1 => ?_)
  exact ur_rv hx hb hr hlocks hI hQ rfl dW_work_12
abbrev rmkW_work0 : Room := { frames := 1, cells := 1, slots := 120, locals := 20 }
set_option maxHeartbeats 4000000 in
set_option maxRecDepth 100000 in
theorem kW_work0 (l : Launch) (D : va_G) (E : ur_Ev) (h : ur_M) (q : Nat) (qb : Nat) (ql : Nat) (nw : Nat) (k : Nat) (du : Int32) (br : Int32) (tu : Int32) (ta : Int32) (hp : Int32) (fa : Int64) (qm : Nat) (q1 : Nat) (g : Nat → Int32) (f : Nat → Option Nat) (mv : Int32) (x : Int32) (f0 : h q = some (.inr (6, [.int (nI nw), .ref qb, .int du, .long fa, .int br, .int tu, .int ta, .ref ql, .int hp, .int (nI k)]))) (f1 : h ql = some (.inl (E.1 4, 300, .inr (.inr (.inr (.inr f)))))) (f2 : h qm = some (.inr (1, [.ref q1]))) (f3 : h q1 = some (.inl (E.1 0, 4000, .inl g))) (hk : k < 300) (hw0 : 0 < nw) (hw1 : nw ≤ 24) : ur_Mv l yW_work wsW_work rmkW_work0 D vwCl (ur_v E) [.ref q, .int 0, .int mv, .int x, .ref qm] h (fun h2 => ∃ w, h w = none ∧ h2 = va_up (va_up (va_up h w (some (.inl (E.1 1, 1, .inl um_ff)))) ql (some (.inl (E.1 4, 300, .inr (.inr (.inr (.inr (va_up f k (some w))))))))) q (some (.inr (6, [.int (nI nw), .ref qb, .int du, .long fa, .int br, .int tu, .int ta, .ref ql, .int hp, .int (nI (k + 1))])))) 1 120 := by
  intro sz
  refine ur_of (cc := cW_work) (maxL := 5) (ret := none) (by decide) rfl (Nat.le_of_ble_eq_true rfl) ?_
  intro p e s m args below meth c ls Q hsz hx hb hml hr hlocks hnm hown hts hO hK hI hQ hl
  subst hsz
  have hV := hK.1
  have hts : ∀ w ∈ ur_G, w.before args s = true := fun w hw => hts w (List.mem_cons_of_mem _ hw)
  have hZ : ur_Z E (ur_A h s.heap.size) s s.heap := hO.1
  have hown : s.vm.findClass "UnitRoom$Writer" = some m.cls := hown
  have hl : lv_has ls 5 [(0, .ref q), (1, .int 0), (2, .int mv), (3, .int x), (4, .ref qm)] := hl
  refine lv_aload_n hx hb dW_work_0 rfl (lv_at hl 0 rfl) ?_
  refine va_get (D := D) (ci := 6) (v := .int (nI k)) (C := "UnitRoom$Writer") (T := TW) (N := 10) hx hb hts inW hown hV (ur_one hI.1 f0) 0 rfl rfl 9 (by decide) (hts _ mw155) (fun _ h9 => h9) rfl dW_work_1 ?_
  refine lv_aload_n hx hb dW_work_4 rfl (lv_at hl 0 rfl) ?_
  refine va_get (D := D) (ci := 6) (v := .ref ql) (C := "UnitRoom$Writer") (T := TW) (N := 10) hx hb hts inW hown hV (ur_one hI.1 f0) 0 rfl rfl 7 (by decide) (hts _ mw153) (fun _ h9 => h9) rfl dW_work_5 ?_
  refine va_alen (v := 300) hx hb hV (ur_one hI.1 f1) 0 4 rfl rfl rfl dW_work_8 ?_
  refine lv_icmp_lt (tgt := 13) hx hb dW_work_9 (by decide) (fun c1 => ?_) (fun c1 => absurd c1 (not_not_intro (nI_lt (b := 300) hk (by decide))))
  refine lv_aload_n hx hb dW_work_13 rfl (lv_at hl 0 rfl) ?_
  refine va_get (D := D) (ci := 6) (v := .ref ql) (C := "UnitRoom$Writer") (T := TW) (N := 10) hx hb hts inW hown hV (ur_one hI.1 f0) 0 rfl rfl 7 (by decide) (hts _ mw153) (fun _ h9 => h9) rfl dW_work_14 ?_
  refine lv_aload_n hx hb dW_work_17 rfl (lv_at hl 0 rfl) ?_
  refine va_get (D := D) (ci := 6) (v := .int (nI k)) (C := "UnitRoom$Writer") (T := TW) (N := 10) hx hb hts inW hown hV (ur_one hI.1 f0) 0 rfl rfl 9 (by decide) (hts _ mw155) (fun _ h9 => h9) rfl dW_work_18 ?_
  refine lv_iload_n hx hb dW_work_21 rfl (lv_at hl 1 rfl) ?_
  refine lv_if_ne (tgt := 31) hx hb dW_work_22 (by decide) (fun c2 => absurd c2 (by decide)) (fun c2 => ?_)
  refine ur_xq (va_runS (As := []) (rest := [.int (nI k), .ref ql]) ⟨hx, hb, hml, hown, hts⟩ (kW_ff l D E h s.heap.size) (va_cwS 0 hts (ur_gT mw371 mw372 mw10 mw373) rfl rfl rfl (by decide +kernel) ⟨(Nat.le_of_ble_eq_true rfl), (Nat.le_of_ble_eq_true rfl)⟩) ⟨ur_blind, ur_pre hI hO hK (fun _ _ q => q)⟩ rfl rfl hl.1 rfl (lv_room (Nat.le_of_ble_eq_true rfl)) dW_work_25 ⟨Nat.le_of_ble_eq_true rfl, Nat.le_of_ble_eq_true rfl⟩) hI (fun r3 h3 H locs p3 hI => ?_)
  obtain ⟨w4, er3, zw4, eh3⟩ := p3
  subst er3
  have ne6 : q ≠ w4 := ur_fresh f0 zw4
  have fq5 : h3 q = some (.inr (6, [.int (nI nw), .ref qb, .int du, .long fa, .int br, .int tu, .int ta, .ref ql, .int hp, .int (nI k)])) := by rw [eh3]; exact (va_up_ne _ _ ne6).trans f0
  have ne8 : ql ≠ w4 := ur_fresh f1 zw4
  have fq7 : h3 ql = some (.inl (E.1 4, 300, .inr (.inr (.inr (.inr f))))) := by rw [eh3]; exact (va_up_ne _ _ ne8).trans f1
  have ne10 : qm ≠ w4 := ur_fresh f2 zw4
  have fq9 : h3 qm = some (.inr (1, [.ref q1])) := by rw [eh3]; exact (va_up_ne _ _ ne10).trans f2
  have ne12 : q1 ≠ w4 := ur_fresh f3 zw4
  have fq11 : h3 q1 = some (.inl (E.1 0, 4000, .inl g)) := by rw [eh3]; exact (va_up_ne _ _ ne12).trans f3
  have fq13 : h3 w4 = some (.inl (E.1 1, 1, .inl um_ff)) := by rw [eh3]; exact va_up_self _ _ _
  refine lv_goto (tgt := 38) hx hb dW_work_28 (by decide) ?_
  refine ur_astA hx hb hI fq7 hK.2.1.2.2.2.2.2.2.1.1 hK.2.1.2.2.2.2.2.2.1.2 fq13 (vp_in_nI hk (by decide)) dW_work_38 (fun H locs hI => ?_)
  obtain ⟨h14, eh14⟩ : ∃ z : ur_M, z = va_up h3 ql (some (.inl (E.1 4, 300, .inr (.inr (.inr (.inr (va_up f (Int32.toNatClampNeg (nI k)) (some w4)))))))) := ⟨_, rfl⟩
  replace hI : ur_I D vwCl (ur_A h s.heap.size) s.heap h14 H locs := by rw [eh14]; exact hI
  have fq15 : h14 q = some (.inr (6, [.int (nI nw), .ref qb, .int du, .long fa, .int br, .int tu, .int ta, .ref ql, .int hp, .int (nI k)])) := by rw [eh14]; exact ((va_up_ne _ _ (ur_ne fq5 fq7 (by intro z; simp at z))).trans fq5)
  have fq16 : h14 ql = some (.inl (E.1 4, 300, .inr (.inr (.inr (.inr (va_up f (Int32.toNatClampNeg (nI k)) (some w4))))))) := by rw [eh14]; exact (va_up_self _ _ _)
  have fq17 : h14 qm = some (.inr (1, [.ref q1])) := by rw [eh14]; exact ((va_up_ne _ _ (ur_ne fq9 fq7 (by intro z; simp at z))).trans fq9)
  have fq18 : h14 q1 = some (.inl (E.1 0, 4000, .inl g)) := by rw [eh14]; exact ((va_up_ne _ _ (ur_ne fq11 fq7 (by intro z; simp at z))).trans fq11)
  have fq19 : h14 w4 = some (.inl (E.1 1, 1, .inl um_ff)) := by rw [eh14]; exact ((va_up_ne _ _ (Ne.symm ne8)).trans fq13)
  refine lv_aload_n hx hb dW_work_39 rfl (lv_at hl 0 rfl) ?_
  refine lv_dup hx hb dW_work_40 rfl ?_
  refine va_get (D := D) (ci := 6) (v := .int (nI k)) (C := "UnitRoom$Writer") (T := TW) (N := 10) hx hb hts inW hown hV (ur_one hI.1 fq15) 0 rfl rfl 9 (by decide) (hts _ mw155) (fun _ h9 => h9) rfl dW_work_41 ?_
  refine lv_iconst (v := 1) hx hb dW_work_44 (by decide) ?_
  refine lv_iadd hx hb dW_work_45 ?_
  refine ur_put (D := D) (ci := 6) (v := .int ((nI k) + 1)) (ty := .int) (C := "UnitRoom$Writer") (T := TW) (N := 10) hx hb hts inW tyW tyW_ok nmW hown hV hI fq15 rfl 9 (by decide) (hts _ mw155) (fun _ h9 => h9) rfl (by decide +kernel) rfl rfl (Nat.le_of_ble_eq_true rfl) dW_work_46 (fun H locs hI => ?_)
  obtain ⟨h20, eh20⟩ : ∃ z : ur_M, z = va_up h14 q (some (.inr (6, [.int (nI nw), .ref qb, .int du, .long fa, .int br, .int tu, .int ta, .ref ql, .int hp, .int ((nI k) + 1)]))) := ⟨_, rfl⟩
  replace hI : ur_I D vwCl (ur_A h s.heap.size) s.heap h20 H locs := by rw [eh20]; exact hI
  have fq21 : h20 q = some (.inr (6, [.int (nI nw), .ref qb, .int du, .long fa, .int br, .int tu, .int ta, .ref ql, .int hp, .int ((nI k) + 1)])) := by rw [eh20]; exact (va_up_self _ _ _)
  have fq22 : h20 ql = some (.inl (E.1 4, 300, .inr (.inr (.inr (.inr (va_up f (Int32.toNatClampNeg (nI k)) (some w4))))))) := by rw [eh20]; exact ((va_up_ne _ _ (ur_ne fq16 fq15 (by intro z; simp at z))).trans fq16)
  have fq23 : h20 qm = some (.inr (1, [.ref q1])) := by rw [eh20]; exact ((va_up_ne _ _ (ur_ne fq17 fq15 (by intro z; simp at z))).trans fq17)
  have fq24 : h20 q1 = some (.inl (E.1 0, 4000, .inl g)) := by rw [eh20]; exact ((va_up_ne _ _ (ur_ne fq18 fq15 (by intro z; simp at z))).trans fq18)
  have fq25 : h20 w4 = some (.inl (E.1 1, 1, .inl um_ff)) := by rw [eh20]; exact ((va_up_ne _ _ (Ne.symm ne6)).trans fq19)
  refine W.widen (k := 1) (n := 120) (by omega) (by omega) ?_
  exact ur_rv hx hb hr hlocks hI hQ ⟨_, zw4, (by rw [eh20, eh14, eh3, nI_clamp (by omega), nI_1])⟩ dW_work_49
abbrev rmkW_work2 : Room := { frames := 6, cells := 1, slots := 120, locals := 129 }
set_option maxHeartbeats 4000000 in
set_option maxRecDepth 100000 in
theorem kW_work2 (l : Launch) (D : va_G) (E : ur_Ev) (h : ur_M) (q : Nat) (qb : Nat) (ql : Nat) (nw : Nat) (k : Nat) (du : Int32) (br : Int32) (tu : Int32) (ta : Int32) (hp : Int32) (fa : Int64) (qm : Nat) (q1 : Nat) (g : Nat → Int32) (f : Nat → Option Nat) (mv : Int32) (x : Int32) (f0 : h q = some (.inr (6, [.int (nI nw), .ref qb, .int du, .long fa, .int br, .int tu, .int ta, .ref ql, .int hp, .int (nI k)]))) (f1 : h ql = some (.inl (E.1 4, 300, .inr (.inr (.inr (.inr f)))))) (f2 : h qm = some (.inr (1, [.ref q1]))) (f3 : h q1 = some (.inl (E.1 0, 4000, .inl g))) (hk : k < 300) (hw0 : 0 < nw) (hw1 : nw ≤ 24) : ur_Mv l yW_work wsW_work rmkW_work2 D vwCl (ur_v E) [.ref q, .int 2, .int mv, .int x, .ref qm] h (fun h2 => ∃ w, h w = none ∧ h2 = va_up (va_up (va_up h w (some (.inl (E.1 1, (um_len g mv (nw * 5)), .inl (um_line g mv (um_len g mv (nw * 5))))))) ql (some (.inl (E.1 4, 300, .inr (.inr (.inr (.inr (va_up f k (some w))))))))) q (some (.inr (6, [.int (nI nw), .ref qb, .int du, .long fa, .int br, .int tu, .int ta, .ref ql, .int hp, .int (nI (k + 1))])))) 1 120 := by
  intro sz
  refine ur_of (cc := cW_work) (maxL := 5) (ret := none) (by decide) rfl (Nat.le_of_ble_eq_true rfl) ?_
  intro p e s m args below meth c ls Q hsz hx hb hml hr hlocks hnm hown hts hO hK hI hQ hl
  subst hsz
  have hV := hK.1
  have hts : ∀ w ∈ ur_G, w.before args s = true := fun w hw => hts w (List.mem_cons_of_mem _ hw)
  have hZ : ur_Z E (ur_A h s.heap.size) s s.heap := hO.1
  have hown : s.vm.findClass "UnitRoom$Writer" = some m.cls := hown
  have hl : lv_has ls 5 [(0, .ref q), (1, .int 2), (2, .int mv), (3, .int x), (4, .ref qm)] := hl
  refine lv_aload_n hx hb dW_work_0 rfl (lv_at hl 0 rfl) ?_
  refine va_get (D := D) (ci := 6) (v := .int (nI k)) (C := "UnitRoom$Writer") (T := TW) (N := 10) hx hb hts inW hown hV (ur_one hI.1 f0) 0 rfl rfl 9 (by decide) (hts _ mw155) (fun _ h9 => h9) rfl dW_work_1 ?_
  refine lv_aload_n hx hb dW_work_4 rfl (lv_at hl 0 rfl) ?_
  refine va_get (D := D) (ci := 6) (v := .ref ql) (C := "UnitRoom$Writer") (T := TW) (N := 10) hx hb hts inW hown hV (ur_one hI.1 f0) 0 rfl rfl 7 (by decide) (hts _ mw153) (fun _ h9 => h9) rfl dW_work_5 ?_
  refine va_alen (v := 300) hx hb hV (ur_one hI.1 f1) 0 4 rfl rfl rfl dW_work_8 ?_
  refine lv_icmp_lt (tgt := 13) hx hb dW_work_9 (by decide) (fun c1 => ?_) (fun c1 => absurd c1 (not_not_intro (nI_lt (b := 300) hk (by decide))))
  refine lv_aload_n hx hb dW_work_13 rfl (lv_at hl 0 rfl) ?_
  refine va_get (D := D) (ci := 6) (v := .ref ql) (C := "UnitRoom$Writer") (T := TW) (N := 10) hx hb hts inW hown hV (ur_one hI.1 f0) 0 rfl rfl 7 (by decide) (hts _ mw153) (fun _ h9 => h9) rfl dW_work_14 ?_
  refine lv_aload_n hx hb dW_work_17 rfl (lv_at hl 0 rfl) ?_
  refine va_get (D := D) (ci := 6) (v := .int (nI k)) (C := "UnitRoom$Writer") (T := TW) (N := 10) hx hb hts inW hown hV (ur_one hI.1 f0) 0 rfl rfl 9 (by decide) (hts _ mw155) (fun _ h9 => h9) rfl dW_work_18 ?_
  refine lv_iload_n hx hb dW_work_21 rfl (lv_at hl 1 rfl) ?_
  refine lv_if_ne (tgt := 31) hx hb dW_work_22 (by decide) (fun c2 => ?_) (fun c2 => absurd c2 (by decide))
  refine lv_aload_n hx hb dW_work_31 rfl (lv_at hl 0 rfl) ?_
  refine lv_iload_n hx hb dW_work_32 rfl (lv_at hl 2 rfl) ?_
  refine lv_aload hx hb dW_work_33 (lv_at hl 4 rfl) ?_
  refine ur_xq (va_runV (As := [.int mv, .ref qm]) (rest := [.int (nI k), .ref ql]) ⟨hx, hb, hml, hown, hts⟩ (kW_line l D E h q qb ql nw k du br tu ta hp fa qm q1 g mv f0 f2 f3 (by first | assumption | omega | decide) (by first | assumption | omega | decide) s.heap.size) (cwV 2 hts (ur_gV mw374 mw376 ms5 mw10 mw377) rfl rfl rfl (by decide +kernel) ⟨(Nat.le_of_ble_eq_true rfl), (Nat.le_of_ble_eq_true rfl)⟩) ⟨ur_blind, va_recv hV (ur_one hI.1 f0) (ci := 6) (q0 := 0) rfl rfl, ur_pre hI hO hK (fun _ _ q => q)⟩ rfl rfl hl.1 rfl (lv_room (Nat.le_of_ble_eq_true rfl)) dW_work_35 ⟨Nat.le_of_ble_eq_true rfl, Nat.le_of_ble_eq_true rfl⟩) hI (fun r3 h3 H locs p3 hI => ?_)
  obtain ⟨w4, er3, zw4, eh3⟩ := p3
  subst er3
  have ne6 : q ≠ w4 := ur_fresh f0 zw4
  have fq5 : h3 q = some (.inr (6, [.int (nI nw), .ref qb, .int du, .long fa, .int br, .int tu, .int ta, .ref ql, .int hp, .int (nI k)])) := by rw [eh3]; exact (va_up_ne _ _ ne6).trans f0
  have ne8 : ql ≠ w4 := ur_fresh f1 zw4
  have fq7 : h3 ql = some (.inl (E.1 4, 300, .inr (.inr (.inr (.inr f))))) := by rw [eh3]; exact (va_up_ne _ _ ne8).trans f1
  have ne10 : qm ≠ w4 := ur_fresh f2 zw4
  have fq9 : h3 qm = some (.inr (1, [.ref q1])) := by rw [eh3]; exact (va_up_ne _ _ ne10).trans f2
  have ne12 : q1 ≠ w4 := ur_fresh f3 zw4
  have fq11 : h3 q1 = some (.inl (E.1 0, 4000, .inl g)) := by rw [eh3]; exact (va_up_ne _ _ ne12).trans f3
  have fq13 : h3 w4 = some (.inl (E.1 1, (um_len g mv (nw * 5)), .inl (um_line g mv (um_len g mv (nw * 5))))) := by rw [eh3]; exact va_up_self _ _ _
  refine ur_astA hx hb hI fq7 hK.2.1.2.2.2.2.2.2.1.1 hK.2.1.2.2.2.2.2.2.1.2 fq13 (vp_in_nI hk (by decide)) dW_work_38 (fun H locs hI => ?_)
  obtain ⟨h14, eh14⟩ : ∃ z : ur_M, z = va_up h3 ql (some (.inl (E.1 4, 300, .inr (.inr (.inr (.inr (va_up f (Int32.toNatClampNeg (nI k)) (some w4)))))))) := ⟨_, rfl⟩
  replace hI : ur_I D vwCl (ur_A h s.heap.size) s.heap h14 H locs := by rw [eh14]; exact hI
  have fq15 : h14 q = some (.inr (6, [.int (nI nw), .ref qb, .int du, .long fa, .int br, .int tu, .int ta, .ref ql, .int hp, .int (nI k)])) := by rw [eh14]; exact ((va_up_ne _ _ (ur_ne fq5 fq7 (by intro z; simp at z))).trans fq5)
  have fq16 : h14 ql = some (.inl (E.1 4, 300, .inr (.inr (.inr (.inr (va_up f (Int32.toNatClampNeg (nI k)) (some w4))))))) := by rw [eh14]; exact (va_up_self _ _ _)
  have fq17 : h14 qm = some (.inr (1, [.ref q1])) := by rw [eh14]; exact ((va_up_ne _ _ (ur_ne fq9 fq7 (by intro z; simp at z))).trans fq9)
  have fq18 : h14 q1 = some (.inl (E.1 0, 4000, .inl g)) := by rw [eh14]; exact ((va_up_ne _ _ (ur_ne fq11 fq7 (by intro z; simp at z))).trans fq11)
  have fq19 : h14 w4 = some (.inl (E.1 1, (um_len g mv (nw * 5)), .inl (um_line g mv (um_len g mv (nw * 5))))) := by rw [eh14]; exact ((va_up_ne _ _ (Ne.symm ne8)).trans fq13)
  refine lv_aload_n hx hb dW_work_39 rfl (lv_at hl 0 rfl) ?_
  refine lv_dup hx hb dW_work_40 rfl ?_
  refine va_get (D := D) (ci := 6) (v := .int (nI k)) (C := "UnitRoom$Writer") (T := TW) (N := 10) hx hb hts inW hown hV (ur_one hI.1 fq15) 0 rfl rfl 9 (by decide) (hts _ mw155) (fun _ h9 => h9) rfl dW_work_41 ?_
  refine lv_iconst (v := 1) hx hb dW_work_44 (by decide) ?_
  refine lv_iadd hx hb dW_work_45 ?_
  refine ur_put (D := D) (ci := 6) (v := .int ((nI k) + 1)) (ty := .int) (C := "UnitRoom$Writer") (T := TW) (N := 10) hx hb hts inW tyW tyW_ok nmW hown hV hI fq15 rfl 9 (by decide) (hts _ mw155) (fun _ h9 => h9) rfl (by decide +kernel) rfl rfl (Nat.le_of_ble_eq_true rfl) dW_work_46 (fun H locs hI => ?_)
  obtain ⟨h20, eh20⟩ : ∃ z : ur_M, z = va_up h14 q (some (.inr (6, [.int (nI nw), .ref qb, .int du, .long fa, .int br, .int tu, .int ta, .ref ql, .int hp, .int ((nI k) + 1)]))) := ⟨_, rfl⟩
  replace hI : ur_I D vwCl (ur_A h s.heap.size) s.heap h20 H locs := by rw [eh20]; exact hI
  have fq21 : h20 q = some (.inr (6, [.int (nI nw), .ref qb, .int du, .long fa, .int br, .int tu, .int ta, .ref ql, .int hp, .int ((nI k) + 1)])) := by rw [eh20]; exact (va_up_self _ _ _)
  have fq22 : h20 ql = some (.inl (E.1 4, 300, .inr (.inr (.inr (.inr (va_up f (Int32.toNatClampNeg (nI k)) (some w4))))))) := by rw [eh20]; exact ((va_up_ne _ _ (ur_ne fq16 fq15 (by intro z; simp at z))).trans fq16)
  have fq23 : h20 qm = some (.inr (1, [.ref q1])) := by rw [eh20]; exact ((va_up_ne _ _ (ur_ne fq17 fq15 (by intro z; simp at z))).trans fq17)
  have fq24 : h20 q1 = some (.inl (E.1 0, 4000, .inl g)) := by rw [eh20]; exact ((va_up_ne _ _ (ur_ne fq18 fq15 (by intro z; simp at z))).trans fq18)
  have fq25 : h20 w4 = some (.inl (E.1 1, (um_len g mv (nw * 5)), .inl (um_line g mv (um_len g mv (nw * 5))))) := by rw [eh20]; exact ((va_up_ne _ _ (Ne.symm ne6)).trans fq19)
  exact ur_rv hx hb hr hlocks hI hQ ⟨_, zw4, (by rw [eh20, eh14, eh3, nI_clamp (by omega), nI_1])⟩ dW_work_49
theorem dW_letterAt_0 : decode cW_letterAt 0 = .ok (.iload_n 1, 1) := by decide +kernel
theorem dW_letterAt_1 : decode cW_letterAt 1 = .ok (.ifCond .lt 20, 3) := by decide +kernel
theorem dW_letterAt_4 : decode cW_letterAt 4 = .ok (.iload_n 1, 1) := by decide +kernel
theorem dW_letterAt_5 : decode cW_letterAt 5 = .ok (.aload_n 0, 1) := by decide +kernel
theorem dW_letterAt_6 : decode cW_letterAt 6 = .ok (.getfield 17, 3) := by decide +kernel
theorem dW_letterAt_9 : decode cW_letterAt 9 = .ok (.if_icmp .ge 12, 3) := by decide +kernel
theorem dW_letterAt_12 : decode cW_letterAt 12 = .ok (.iload_n 1, 1) := by decide +kernel
theorem dW_letterAt_13 : decode cW_letterAt 13 = .ok (.aload_n 0, 1) := by decide +kernel
theorem dW_letterAt_14 : decode cW_letterAt 14 = .ok (.getfield 13, 3) := by decide +kernel
theorem dW_letterAt_17 : decode cW_letterAt 17 = .ok (.arraylength, 1) := by decide +kernel
theorem dW_letterAt_18 : decode cW_letterAt 18 = .ok (.if_icmp .lt 5, 3) := by decide +kernel
theorem dW_letterAt_21 : decode cW_letterAt 21 = .ok (.iconst (-1), 1) := by decide +kernel
theorem dW_letterAt_22 : decode cW_letterAt 22 = .ok (.ireturn, 1) := by decide +kernel
theorem dW_letterAt_23 : decode cW_letterAt 23 = .ok (.aload_n 0, 1) := by decide +kernel
theorem dW_letterAt_24 : decode cW_letterAt 24 = .ok (.getfield 13, 3) := by decide +kernel
theorem dW_letterAt_27 : decode cW_letterAt 27 = .ok (.iload_n 1, 1) := by decide +kernel
theorem dW_letterAt_28 : decode cW_letterAt 28 = .ok (.aaload, 1) := by decide +kernel
theorem dW_letterAt_29 : decode cW_letterAt 29 = .ok (.astore_n 3, 1) := by decide +kernel
theorem dW_letterAt_30 : decode cW_letterAt 30 = .ok (.aload_n 3, 1) := by decide +kernel
theorem dW_letterAt_31 : decode cW_letterAt 31 = .ok (.ifnull 13, 3) := by decide +kernel
theorem dW_letterAt_34 : decode cW_letterAt 34 = .ok (.iload_n 2, 1) := by decide +kernel
theorem dW_letterAt_35 : decode cW_letterAt 35 = .ok (.ifCond .lt 9, 3) := by decide +kernel
theorem dW_letterAt_38 : decode cW_letterAt 38 = .ok (.iload_n 2, 1) := by decide +kernel
theorem dW_letterAt_39 : decode cW_letterAt 39 = .ok (.aload_n 3, 1) := by decide +kernel
theorem dW_letterAt_40 : decode cW_letterAt 40 = .ok (.arraylength, 1) := by decide +kernel
theorem dW_letterAt_41 : decode cW_letterAt 41 = .ok (.if_icmp .lt 7, 3) := by decide +kernel
theorem dW_letterAt_44 : decode cW_letterAt 44 = .ok (.iconst (-1), 1) := by decide +kernel
theorem dW_letterAt_45 : decode cW_letterAt 45 = .ok (.goto 6, 3) := by decide +kernel
theorem dW_letterAt_48 : decode cW_letterAt 48 = .ok (.aload_n 3, 1) := by decide +kernel
theorem dW_letterAt_49 : decode cW_letterAt 49 = .ok (.iload_n 2, 1) := by decide +kernel
theorem dW_letterAt_50 : decode cW_letterAt 50 = .ok (.baload, 1) := by decide +kernel
theorem dW_letterAt_51 : decode cW_letterAt 51 = .ok (.ireturn, 1) := by decide +kernel
abbrev rmkW_letter : Room := { frames := 0, cells := 0, slots := 0, locals := 0 }
set_option maxHeartbeats 4000000 in
set_option maxRecDepth 100000 in
theorem kW_letter (l : Launch) (D : va_G) (E : ur_Ev) (h : ur_M) (q : Nat) (qb : Nat) (ql : Nat) (nw : Nat) (k : Nat) (du : Int32) (br : Int32) (tu : Int32) (ta : Int32) (hp : Int32) (fa : Int64) (f : Nat → Option Nat) (G : Nat → Nat) (B : Nat → Nat → Int32) (x : Int32) (i : Int32) (f0 : h q = some (.inr (6, [.int (nI nw), .ref qb, .int du, .long fa, .int br, .int tu, .int ta, .ref ql, .int hp, .int (nI k)]))) (f1 : h ql = some (.inl (E.1 4, 300, .inr (.inr (.inr (.inr f)))))) (hk : k ≤ 300) (hlin : um_linesAt E h f G B k) : ur_Mi l yW_letterAt wsW_letterAt rmkW_letter D vwCl (ur_v E) [.ref q, .int x, .int i] h (fun r h2 => r = um_lAt G B k x i ∧ h2 = h) 0 0 := by
  intro sz
  refine ur_of (cc := cW_letterAt) (maxL := 4) (ret := (some .int)) (by decide) rfl (Nat.le_of_ble_eq_true rfl) ?_
  intro p e s m args below meth c ls Q hsz hx hb hml hr hlocks hnm hown hts hO hK hI hQ hl
  subst hsz
  have hV := hK.1
  have hts : ∀ w ∈ ur_G, w.before args s = true := fun w hw => hts w (List.mem_cons_of_mem _ hw)
  have hZ : ur_Z E (ur_A h s.heap.size) s s.heap := hO.1
  have hown : s.vm.findClass "UnitRoom$Writer" = some m.cls := hown
  have hl : lv_has ls 4 [(0, .ref q), (1, .int x), (2, .int i)] := hl
  refine lv_iload_n hx hb dW_letterAt_0 rfl (lv_at hl 1 rfl) ?_
  refine lv_if_lt (tgt := 21) hx hb dW_letterAt_1 (by decide) (fun c1 => ?_) (fun c1 => ?_)
  · refine lv_iconst (v := (-1)) hx hb dW_letterAt_21 (by decide) ?_
    exact ur_ri hx hb hr hlocks hI hQ ⟨(by simp only [um_lAt, c1, ↓reduceIte]), rfl⟩ dW_letterAt_22
  · refine lv_iload_n hx hb dW_letterAt_4 rfl (lv_at hl 1 rfl) ?_
    refine lv_aload_n hx hb dW_letterAt_5 rfl (lv_at hl 0 rfl) ?_
    refine va_get (D := D) (ci := 6) (v := .int (nI k)) (C := "UnitRoom$Writer") (T := TW) (N := 10) hx hb hts inW hown hV (ur_one hI.1 f0) 0 rfl rfl 9 (by decide) (hts _ mw155) (fun _ h9 => h9) rfl dW_letterAt_6 ?_
    refine lv_icmp_ge (tgt := 21) hx hb dW_letterAt_9 (by decide) (fun c2 => ?_) (fun c2 => ?_)
    · refine lv_iconst (v := (-1)) hx hb dW_letterAt_21 (by decide) ?_
      exact ur_ri hx hb hr hlocks hI hQ ⟨(by simp only [um_lAt, c1, c2, ↓reduceIte]), rfl⟩ dW_letterAt_22
    · refine lv_iload_n hx hb dW_letterAt_12 rfl (lv_at hl 1 rfl) ?_
      refine lv_aload_n hx hb dW_letterAt_13 rfl (lv_at hl 0 rfl) ?_
      refine va_get (D := D) (ci := 6) (v := .ref ql) (C := "UnitRoom$Writer") (T := TW) (N := 10) hx hb hts inW hown hV (ur_one hI.1 f0) 0 rfl rfl 7 (by decide) (hts _ mw153) (fun _ h9 => h9) rfl dW_letterAt_14 ?_
      refine va_alen (v := 300) hx hb hV (ur_one hI.1 f1) 0 4 rfl rfl rfl dW_letterAt_17 ?_
      refine lv_icmp_lt (tgt := 23) hx hb dW_letterAt_18 (by decide) (fun c3 => ?_) (fun c3 => ?_)
      · refine lv_aload_n hx hb dW_letterAt_23 rfl (lv_at hl 0 rfl) ?_
        refine va_get (D := D) (ci := 6) (v := .ref ql) (C := "UnitRoom$Writer") (T := TW) (N := 10) hx hb hts inW hown hV (ur_one hI.1 f0) 0 rfl rfl 7 (by decide) (hts _ mw153) (fun _ h9 => h9) rfl dW_letterAt_24 ?_
        refine lv_iload_n hx hb dW_letterAt_27 rfl (lv_at hl 1 rfl) ?_
        refine ur_aldA hx hb hV hI 4 f1 rfl rfl (um_in c1 c3 (by decide)) dW_letterAt_28 ?_
        refine ur_asn (lv' := [(3, va_rf (f x.toNatClampNeg)), (0, .ref q), (1, .int x), (2, .int i)]) hx hb dW_letterAt_29 rfl hl (by decide) rfl (fun ls hl => ?_)
        refine ur_aln hx hb dW_letterAt_30 rfl (lv_at hl 0 rfl) ?_
        refine ur_ifn (tgt := 44) hx hb dW_letterAt_31 (by decide) (fun c4 => ?_) (fun a5 c4 => ?_)
        · rw [c4] at hl
          obtain ⟨a9, ha9, hr9, hG9⟩ := hlin x.toNatClampNeg (um_lt c1 c2 (by omega))
          rw [c4] at ha9; cases ha9
        · rw [c4] at hl
          obtain ⟨a9, ha9, hr9, hG9⟩ := hlin x.toNatClampNeg (um_lt c1 c2 (by omega))
          cases c4.symm.trans ha9
          refine lv_iload_n hx hb dW_letterAt_34 rfl (lv_at hl 3 rfl) ?_
          refine lv_if_lt (tgt := 44) hx hb dW_letterAt_35 (by decide) (fun c6 => ?_) (fun c6 => ?_)
          · refine lv_iconst (v := (-1)) hx hb dW_letterAt_44 (by decide) ?_
            refine lv_goto (tgt := 51) hx hb dW_letterAt_45 (by decide) ?_
            exact ur_ri hx hb hr hlocks hI hQ ⟨(by simp only [um_lAt, c1, c2, c3, c6, ↓reduceIte]), rfl⟩ dW_letterAt_51
          · refine lv_iload_n hx hb dW_letterAt_38 rfl (lv_at hl 3 rfl) ?_
            refine lv_aload_n hx hb dW_letterAt_39 rfl (lv_at hl 0 rfl) ?_
            refine va_alen (v := (nI (G x.toNatClampNeg))) hx hb hV (ur_one hI.1 hr9) 0 1 rfl rfl rfl dW_letterAt_40 ?_
            refine lv_icmp_lt (tgt := 48) hx hb dW_letterAt_41 (by decide) (fun c7 => ?_) (fun c7 => ?_)
            · refine lv_aload_n hx hb dW_letterAt_48 rfl (lv_at hl 0 rfl) ?_
              refine lv_iload_n hx hb dW_letterAt_49 rfl (lv_at hl 3 rfl) ?_
              refine va_bald hx hb hV (ur_one hI.1 hr9) 0 1 rfl rfl (um_in c6 c7 (by omega)) dW_letterAt_50 ?_
              exact ur_ri hx hb hr hlocks hI hQ ⟨(by simp only [um_lAt, c1, c2, c3, c6, c7, ↓reduceIte]), rfl⟩ dW_letterAt_51
            · refine lv_iconst (v := (-1)) hx hb dW_letterAt_44 (by decide) ?_
              refine lv_goto (tgt := 51) hx hb dW_letterAt_45 (by decide) ?_
              exact ur_ri hx hb hr hlocks hI hQ ⟨(by simp only [um_lAt, c1, c2, c3, c6, c7, ↓reduceIte]), rfl⟩ dW_letterAt_51
      · refine lv_iconst (v := (-1)) hx hb dW_letterAt_21 (by decide) ?_
        exact ur_ri hx hb hr hlocks hI hQ ⟨(by simp only [um_lAt, c1, c2, c3, ↓reduceIte]), rfl⟩ dW_letterAt_22
end
section
/-! pure words: feed, set, fill, card -/
theorem um_room_le {n : Nat} (hn : n ≤ 400) (h : um_room (nI n) = true) : n ≤ 380 := by
  unfold um_room at h
  by_cases q : (400 - 20 : Int32) < nI n
  · rw [if_pos q] at h; cases h
  · exact Nat.not_lt.mp (fun z => q (by show nI 380 < nI n; exact nI_lt z (by omega)))
def um_fd (b : Nat → Int32) (n : Nat) (v1 v2 v3 v4 v5 : Int32) : Nat → Int32 := um_app (um_app (um_app (um_app (um_app b n v1) (n + 1 + 1 + 1 + 1) v2) (n + 1 + 1 + 1 + 1 + 1 + 1 + 1 + 1) v3) (n + 1 + 1 + 1 + 1 + 1 + 1 + 1 + 1 + 1 + 1 + 1 + 1) v4) (n + 1 + 1 + 1 + 1 + 1 + 1 + 1 + 1 + 1 + 1 + 1 + 1 + 1 + 1 + 1 + 1) v5
def um_fdb (b : Nat → Int32) (n : Nat) (v1 v2 v3 v4 v5 : Int32) : Nat → Int32 := if um_room (nI n) = true then um_fd b n v1 v2 v3 v4 v5 else b
def um_fdn (n : Nat) : Nat := if um_room (nI n) = true then n + 20 else n
def um_setok (a v : Int32) : Bool := if um_holds a 1 = true then (if v ≤ (-1073741824) then false else if v < 1073741824 then true else false) else false
def um_setv (v z : Int32) : Int32 := if z = 0 then v else if v = 0 then (-2147483648) else v
def um_set (g : Nat → Int32) (a v z : Int32) : Nat → Int32 := if um_setok a v = true then um_put g a (um_setv v z) else g
def um_fillok (a n : Int32) : Bool := if n < 1 then false else if 200 < n then false else um_holds a n
def um_fillF (g : Nat → Int32) (a sd : Int32) : Nat → Nat → Int32
  | 0 => g
  | k + 1 => um_put (um_fillF g a sd k) (a + nI k) ((sd + 12345 * nI k) &&& 1073741823)
def um_fill (g : Nat → Int32) (a n sd : Int32) : Nat → Int32 := if um_fillok a n = true then um_fillF g a sd n.toNatClampNeg else g
theorem um_200 {n : Int32} (h1 : ¬ n < 1) (h2 : ¬ 200 < n) : ∃ j : Nat, j ≤ 200 ∧ n = nI j := by
  have h0 : ¬ n < 0 := fun z => h1 (Int32.lt_trans z (by decide))
  obtain ⟨j, hj, rfl⟩ := nI_of h0
  exact ⟨j, Nat.not_lt.mp (fun z => h2 (by show nI 200 < nI j; exact nI_lt z hj)), rfl⟩
theorem um_hasR_t {b : Nat} (h : b < 100) : um_hasR (nI b) = true := if_neg (nI_ge (b := 100) h (by decide))
theorem um_hasR_f : um_hasR (nI 100) = false := by decide
end
section
theorem dU_feed_0 : decode cU_feed 0 = .ok (.aload_n 0, 1) := by decide +kernel
theorem dU_feed_1 : decode cU_feed 1 = .ok (.getfield 19, 3) := by decide +kernel
theorem dU_feed_4 : decode cU_feed 4 = .ok (.invokevirtual 55, 3) := by decide +kernel
theorem dU_feed_7 : decode cU_feed 7 = .ok (.ifCond .ne 5, 3) := by decide +kernel
theorem dU_feed_10 : decode cU_feed 10 = .ok (.iconst 0, 1) := by decide +kernel
theorem dU_feed_11 : decode cU_feed 11 = .ok (.ireturn, 1) := by decide +kernel
theorem dU_feed_12 : decode cU_feed 12 = .ok (.aload_n 0, 1) := by decide +kernel
theorem dU_feed_13 : decode cU_feed 13 = .ok (.getfield 19, 3) := by decide +kernel
theorem dU_feed_16 : decode cU_feed 16 = .ok (.iload_n 1, 1) := by decide +kernel
theorem dU_feed_17 : decode cU_feed 17 = .ok (.invokevirtual 59, 3) := by decide +kernel
theorem dU_feed_20 : decode cU_feed 20 = .ok (.aload_n 0, 1) := by decide +kernel
theorem dU_feed_21 : decode cU_feed 21 = .ok (.getfield 19, 3) := by decide +kernel
theorem dU_feed_24 : decode cU_feed 24 = .ok (.iload_n 2, 1) := by decide +kernel
theorem dU_feed_25 : decode cU_feed 25 = .ok (.invokevirtual 59, 3) := by decide +kernel
theorem dU_feed_28 : decode cU_feed 28 = .ok (.aload_n 0, 1) := by decide +kernel
theorem dU_feed_29 : decode cU_feed 29 = .ok (.getfield 19, 3) := by decide +kernel
theorem dU_feed_32 : decode cU_feed 32 = .ok (.iload_n 3, 1) := by decide +kernel
theorem dU_feed_33 : decode cU_feed 33 = .ok (.invokevirtual 59, 3) := by decide +kernel
theorem dU_feed_36 : decode cU_feed 36 = .ok (.aload_n 0, 1) := by decide +kernel
theorem dU_feed_37 : decode cU_feed 37 = .ok (.getfield 19, 3) := by decide +kernel
theorem dU_feed_40 : decode cU_feed 40 = .ok (.iload 4, 2) := by decide +kernel
theorem dU_feed_42 : decode cU_feed 42 = .ok (.invokevirtual 59, 3) := by decide +kernel
theorem dU_feed_45 : decode cU_feed 45 = .ok (.aload_n 0, 1) := by decide +kernel
theorem dU_feed_46 : decode cU_feed 46 = .ok (.getfield 19, 3) := by decide +kernel
theorem dU_feed_49 : decode cU_feed 49 = .ok (.iload 5, 2) := by decide +kernel
theorem dU_feed_51 : decode cU_feed 51 = .ok (.invokevirtual 59, 3) := by decide +kernel
theorem dU_feed_54 : decode cU_feed 54 = .ok (.iconst 1, 1) := by decide +kernel
theorem dU_feed_55 : decode cU_feed 55 = .ok (.ireturn, 1) := by decide +kernel
abbrev rmkU_feed : Room := { frames := 1, cells := 0, slots := 0, locals := 22 }
set_option maxHeartbeats 4000000 in
set_option maxRecDepth 100000 in
theorem kU_feed (l : Launch) (D : va_G) (E : ur_Ev) (h : ur_M) (q : Nat) (qm : Nat) (qi : Nat) (qr : Nat) (qd : Nat) (t : Int64) (bg : Int32) (q3 : Nat) (n : Nat) (b : Nat → Int32) (v1 : Int32) (v2 : Int32) (v3 : Int32) (v4 : Int32) (v5 : Int32) (f0 : h q = some (.inr (0, [.ref qm, .ref qi, .ref qr, .ref qd, .long t, .int bg]))) (f1 : h qi = some (.inr (2, [.ref q3, .int (nI n)]))) (f2 : h q3 = some (.inl (E.1 1, 400, .inl b))) (hn : n ≤ 400) : ur_Mi l yU_feed wsU_feed rmkU_feed D vwCl (ur_v E) [.ref q, .int v1, .int v2, .int v3, .int v4, .int v5] h (fun r h2 => r = um_b (um_room (nI n)) ∧ h2 = va_up (va_up h q3 (some (.inl (E.1 1, 400, .inl (um_fdb b n v1 v2 v3 v4 v5))))) qi (some (.inr (2, [.ref q3, .int (nI (um_fdn n))])))) 0 0 := by
  intro sz
  refine ur_of (cc := cU_feed) (maxL := 6) (ret := (some .boolean)) (by decide) rfl (Nat.le_of_ble_eq_true rfl) ?_
  intro p e s m args below meth c ls Q hsz hx hb hml hr hlocks hnm hown hts hO hK hI hQ hl
  subst hsz
  have hV := hK.1
  have hts : ∀ w ∈ ur_G, w.before args s = true := fun w hw => hts w (List.mem_cons_of_mem _ hw)
  have hZ : ur_Z E (ur_A h s.heap.size) s s.heap := hO.1
  have hown : s.vm.findClass "UnitRoom" = some m.cls := hown
  have hl : lv_has ls 6 [(0, .ref q), (1, .int v1), (2, .int v2), (3, .int v3), (4, .int v4), (5, .int v5)] := hl
  have hne : q3 ≠ qi := ur_ne f2 f1 (by intro z; simp at z)
  refine lv_aload_n hx hb dU_feed_0 rfl (lv_at hl 0 rfl) ?_
  refine va_get (D := D) (ci := 0) (v := .ref qi) (C := "UnitRoom") (T := TU) (N := 6) hx hb hts inU hown hV (ur_one hI.1 f0) 0 rfl rfl 1 (by decide) (hts _ mw171) (fun _ h9 => h9) rfl dU_feed_1 ?_
  refine ur_xi (va_runV (As := []) (rest := []) ⟨hx, hb, hml, hown, hts⟩ (kN_hasRoom l D E h qi q3 b (nI n) f1 f2 s.heap.size) (cwV 0 hts (ur_gV mw193 mw194 mw195 mw3 mw196) rfl rfl rfl (by decide +kernel) ⟨(Nat.le_of_ble_eq_true rfl), (Nat.le_of_ble_eq_true rfl)⟩) ⟨ur_blind, va_recv hV (ur_one hI.1 f1) (ci := 2) (q0 := 0) rfl rfl, ur_pre hI hO hK (fun _ _ q => q)⟩ rfl rfl hl.1 rfl (lv_room (Nat.le_of_ble_eq_true rfl)) dU_feed_4 ⟨Nat.le_of_ble_eq_true rfl, Nat.le_of_ble_eq_true rfl⟩) hI (fun r1 h1 H locs p1 hI => ?_)
  obtain ⟨er1, eh1⟩ := p1
  replace eh1 := eh1.symm; subst eh1
  refine lv_if_ne (tgt := 12) hx hb dU_feed_7 (by decide) (fun c2 => ?_) (fun c2 => ?_)
  · have k3 : (um_room (nI n)) = true := um_b1 er1 c2
    have hn9 := um_room_le hn k3
    refine lv_aload_n hx hb dU_feed_12 rfl (lv_at hl 0 rfl) ?_
    refine va_get (D := D) (ci := 0) (v := .ref qi) (C := "UnitRoom") (T := TU) (N := 6) hx hb hts inU hown hV (ur_one hI.1 f0) 0 rfl rfl 1 (by decide) (hts _ mw171) (fun _ h9 => h9) rfl dU_feed_13 ?_
    refine lv_iload_n hx hb dU_feed_16 rfl (lv_at hl 1 rfl) ?_
    refine ur_xv (va_runV (As := [.int v1]) (rest := []) ⟨hx, hb, hml, hown, hts⟩ (kN_append l D E h qi q3 b n v1 f1 f2 (by first | assumption | omega | decide) H.size) (cwV 1 hts (ur_gV mw197 mw198 mw199 mw3 mw200) rfl rfl rfl (by decide +kernel) ⟨(Nat.le_of_ble_eq_true rfl), (Nat.le_of_ble_eq_true rfl)⟩) ⟨ur_blind, va_recv hV (ur_one hI.1 f1) (ci := 2) (q0 := 0) rfl rfl, ur_pre hI hO hK (fun _ _ q => q)⟩ rfl rfl hl.1 rfl (lv_room (Nat.le_of_ble_eq_true rfl)) dU_feed_17 ⟨Nat.le_of_ble_eq_true rfl, Nat.le_of_ble_eq_true rfl⟩) hI (fun h4 H locs p4 hI => ?_)
    have eh4 := p4
    have fq5 : h4 q = some (.inr (0, [.ref qm, .ref qi, .ref qr, .ref qd, .long t, .int bg])) := by rw [eh4]; exact ((va_up_ne _ _ (ur_ne f0 f1 (by intro z; simp at z))).trans ((va_up_ne _ _ (ur_ne f0 f2 (by intro z; simp at z))).trans f0))
    have fq6 : h4 qi = some (.inr (2, [.ref q3, .int (nI (n + 1 + 1 + 1 + 1))])) := by rw [eh4]; exact (va_up_self _ _ _)
    have fq7 : h4 q3 = some (.inl (E.1 1, 400, .inl (um_app b n v1))) := by rw [eh4]; exact ((va_up_ne _ _ hne).trans (va_up_self _ _ _))
    refine lv_aload_n hx hb dU_feed_20 rfl (lv_at hl 0 rfl) ?_
    refine va_get (D := D) (ci := 0) (v := .ref qi) (C := "UnitRoom") (T := TU) (N := 6) hx hb hts inU hown hV (ur_one hI.1 fq5) 0 rfl rfl 1 (by decide) (hts _ mw171) (fun _ h9 => h9) rfl dU_feed_21 ?_
    refine lv_iload_n hx hb dU_feed_24 rfl (lv_at hl 2 rfl) ?_
    refine ur_xv (va_runV (As := [.int v2]) (rest := []) ⟨hx, hb, hml, hown, hts⟩ (kN_append l D E h4 qi q3 (um_app b n v1) (n + 1 + 1 + 1 + 1) v2 fq6 fq7 (by first | assumption | omega | decide) H.size) (cwV 1 hts (ur_gV mw197 mw198 mw199 mw3 mw200) rfl rfl rfl (by decide +kernel) ⟨(Nat.le_of_ble_eq_true rfl), (Nat.le_of_ble_eq_true rfl)⟩) ⟨ur_blind, va_recv hV (ur_one hI.1 fq6) (ci := 2) (q0 := 0) rfl rfl, ur_pre hI hO hK (fun _ _ q => q)⟩ rfl rfl hl.1 rfl (lv_room (Nat.le_of_ble_eq_true rfl)) dU_feed_25 ⟨Nat.le_of_ble_eq_true rfl, Nat.le_of_ble_eq_true rfl⟩) hI (fun h8 H locs p8 hI => ?_)
    have eh8 := p8
    have fq9 : h8 q = some (.inr (0, [.ref qm, .ref qi, .ref qr, .ref qd, .long t, .int bg])) := by rw [eh8]; exact ((va_up_ne _ _ (ur_ne fq5 fq6 (by intro z; simp at z))).trans ((va_up_ne _ _ (ur_ne fq5 fq7 (by intro z; simp at z))).trans fq5))
    have fq10 : h8 qi = some (.inr (2, [.ref q3, .int (nI ((n + 1 + 1 + 1 + 1) + 1 + 1 + 1 + 1))])) := by rw [eh8]; exact (va_up_self _ _ _)
    have fq11 : h8 q3 = some (.inl (E.1 1, 400, .inl (um_app (um_app b n v1) (n + 1 + 1 + 1 + 1) v2))) := by rw [eh8]; exact ((va_up_ne _ _ hne).trans (va_up_self _ _ _))
    refine lv_aload_n hx hb dU_feed_28 rfl (lv_at hl 0 rfl) ?_
    refine va_get (D := D) (ci := 0) (v := .ref qi) (C := "UnitRoom") (T := TU) (N := 6) hx hb hts inU hown hV (ur_one hI.1 fq9) 0 rfl rfl 1 (by decide) (hts _ mw171) (fun _ h9 => h9) rfl dU_feed_29 ?_
    refine lv_iload_n hx hb dU_feed_32 rfl (lv_at hl 3 rfl) ?_
    refine ur_xv (va_runV (As := [.int v3]) (rest := []) ⟨hx, hb, hml, hown, hts⟩ (kN_append l D E h8 qi q3 (um_app (um_app b n v1) (n + 1 + 1 + 1 + 1) v2) ((n + 1 + 1 + 1 + 1) + 1 + 1 + 1 + 1) v3 fq10 fq11 (by first | assumption | omega | decide) H.size) (cwV 1 hts (ur_gV mw197 mw198 mw199 mw3 mw200) rfl rfl rfl (by decide +kernel) ⟨(Nat.le_of_ble_eq_true rfl), (Nat.le_of_ble_eq_true rfl)⟩) ⟨ur_blind, va_recv hV (ur_one hI.1 fq10) (ci := 2) (q0 := 0) rfl rfl, ur_pre hI hO hK (fun _ _ q => q)⟩ rfl rfl hl.1 rfl (lv_room (Nat.le_of_ble_eq_true rfl)) dU_feed_33 ⟨Nat.le_of_ble_eq_true rfl, Nat.le_of_ble_eq_true rfl⟩) hI (fun h12 H locs p12 hI => ?_)
    have eh12 := p12
    have fq13 : h12 q = some (.inr (0, [.ref qm, .ref qi, .ref qr, .ref qd, .long t, .int bg])) := by rw [eh12]; exact ((va_up_ne _ _ (ur_ne fq9 fq10 (by intro z; simp at z))).trans ((va_up_ne _ _ (ur_ne fq9 fq11 (by intro z; simp at z))).trans fq9))
    have fq14 : h12 qi = some (.inr (2, [.ref q3, .int (nI (((n + 1 + 1 + 1 + 1) + 1 + 1 + 1 + 1) + 1 + 1 + 1 + 1))])) := by rw [eh12]; exact (va_up_self _ _ _)
    have fq15 : h12 q3 = some (.inl (E.1 1, 400, .inl (um_app (um_app (um_app b n v1) (n + 1 + 1 + 1 + 1) v2) ((n + 1 + 1 + 1 + 1) + 1 + 1 + 1 + 1) v3))) := by rw [eh12]; exact ((va_up_ne _ _ hne).trans (va_up_self _ _ _))
    refine lv_aload_n hx hb dU_feed_36 rfl (lv_at hl 0 rfl) ?_
    refine va_get (D := D) (ci := 0) (v := .ref qi) (C := "UnitRoom") (T := TU) (N := 6) hx hb hts inU hown hV (ur_one hI.1 fq13) 0 rfl rfl 1 (by decide) (hts _ mw171) (fun _ h9 => h9) rfl dU_feed_37 ?_
    refine lv_iload hx hb dU_feed_40 (lv_at hl 4 rfl) ?_
    refine ur_xv (va_runV (As := [.int v4]) (rest := []) ⟨hx, hb, hml, hown, hts⟩ (kN_append l D E h12 qi q3 (um_app (um_app (um_app b n v1) (n + 1 + 1 + 1 + 1) v2) ((n + 1 + 1 + 1 + 1) + 1 + 1 + 1 + 1) v3) (((n + 1 + 1 + 1 + 1) + 1 + 1 + 1 + 1) + 1 + 1 + 1 + 1) v4 fq14 fq15 (by first | assumption | omega | decide) H.size) (cwV 1 hts (ur_gV mw197 mw198 mw199 mw3 mw200) rfl rfl rfl (by decide +kernel) ⟨(Nat.le_of_ble_eq_true rfl), (Nat.le_of_ble_eq_true rfl)⟩) ⟨ur_blind, va_recv hV (ur_one hI.1 fq14) (ci := 2) (q0 := 0) rfl rfl, ur_pre hI hO hK (fun _ _ q => q)⟩ rfl rfl hl.1 rfl (lv_room (Nat.le_of_ble_eq_true rfl)) dU_feed_42 ⟨Nat.le_of_ble_eq_true rfl, Nat.le_of_ble_eq_true rfl⟩) hI (fun h16 H locs p16 hI => ?_)
    have eh16 := p16
    have fq17 : h16 q = some (.inr (0, [.ref qm, .ref qi, .ref qr, .ref qd, .long t, .int bg])) := by rw [eh16]; exact ((va_up_ne _ _ (ur_ne fq13 fq14 (by intro z; simp at z))).trans ((va_up_ne _ _ (ur_ne fq13 fq15 (by intro z; simp at z))).trans fq13))
    have fq18 : h16 qi = some (.inr (2, [.ref q3, .int (nI ((((n + 1 + 1 + 1 + 1) + 1 + 1 + 1 + 1) + 1 + 1 + 1 + 1) + 1 + 1 + 1 + 1))])) := by rw [eh16]; exact (va_up_self _ _ _)
    have fq19 : h16 q3 = some (.inl (E.1 1, 400, .inl (um_app (um_app (um_app (um_app b n v1) (n + 1 + 1 + 1 + 1) v2) ((n + 1 + 1 + 1 + 1) + 1 + 1 + 1 + 1) v3) (((n + 1 + 1 + 1 + 1) + 1 + 1 + 1 + 1) + 1 + 1 + 1 + 1) v4))) := by rw [eh16]; exact ((va_up_ne _ _ hne).trans (va_up_self _ _ _))
    refine lv_aload_n hx hb dU_feed_45 rfl (lv_at hl 0 rfl) ?_
    refine va_get (D := D) (ci := 0) (v := .ref qi) (C := "UnitRoom") (T := TU) (N := 6) hx hb hts inU hown hV (ur_one hI.1 fq17) 0 rfl rfl 1 (by decide) (hts _ mw171) (fun _ h9 => h9) rfl dU_feed_46 ?_
    refine lv_iload hx hb dU_feed_49 (lv_at hl 5 rfl) ?_
    refine ur_xv (va_runV (As := [.int v5]) (rest := []) ⟨hx, hb, hml, hown, hts⟩ (kN_append l D E h16 qi q3 (um_app (um_app (um_app (um_app b n v1) (n + 1 + 1 + 1 + 1) v2) ((n + 1 + 1 + 1 + 1) + 1 + 1 + 1 + 1) v3) (((n + 1 + 1 + 1 + 1) + 1 + 1 + 1 + 1) + 1 + 1 + 1 + 1) v4) ((((n + 1 + 1 + 1 + 1) + 1 + 1 + 1 + 1) + 1 + 1 + 1 + 1) + 1 + 1 + 1 + 1) v5 fq18 fq19 (by first | assumption | omega | decide) H.size) (cwV 1 hts (ur_gV mw197 mw198 mw199 mw3 mw200) rfl rfl rfl (by decide +kernel) ⟨(Nat.le_of_ble_eq_true rfl), (Nat.le_of_ble_eq_true rfl)⟩) ⟨ur_blind, va_recv hV (ur_one hI.1 fq18) (ci := 2) (q0 := 0) rfl rfl, ur_pre hI hO hK (fun _ _ q => q)⟩ rfl rfl hl.1 rfl (lv_room (Nat.le_of_ble_eq_true rfl)) dU_feed_51 ⟨Nat.le_of_ble_eq_true rfl, Nat.le_of_ble_eq_true rfl⟩) hI (fun h20 H locs p20 hI => ?_)
    have eh20 := p20
    have fq21 : h20 q = some (.inr (0, [.ref qm, .ref qi, .ref qr, .ref qd, .long t, .int bg])) := by rw [eh20]; exact ((va_up_ne _ _ (ur_ne fq17 fq18 (by intro z; simp at z))).trans ((va_up_ne _ _ (ur_ne fq17 fq19 (by intro z; simp at z))).trans fq17))
    have fq22 : h20 qi = some (.inr (2, [.ref q3, .int (nI (((((n + 1 + 1 + 1 + 1) + 1 + 1 + 1 + 1) + 1 + 1 + 1 + 1) + 1 + 1 + 1 + 1) + 1 + 1 + 1 + 1))])) := by rw [eh20]; exact (va_up_self _ _ _)
    have fq23 : h20 q3 = some (.inl (E.1 1, 400, .inl (um_app (um_app (um_app (um_app (um_app b n v1) (n + 1 + 1 + 1 + 1) v2) ((n + 1 + 1 + 1 + 1) + 1 + 1 + 1 + 1) v3) (((n + 1 + 1 + 1 + 1) + 1 + 1 + 1 + 1) + 1 + 1 + 1 + 1) v4) ((((n + 1 + 1 + 1 + 1) + 1 + 1 + 1 + 1) + 1 + 1 + 1 + 1) + 1 + 1 + 1 + 1) v5))) := by rw [eh20]; exact ((va_up_ne _ _ hne).trans (va_up_self _ _ _))
    refine lv_iconst (v := 1) hx hb dU_feed_54 (by decide) ?_
    exact ur_rz hx hb hr hlocks hI hQ rfl ⟨(by rw [k3]; rfl), (by rw [eh20, eh16, eh12, eh8, eh4, ur_alt hne, ur_alt hne, ur_alt hne, ur_alt hne, show um_fdb b n v1 v2 v3 v4 v5 = um_fd b n v1 v2 v3 v4 v5 by simp [um_fdb, k3], show um_fdn n = n + 20 by simp [um_fdn, k3]]; rfl)⟩ dU_feed_55
  · have k24 : (um_room (nI n)) = false := um_b0 er1 c2
    refine lv_iconst (v := 0) hx hb dU_feed_10 (by decide) ?_
    exact ur_rz hx hb hr hlocks hI hQ rfl ⟨(by rw [k24]; rfl), (by rw [show um_fdb b n v1 v2 v3 v4 v5 = b by simp [um_fdb, k24], show um_fdn n = n by simp [um_fdn, k24], ur_same f2]; exact (ur_same f1).symm)⟩ dU_feed_11
theorem dU_end_0 : decode cU_end 0 = .ok (.aload_n 0, 1) := by decide +kernel
theorem dU_end_1 : decode cU_end 1 = .ok (.getfield 19, 3) := by decide +kernel
theorem dU_end_4 : decode cU_end 4 = .ok (.iload_n 1, 1) := by decide +kernel
theorem dU_end_5 : decode cU_end 5 = .ok (.invokevirtual 63, 3) := by decide +kernel
theorem dU_end_8 : decode cU_end 8 = .ok (.ireturn, 1) := by decide +kernel
abbrev rmkU_end : Room := { frames := 1, cells := 0, slots := 0, locals := 21 }
set_option maxHeartbeats 4000000 in
set_option maxRecDepth 100000 in
theorem kU_end (l : Launch) (D : va_G) (E : ur_Ev) (h : ur_M) (q : Nat) (qm : Nat) (qi : Nat) (qr : Nat) (qd : Nat) (t : Int64) (bg : Int32) (q3 : Nat) (x : Int32) (n : Int32) (f0 : h q = some (.inr (0, [.ref qm, .ref qi, .ref qr, .ref qd, .long t, .int bg]))) (f1 : h qi = some (.inr (2, [.ref q3, .int x])))  : ur_Mi l yU_end wsU_end rmkU_end D vwCl (ur_v E) [.ref q, .int n] h (fun r h2 => r = um_b (um_cutok x n) ∧ h2 = va_up h qi (some (.inr (2, [.ref q3, .int (um_cutn x n)])))) 0 0 := by
  intro sz
  refine ur_of (cc := cU_end) (maxL := 2) (ret := (some .boolean)) (by decide) rfl (Nat.le_of_ble_eq_true rfl) ?_
  intro p e s m args below meth c ls Q hsz hx hb hml hr hlocks hnm hown hts hO hK hI hQ hl
  subst hsz
  have hV := hK.1
  have hts : ∀ w ∈ ur_G, w.before args s = true := fun w hw => hts w (List.mem_cons_of_mem _ hw)
  have hZ : ur_Z E (ur_A h s.heap.size) s s.heap := hO.1
  have hown : s.vm.findClass "UnitRoom" = some m.cls := hown
  have hl : lv_has ls 2 [(0, .ref q), (1, .int n)] := hl
  refine lv_aload_n hx hb dU_end_0 rfl (lv_at hl 0 rfl) ?_
  refine va_get (D := D) (ci := 0) (v := .ref qi) (C := "UnitRoom") (T := TU) (N := 6) hx hb hts inU hown hV (ur_one hI.1 f0) 0 rfl rfl 1 (by decide) (hts _ mw171) (fun _ h9 => h9) rfl dU_end_1 ?_
  refine lv_iload_n hx hb dU_end_4 rfl (lv_at hl 1 rfl) ?_
  refine ur_xi (va_runV (As := [.int n]) (rest := []) ⟨hx, hb, hml, hown, hts⟩ (kN_cut l D E h qi q3 x n f1 s.heap.size) (cwV 1 hts (ur_gV mw205 mw206 mw207 mw3 mw208) rfl rfl rfl (by decide +kernel) ⟨(Nat.le_of_ble_eq_true rfl), (Nat.le_of_ble_eq_true rfl)⟩) ⟨ur_blind, va_recv hV (ur_one hI.1 f1) (ci := 2) (q0 := 0) rfl rfl, ur_pre hI hO hK (fun _ _ q => q)⟩ rfl rfl hl.1 rfl (lv_room (Nat.le_of_ble_eq_true rfl)) dU_end_5 ⟨Nat.le_of_ble_eq_true rfl, Nat.le_of_ble_eq_true rfl⟩) hI (fun r1 h1 H locs p1 hI => ?_)
  obtain ⟨er1, eh1⟩ := p1
  have fq2 : h1 q = some (.inr (0, [.ref qm, .ref qi, .ref qr, .ref qd, .long t, .int bg])) := by rw [eh1]; exact ((va_up_ne _ _ (ur_ne f0 f1 (by intro z; simp at z))).trans f0)
  have fq3 : h1 qi = some (.inr (2, [.ref q3, .int (um_cutn x n)])) := by rw [eh1]; exact (va_up_self _ _ _)
  exact ur_rz hx hb hr hlocks hI hQ (by rw [er1]; exact um_b_nar _) ⟨er1, eh1⟩ dU_end_8
theorem dU_set_0 : decode cU_set 0 = .ok (.aload_n 0, 1) := by decide +kernel
theorem dU_set_1 : decode cU_set 1 = .ok (.getfield 10, 3) := by decide +kernel
theorem dU_set_4 : decode cU_set 4 = .ok (.iload_n 1, 1) := by decide +kernel
theorem dU_set_5 : decode cU_set 5 = .ok (.iconst 1, 1) := by decide +kernel
theorem dU_set_6 : decode cU_set 6 = .ok (.invokevirtual 67, 3) := by decide +kernel
theorem dU_set_9 : decode cU_set 9 = .ok (.ifCond .eq 15, 3) := by decide +kernel
theorem dU_set_12 : decode cU_set 12 = .ok (.iload_n 2, 1) := by decide +kernel
theorem dU_set_13 : decode cU_set 13 = .ok (.ldc 71, 2) := by decide +kernel
theorem dU_set_15 : decode cU_set 15 = .ok (.if_icmp .le 9, 3) := by decide +kernel
theorem dU_set_18 : decode cU_set 18 = .ok (.iload_n 2, 1) := by decide +kernel
theorem dU_set_19 : decode cU_set 19 = .ok (.ldc 72, 2) := by decide +kernel
theorem dU_set_21 : decode cU_set 21 = .ok (.if_icmp .lt 5, 3) := by decide +kernel
theorem dU_set_24 : decode cU_set 24 = .ok (.iconst 0, 1) := by decide +kernel
theorem dU_set_25 : decode cU_set 25 = .ok (.ireturn, 1) := by decide +kernel
theorem dU_set_26 : decode cU_set 26 = .ok (.aload_n 0, 1) := by decide +kernel
theorem dU_set_27 : decode cU_set 27 = .ok (.getfield 10, 3) := by decide +kernel
theorem dU_set_30 : decode cU_set 30 = .ok (.iload_n 1, 1) := by decide +kernel
theorem dU_set_31 : decode cU_set 31 = .ok (.iload_n 3, 1) := by decide +kernel
theorem dU_set_32 : decode cU_set 32 = .ok (.ifCond .eq 12, 3) := by decide +kernel
theorem dU_set_35 : decode cU_set 35 = .ok (.iload_n 2, 1) := by decide +kernel
theorem dU_set_36 : decode cU_set 36 = .ok (.ifCond .ne 8, 3) := by decide +kernel
theorem dU_set_39 : decode cU_set 39 = .ok (.ldc 73, 2) := by decide +kernel
theorem dU_set_41 : decode cU_set 41 = .ok (.goto 4, 3) := by decide +kernel
theorem dU_set_44 : decode cU_set 44 = .ok (.iload_n 2, 1) := by decide +kernel
theorem dU_set_45 : decode cU_set 45 = .ok (.invokevirtual 74, 3) := by decide +kernel
theorem dU_set_48 : decode cU_set 48 = .ok (.iconst 1, 1) := by decide +kernel
theorem dU_set_49 : decode cU_set 49 = .ok (.ireturn, 1) := by decide +kernel
abbrev rmkU_set : Room := { frames := 2, cells := 0, slots := 0, locals := 44 }
set_option maxHeartbeats 4000000 in
set_option maxRecDepth 100000 in
theorem kU_set (l : Launch) (D : va_G) (E : ur_Ev) (h : ur_M) (q : Nat) (qm : Nat) (qi : Nat) (qr : Nat) (qd : Nat) (t : Int64) (bg : Int32) (q1 : Nat) (g : Nat → Int32) (a : Int32) (v : Int32) (z : Int32) (f0 : h q = some (.inr (0, [.ref qm, .ref qi, .ref qr, .ref qd, .long t, .int bg]))) (f1 : h qm = some (.inr (1, [.ref q1]))) (f2 : h q1 = some (.inl (E.1 0, 4000, .inl g)))  : ur_Mi l yU_set wsU_set rmkU_set D vwCl (ur_v E) [.ref q, .int a, .int v, .int z] h (fun r h2 => r = um_b (um_setok a v) ∧ h2 = va_up h q1 (some (.inl (E.1 0, 4000, .inl (um_set g a v z))))) 0 0 := by
  intro sz
  refine ur_of (cc := cU_set) (maxL := 4) (ret := (some .boolean)) (by decide) rfl (Nat.le_of_ble_eq_true rfl) ?_
  intro p e s m args below meth c ls Q hsz hx hb hml hr hlocks hnm hown hts hO hK hI hQ hl
  subst hsz
  have hV := hK.1
  have hts : ∀ w ∈ ur_G, w.before args s = true := fun w hw => hts w (List.mem_cons_of_mem _ hw)
  have hZ : ur_Z E (ur_A h s.heap.size) s s.heap := hO.1
  have hown : s.vm.findClass "UnitRoom" = some m.cls := hown
  have hl : lv_has ls 4 [(0, .ref q), (1, .int a), (2, .int v), (3, .int z)] := hl
  refine lv_aload_n hx hb dU_set_0 rfl (lv_at hl 0 rfl) ?_
  refine va_get (D := D) (ci := 0) (v := .ref qm) (C := "UnitRoom") (T := TU) (N := 6) hx hb hts inU hown hV (ur_one hI.1 f0) 0 rfl rfl 0 (by decide) (hts _ mw170) (fun _ h9 => h9) rfl dU_set_1 ?_
  refine lv_iload_n hx hb dU_set_4 rfl (lv_at hl 1 rfl) ?_
  refine lv_iconst (v := 1) hx hb dU_set_5 (by decide) ?_
  refine ur_xi (va_runV (As := [.int a, .int 1]) (rest := []) ⟨hx, hb, hml, hown, hts⟩ (kM_h l D E h qm q1 g a 1 f1 f2 s.heap.size) (cwV 2 hts (ur_gV mw213 mw214 mw215 mw2 mw216) rfl rfl rfl (by decide +kernel) ⟨(Nat.le_of_ble_eq_true rfl), (Nat.le_of_ble_eq_true rfl)⟩) ⟨ur_blind, va_recv hV (ur_one hI.1 f1) (ci := 1) (q0 := 0) rfl rfl, ur_pre hI hO hK (fun _ _ q => q)⟩ rfl rfl hl.1 rfl (lv_room (Nat.le_of_ble_eq_true rfl)) dU_set_6 ⟨Nat.le_of_ble_eq_true rfl, Nat.le_of_ble_eq_true rfl⟩) hI (fun r1 h1 H locs p1 hI => ?_)
  obtain ⟨er1, eh1⟩ := p1
  replace eh1 := eh1.symm; subst eh1
  refine lv_if_eq (tgt := 24) hx hb dU_set_9 (by decide) (fun c2 => ?_) (fun c2 => ?_)
  · have k3 : (um_holds a 1) = false := um_b0 er1 c2
    refine lv_iconst (v := 0) hx hb dU_set_24 (by decide) ?_
    exact ur_rz hx hb hr hlocks hI hQ rfl ⟨(by simp [um_setok, k3]; rfl), (by rw [show um_set g a v z = g by simp [um_set, um_setok, k3]]; exact (ur_same f2).symm)⟩ dU_set_25
  · have k4 : (um_holds a 1) = true := um_b1 er1 c2
    refine lv_iload_n hx hb dU_set_12 rfl (lv_at hl 2 rfl) ?_
    refine lv_ldc (v := (-1073741824)) hx hb hown (hts _ mw217) dU_set_13 ?_
    refine lv_icmp_le (tgt := 24) hx hb dU_set_15 (by decide) (fun c5 => ?_) (fun c5 => ?_)
    · refine lv_iconst (v := 0) hx hb dU_set_24 (by decide) ?_
      exact ur_rz hx hb hr hlocks hI hQ rfl ⟨(by simp [um_setok, k4, c5]; rfl), (by rw [show um_set g a v z = g by simp [um_set, um_setok, k4, c5]]; exact (ur_same f2).symm)⟩ dU_set_25
    · refine lv_iload_n hx hb dU_set_18 rfl (lv_at hl 2 rfl) ?_
      refine lv_ldc (v := 1073741824) hx hb hown (hts _ mw218) dU_set_19 ?_
      refine lv_icmp_lt (tgt := 26) hx hb dU_set_21 (by decide) (fun c6 => ?_) (fun c6 => ?_)
      · refine lv_aload_n hx hb dU_set_26 rfl (lv_at hl 0 rfl) ?_
        refine va_get (D := D) (ci := 0) (v := .ref qm) (C := "UnitRoom") (T := TU) (N := 6) hx hb hts inU hown hV (ur_one hI.1 f0) 0 rfl rfl 0 (by decide) (hts _ mw170) (fun _ h9 => h9) rfl dU_set_27 ?_
        refine lv_iload_n hx hb dU_set_30 rfl (lv_at hl 1 rfl) ?_
        refine lv_iload_n hx hb dU_set_31 rfl (lv_at hl 3 rfl) ?_
        refine lv_if_eq (tgt := 44) hx hb dU_set_32 (by decide) (fun c7 => ?_) (fun c7 => ?_)
        · refine lv_iload_n hx hb dU_set_44 rfl (lv_at hl 2 rfl) ?_
          refine ur_xv (va_runV (As := [.int a, .int v]) (rest := []) ⟨hx, hb, hml, hown, hts⟩ (kM_put l D E h qm q1 g a v f1 f2 H.size) (cwV 2 hts (ur_gV mw220 mw221 mw222 mw2 mw223) rfl rfl rfl (by decide +kernel) ⟨(Nat.le_of_ble_eq_true rfl), (Nat.le_of_ble_eq_true rfl)⟩) ⟨ur_blind, va_recv hV (ur_one hI.1 f1) (ci := 1) (q0 := 0) rfl rfl, ur_pre hI hO hK (fun _ _ q => q)⟩ rfl rfl hl.1 rfl (lv_room (Nat.le_of_ble_eq_true rfl)) dU_set_45 ⟨Nat.le_of_ble_eq_true rfl, Nat.le_of_ble_eq_true rfl⟩) hI (fun h8 H locs p8 hI => ?_)
          have eh8 := p8
          have fq9 : h8 q = some (.inr (0, [.ref qm, .ref qi, .ref qr, .ref qd, .long t, .int bg])) := by rw [eh8]; exact ((va_up_ne _ _ (ur_ne f0 f2 (by intro z; simp at z))).trans f0)
          have fq10 : h8 qm = some (.inr (1, [.ref q1])) := by rw [eh8]; exact ((va_up_ne _ _ (ur_ne f1 f2 (by intro z; simp at z))).trans f1)
          have fq11 : h8 q1 = some (.inl (E.1 0, 4000, .inl (um_put g a v))) := by rw [eh8]; exact (va_up_self _ _ _)
          refine lv_iconst (v := 1) hx hb dU_set_48 (by decide) ?_
          exact ur_rz hx hb hr hlocks hI hQ rfl ⟨(by rw [(show um_setok a v = true by unfold um_setok; rw [if_pos k4, if_neg c5, if_pos c6])]; rfl), (by rw [eh8, show um_set g a v z = um_put g a (um_setv v z) by unfold um_set; rw [if_pos (show um_setok a v = true by unfold um_setok; rw [if_pos k4, if_neg c5, if_pos c6])], show um_setv v z = v by unfold um_setv; rw [if_pos c7]])⟩ dU_set_49
        · refine lv_iload_n hx hb dU_set_35 rfl (lv_at hl 2 rfl) ?_
          refine lv_if_ne (tgt := 44) hx hb dU_set_36 (by decide) (fun c12 => ?_) (fun c12 => ?_)
          · refine lv_iload_n hx hb dU_set_44 rfl (lv_at hl 2 rfl) ?_
            refine ur_xv (va_runV (As := [.int a, .int v]) (rest := []) ⟨hx, hb, hml, hown, hts⟩ (kM_put l D E h qm q1 g a v f1 f2 H.size) (cwV 2 hts (ur_gV mw220 mw221 mw222 mw2 mw223) rfl rfl rfl (by decide +kernel) ⟨(Nat.le_of_ble_eq_true rfl), (Nat.le_of_ble_eq_true rfl)⟩) ⟨ur_blind, va_recv hV (ur_one hI.1 f1) (ci := 1) (q0 := 0) rfl rfl, ur_pre hI hO hK (fun _ _ q => q)⟩ rfl rfl hl.1 rfl (lv_room (Nat.le_of_ble_eq_true rfl)) dU_set_45 ⟨Nat.le_of_ble_eq_true rfl, Nat.le_of_ble_eq_true rfl⟩) hI (fun h13 H locs p13 hI => ?_)
            have eh13 := p13
            have fq14 : h13 q = some (.inr (0, [.ref qm, .ref qi, .ref qr, .ref qd, .long t, .int bg])) := by rw [eh13]; exact ((va_up_ne _ _ (ur_ne f0 f2 (by intro z; simp at z))).trans f0)
            have fq15 : h13 qm = some (.inr (1, [.ref q1])) := by rw [eh13]; exact ((va_up_ne _ _ (ur_ne f1 f2 (by intro z; simp at z))).trans f1)
            have fq16 : h13 q1 = some (.inl (E.1 0, 4000, .inl (um_put g a v))) := by rw [eh13]; exact (va_up_self _ _ _)
            refine lv_iconst (v := 1) hx hb dU_set_48 (by decide) ?_
            exact ur_rz hx hb hr hlocks hI hQ rfl ⟨(by rw [(show um_setok a v = true by unfold um_setok; rw [if_pos k4, if_neg c5, if_pos c6])]; rfl), (by rw [eh13, show um_set g a v z = um_put g a (um_setv v z) by unfold um_set; rw [if_pos (show um_setok a v = true by unfold um_setok; rw [if_pos k4, if_neg c5, if_pos c6])], show um_setv v z = v by unfold um_setv; rw [if_neg c7, if_neg c12]])⟩ dU_set_49
          · refine lv_ldc (v := (-2147483648)) hx hb hown (hts _ mw219) dU_set_39 ?_
            refine lv_goto (tgt := 45) hx hb dU_set_41 (by decide) ?_
            refine ur_xv (va_runV (As := [.int a, .int (-2147483648)]) (rest := []) ⟨hx, hb, hml, hown, hts⟩ (kM_put l D E h qm q1 g a (-2147483648) f1 f2 H.size) (cwV 2 hts (ur_gV mw220 mw221 mw222 mw2 mw223) rfl rfl rfl (by decide +kernel) ⟨(Nat.le_of_ble_eq_true rfl), (Nat.le_of_ble_eq_true rfl)⟩) ⟨ur_blind, va_recv hV (ur_one hI.1 f1) (ci := 1) (q0 := 0) rfl rfl, ur_pre hI hO hK (fun _ _ q => q)⟩ rfl rfl hl.1 rfl (lv_room (Nat.le_of_ble_eq_true rfl)) dU_set_45 ⟨Nat.le_of_ble_eq_true rfl, Nat.le_of_ble_eq_true rfl⟩) hI (fun h17 H locs p17 hI => ?_)
            have eh17 := p17
            have fq18 : h17 q = some (.inr (0, [.ref qm, .ref qi, .ref qr, .ref qd, .long t, .int bg])) := by rw [eh17]; exact ((va_up_ne _ _ (ur_ne f0 f2 (by intro z; simp at z))).trans f0)
            have fq19 : h17 qm = some (.inr (1, [.ref q1])) := by rw [eh17]; exact ((va_up_ne _ _ (ur_ne f1 f2 (by intro z; simp at z))).trans f1)
            have fq20 : h17 q1 = some (.inl (E.1 0, 4000, .inl (um_put g a (-2147483648)))) := by rw [eh17]; exact (va_up_self _ _ _)
            refine lv_iconst (v := 1) hx hb dU_set_48 (by decide) ?_
            exact ur_rz hx hb hr hlocks hI hQ rfl ⟨(by rw [(show um_setok a v = true by unfold um_setok; rw [if_pos k4, if_neg c5, if_pos c6])]; rfl), (by rw [eh17, show um_set g a v z = um_put g a (um_setv v z) by unfold um_set; rw [if_pos (show um_setok a v = true by unfold um_setok; rw [if_pos k4, if_neg c5, if_pos c6])], show um_setv v z = (-2147483648) by unfold um_setv; rw [if_neg c7, if_pos c12]])⟩ dU_set_49
      · refine lv_iconst (v := 0) hx hb dU_set_24 (by decide) ?_
        exact ur_rz hx hb hr hlocks hI hQ rfl ⟨(by simp [um_setok, k4, c5, c6]; rfl), (by rw [show um_set g a v z = g by simp [um_set, um_setok, k4, c5, c6]]; exact (ur_same f2).symm)⟩ dU_set_25
theorem dU_fill_0 : decode cU_fill 0 = .ok (.iload_n 2, 1) := by decide +kernel
theorem dU_fill_1 : decode cU_fill 1 = .ok (.iconst 1, 1) := by decide +kernel
theorem dU_fill_2 : decode cU_fill 2 = .ok (.if_icmp .lt 22, 3) := by decide +kernel
theorem dU_fill_5 : decode cU_fill 5 = .ok (.iload_n 2, 1) := by decide +kernel
theorem dU_fill_6 : decode cU_fill 6 = .ok (.sipush 200, 3) := by decide +kernel
theorem dU_fill_9 : decode cU_fill 9 = .ok (.if_icmp .gt 15, 3) := by decide +kernel
theorem dU_fill_12 : decode cU_fill 12 = .ok (.aload_n 0, 1) := by decide +kernel
theorem dU_fill_13 : decode cU_fill 13 = .ok (.getfield 10, 3) := by decide +kernel
theorem dU_fill_16 : decode cU_fill 16 = .ok (.iload_n 1, 1) := by decide +kernel
theorem dU_fill_17 : decode cU_fill 17 = .ok (.iload_n 2, 1) := by decide +kernel
theorem dU_fill_18 : decode cU_fill 18 = .ok (.invokevirtual 67, 3) := by decide +kernel
theorem dU_fill_21 : decode cU_fill 21 = .ok (.ifCond .ne 5, 3) := by decide +kernel
theorem dU_fill_24 : decode cU_fill 24 = .ok (.iconst 0, 1) := by decide +kernel
theorem dU_fill_25 : decode cU_fill 25 = .ok (.ireturn, 1) := by decide +kernel
theorem dU_fill_26 : decode cU_fill 26 = .ok (.iconst 0, 1) := by decide +kernel
theorem dU_fill_27 : decode cU_fill 27 = .ok (.istore 4, 2) := by decide +kernel
theorem dU_fill_29 : decode cU_fill 29 = .ok (.iload 4, 2) := by decide +kernel
theorem dU_fill_31 : decode cU_fill 31 = .ok (.iload_n 2, 1) := by decide +kernel
theorem dU_fill_32 : decode cU_fill 32 = .ok (.if_icmp .ge 31, 3) := by decide +kernel
theorem dU_fill_35 : decode cU_fill 35 = .ok (.aload_n 0, 1) := by decide +kernel
theorem dU_fill_36 : decode cU_fill 36 = .ok (.getfield 10, 3) := by decide +kernel
theorem dU_fill_39 : decode cU_fill 39 = .ok (.iload_n 1, 1) := by decide +kernel
theorem dU_fill_40 : decode cU_fill 40 = .ok (.iload 4, 2) := by decide +kernel
theorem dU_fill_42 : decode cU_fill 42 = .ok (.iadd, 1) := by decide +kernel
theorem dU_fill_43 : decode cU_fill 43 = .ok (.iload_n 3, 1) := by decide +kernel
theorem dU_fill_44 : decode cU_fill 44 = .ok (.sipush 12345, 3) := by decide +kernel
theorem dU_fill_47 : decode cU_fill 47 = .ok (.iload 4, 2) := by decide +kernel
theorem dU_fill_49 : decode cU_fill 49 = .ok (.imul, 1) := by decide +kernel
theorem dU_fill_50 : decode cU_fill 50 = .ok (.iadd, 1) := by decide +kernel
theorem dU_fill_51 : decode cU_fill 51 = .ok (.ldc 78, 2) := by decide +kernel
theorem dU_fill_53 : decode cU_fill 53 = .ok (.iand, 1) := by decide +kernel
theorem dU_fill_54 : decode cU_fill 54 = .ok (.invokevirtual 74, 3) := by decide +kernel
theorem dU_fill_57 : decode cU_fill 57 = .ok (.iinc 4 1, 3) := by decide +kernel
theorem dU_fill_60 : decode cU_fill 60 = .ok (.goto (-31), 3) := by decide +kernel
theorem dU_fill_63 : decode cU_fill 63 = .ok (.iconst 1, 1) := by decide +kernel
theorem dU_fill_64 : decode cU_fill 64 = .ok (.ireturn, 1) := by decide +kernel
abbrev rmkU_fill : Room := { frames := 2, cells := 0, slots := 0, locals := 44 }
set_option maxHeartbeats 4000000 in
set_option maxRecDepth 100000 in
theorem kU_fill (l : Launch) (D : va_G) (E : ur_Ev) (h : ur_M) (q : Nat) (qm : Nat) (qi : Nat) (qr : Nat) (qd : Nat) (t : Int64) (bg : Int32) (q1 : Nat) (g : Nat → Int32) (a : Int32) (n : Int32) (sd : Int32) (f0 : h q = some (.inr (0, [.ref qm, .ref qi, .ref qr, .ref qd, .long t, .int bg]))) (f1 : h qm = some (.inr (1, [.ref q1]))) (f2 : h q1 = some (.inl (E.1 0, 4000, .inl g)))  : ur_Mi l yU_fill wsU_fill rmkU_fill D vwCl (ur_v E) [.ref q, .int a, .int n, .int sd] h (fun r h2 => r = um_b (um_fillok a n) ∧ h2 = va_up h q1 (some (.inl (E.1 0, 4000, .inl (um_fill g a n sd))))) 0 0 := by
  intro sz
  refine ur_of (cc := cU_fill) (maxL := 5) (ret := (some .boolean)) (by decide) rfl (Nat.le_of_ble_eq_true rfl) ?_
  intro p e s m args below meth c ls Q hsz hx hb hml hr hlocks hnm hown hts hO hK hI hQ hl
  subst hsz
  have hV := hK.1
  have hts : ∀ w ∈ ur_G, w.before args s = true := fun w hw => hts w (List.mem_cons_of_mem _ hw)
  have hZ : ur_Z E (ur_A h s.heap.size) s s.heap := hO.1
  have hown : s.vm.findClass "UnitRoom" = some m.cls := hown
  have hl : lv_has ls 5 [(0, .ref q), (1, .int a), (2, .int n), (3, .int sd)] := hl
  refine lv_iload_n hx hb dU_fill_0 rfl (lv_at hl 2 rfl) ?_
  refine lv_iconst (v := 1) hx hb dU_fill_1 (by decide) ?_
  refine lv_icmp_lt (tgt := 24) hx hb dU_fill_2 (by decide) (fun c1 => ?_) (fun c1 => ?_)
  · refine lv_iconst (v := 0) hx hb dU_fill_24 (by decide) ?_
    exact ur_rz hx hb hr hlocks hI hQ rfl ⟨(by simp only [um_fillok, c1, ↓reduceIte]; rfl), (by rw [show um_fill g a n sd = g by simp [um_fill, um_fillok, c1]]; exact (ur_same f2).symm)⟩ dU_fill_25
  · refine lv_iload_n hx hb dU_fill_5 rfl (lv_at hl 2 rfl) ?_
    refine lv_sipush (v := 200) hx hb dU_fill_6 (by decide) ?_
    refine lv_icmp_gt (tgt := 24) hx hb dU_fill_9 (by decide) (fun c2 => ?_) (fun c2 => ?_)
    · refine lv_iconst (v := 0) hx hb dU_fill_24 (by decide) ?_
      exact ur_rz hx hb hr hlocks hI hQ rfl ⟨(by simp only [um_fillok, c1, c2, ↓reduceIte]; rfl), (by rw [show um_fill g a n sd = g by simp [um_fill, um_fillok, c1, c2]]; exact (ur_same f2).symm)⟩ dU_fill_25
    · refine lv_aload_n hx hb dU_fill_12 rfl (lv_at hl 0 rfl) ?_
      refine va_get (D := D) (ci := 0) (v := .ref qm) (C := "UnitRoom") (T := TU) (N := 6) hx hb hts inU hown hV (ur_one hI.1 f0) 0 rfl rfl 0 (by decide) (hts _ mw170) (fun _ h9 => h9) rfl dU_fill_13 ?_
      refine lv_iload_n hx hb dU_fill_16 rfl (lv_at hl 1 rfl) ?_
      refine lv_iload_n hx hb dU_fill_17 rfl (lv_at hl 2 rfl) ?_
      refine ur_xi (va_runV (As := [.int a, .int n]) (rest := []) ⟨hx, hb, hml, hown, hts⟩ (kM_h l D E h qm q1 g a n f1 f2 s.heap.size) (cwV 2 hts (ur_gV mw213 mw214 mw215 mw2 mw216) rfl rfl rfl (by decide +kernel) ⟨(Nat.le_of_ble_eq_true rfl), (Nat.le_of_ble_eq_true rfl)⟩) ⟨ur_blind, va_recv hV (ur_one hI.1 f1) (ci := 1) (q0 := 0) rfl rfl, ur_pre hI hO hK (fun _ _ q => q)⟩ rfl rfl hl.1 rfl (lv_room (Nat.le_of_ble_eq_true rfl)) dU_fill_18 ⟨Nat.le_of_ble_eq_true rfl, Nat.le_of_ble_eq_true rfl⟩) hI (fun r3 h3 H locs p3 hI => ?_)
      obtain ⟨er3, eh3⟩ := p3
      replace eh3 := eh3.symm; subst eh3
      refine lv_if_ne (tgt := 26) hx hb dU_fill_21 (by decide) (fun c4 => ?_) (fun c4 => ?_)
      · have k5 : (um_holds a n) = true := um_b1 er3 c4
        obtain ⟨nn, hnn, hn9⟩ := um_200 c1 c2
        refine lv_iconst (v := 0) hx hb dU_fill_26 (by decide) ?_
        refine lv_istore (lv' := [(4, .int 0), (0, .ref q), (1, .int a), (2, .int n), (3, .int sd)]) hx hb dU_fill_27 hl (by decide) rfl (fun ls hl => ?_)
        have lpn6 : ∀ (n6 : Nat) (k : Nat) (hn6 : ur_M) (H : Heap) (locs : List Loc) (ls : Array Slot), nn - k < n6 → (k ≤ nn) → hn6 = va_up h q1 (some (.inl (E.1 0, 4000, .inl (um_fillF g a sd k)))) → ur_I D vwCl (ur_A h s.heap.size) s.heap hn6 H locs → lv_has ls 5 [(0, .ref q), (1, .int a), (2, .int n), (3, .int sd), (4, .int (nI k))] → W p l e rmkU_fill s m args below meth c H locs 0 0 Q (F0 m 29 ls []) := by
          intro n6
          induction n6 with
          | zero => intro k hn6 H locs ls hnn6; exact absurd hnn6 (Nat.not_lt_zero _)
          | succ n6 ihn6 =>
            intro k hn6 H locs ls hnn6 hk ehn6 hI hl
            have fq7 : hn6 q = some (.inr (0, [.ref qm, .ref qi, .ref qr, .ref qd, .long t, .int bg])) := by rw [ehn6]; exact (va_up_ne _ _ (ur_ne f0 f2 (by intro z; simp at z))).trans f0
            have fq8 : hn6 qm = some (.inr (1, [.ref q1])) := by rw [ehn6]; exact (va_up_ne _ _ (ur_ne f1 f2 (by intro z; simp at z))).trans f1
            have fq9 : hn6 q1 = some (.inl (E.1 0, 4000, .inl (um_fillF g a sd k))) := by rw [ehn6]; exact va_up_self _ _ _
            refine lv_iload hx hb dU_fill_29 (lv_at hl 4 rfl) ?_
            refine lv_iload_n hx hb dU_fill_31 rfl (lv_at hl 2 rfl) ?_
            refine lv_icmp_ge (tgt := 63) hx hb dU_fill_32 (by decide) (fun c10 => ?_) (fun c10 => ?_)
            · have he9 : k = nn := Nat.le_antisymm hk (Nat.not_lt.mp (fun z9 => by rw [hn9] at c10; exact nI_ge z9 (by omega) c10))
              refine lv_iconst (v := 1) hx hb dU_fill_63 (by decide) ?_
              exact ur_rz hx hb hr hlocks hI hQ rfl ⟨(by simp only [um_fillok, c1, c2, k5, ↓reduceIte]; rfl), (by rw [ehn6, show um_fill g a n sd = um_fillF g a sd n.toNatClampNeg by simp only [um_fill, um_fillok, c1, c2, k5, ↓reduceIte], hn9, nI_clamp (by omega), he9])⟩ dU_fill_64
            · have hlt : k < nn := Nat.not_le.mp (fun z9 => c10 (by rw [hn9]; exact nI_le z9 (by omega)))
              refine lv_aload_n hx hb dU_fill_35 rfl (lv_at hl 0 rfl) ?_
              refine va_get (D := D) (ci := 0) (v := .ref qm) (C := "UnitRoom") (T := TU) (N := 6) hx hb hts inU hown hV (ur_one hI.1 fq7) 0 rfl rfl 0 (by decide) (hts _ mw170) (fun _ h9 => h9) rfl dU_fill_36 ?_
              refine lv_iload_n hx hb dU_fill_39 rfl (lv_at hl 1 rfl) ?_
              refine lv_iload hx hb dU_fill_40 (lv_at hl 4 rfl) ?_
              refine lv_iadd hx hb dU_fill_42 ?_
              refine lv_iload_n hx hb dU_fill_43 rfl (lv_at hl 3 rfl) ?_
              refine lv_sipush (v := 12345) hx hb dU_fill_44 (by decide) ?_
              refine lv_iload hx hb dU_fill_47 (lv_at hl 4 rfl) ?_
              refine lv_imul hx hb dU_fill_49 ?_
              refine lv_iadd hx hb dU_fill_50 ?_
              refine lv_ldc (v := 1073741823) hx hb hown (hts _ mw229) dU_fill_51 ?_
              refine lv_iand hx hb dU_fill_53 ?_
              refine ur_xv (va_runV (As := [.int (a + (nI k)), .int ((sd + (12345 * (nI k))) &&& 1073741823)]) (rest := []) ⟨hx, hb, hml, hown, hts⟩ (kM_put l D E hn6 qm q1 (um_fillF g a sd k) (a + (nI k)) ((sd + (12345 * (nI k))) &&& 1073741823) fq8 fq9 H.size) (cwV 2 hts (ur_gV mw220 mw221 mw222 mw2 mw223) rfl rfl rfl (by decide +kernel) ⟨(Nat.le_of_ble_eq_true rfl), (Nat.le_of_ble_eq_true rfl)⟩) ⟨ur_blind, va_recv hV (ur_one hI.1 fq8) (ci := 1) (q0 := 0) rfl rfl, ur_pre hI hO hK (fun _ _ q => q)⟩ rfl rfl hl.1 rfl (lv_room (Nat.le_of_ble_eq_true rfl)) dU_fill_54 ⟨Nat.le_of_ble_eq_true rfl, Nat.le_of_ble_eq_true rfl⟩) hI (fun h11 H locs p11 hI => ?_)
              have eh11 := p11
              have fq12 : h11 q = some (.inr (0, [.ref qm, .ref qi, .ref qr, .ref qd, .long t, .int bg])) := by rw [eh11]; exact ((va_up_ne _ _ (ur_ne fq7 fq9 (by intro z; simp at z))).trans fq7)
              have fq13 : h11 qm = some (.inr (1, [.ref q1])) := by rw [eh11]; exact ((va_up_ne _ _ (ur_ne fq8 fq9 (by intro z; simp at z))).trans fq8)
              have fq14 : h11 q1 = some (.inl (E.1 0, 4000, .inl (um_put (um_fillF g a sd k) (a + (nI k)) ((sd + (12345 * (nI k))) &&& 1073741823)))) := by rw [eh11]; exact (va_up_self _ _ _)
              refine lv_iinc (v := ((nI k) + 1)) (lv' := [(4, .int ((nI k) + 1)), (0, .ref q), (1, .int a), (2, .int n), (3, .int sd)]) hx hb dU_fill_57 hl (k := 4) rfl rfl (by decide) rfl (fun ls hl => ?_)
              refine lv_goto (tgt := 29) hx hb dU_fill_60 (by decide) ?_
              rw [nI_1] at hl
              exact ihn6 (k + 1) h11 H locs ls (by omega) hlt (by rw [eh11, ehn6, bx_uu]; rfl) hI (lv_sub hl [1, 2, 3, 4, 0] rfl)
        exact lpn6 _ 0 h _ _ ls (Nat.lt_succ_self _) (Nat.zero_le _) ((ur_same f2).symm) hI (lv_sub hl [1, 2, 3, 4, 0] rfl)
      · have k15 : (um_holds a n) = false := um_b0 er3 c4
        refine lv_iconst (v := 0) hx hb dU_fill_24 (by decide) ?_
        exact ur_rz hx hb hr hlocks hI hQ rfl ⟨(by simp only [um_fillok, c1, c2, k15, ↓reduceIte]; rfl), (by rw [show um_fill g a n sd = g by simp [um_fill, um_fillok, c1, c2, k15]]; exact (ur_same f2).symm)⟩ dU_fill_25
theorem dU_word_0 : decode cU_word 0 = .ok (.aload_n 0, 1) := by decide +kernel
theorem dU_word_1 : decode cU_word 1 = .ok (.getfield 10, 3) := by decide +kernel
theorem dU_word_4 : decode cU_word 4 = .ok (.iload_n 1, 1) := by decide +kernel
theorem dU_word_5 : decode cU_word 5 = .ok (.invokevirtual 79, 3) := by decide +kernel
theorem dU_word_8 : decode cU_word 8 = .ok (.ireturn, 1) := by decide +kernel
abbrev rmkU_word : Room := { frames := 2, cells := 0, slots := 0, locals := 43 }
set_option maxHeartbeats 4000000 in
set_option maxRecDepth 100000 in
theorem kU_word (l : Launch) (D : va_G) (E : ur_Ev) (h : ur_M) (q : Nat) (qm : Nat) (qi : Nat) (qr : Nat) (qd : Nat) (t : Int64) (bg : Int32) (q1 : Nat) (g : Nat → Int32) (a : Int32) (f0 : h q = some (.inr (0, [.ref qm, .ref qi, .ref qr, .ref qd, .long t, .int bg]))) (f1 : h qm = some (.inr (1, [.ref q1]))) (f2 : h q1 = some (.inl (E.1 0, 4000, .inl g)))  : ur_Mi l yU_word wsU_word rmkU_word D vwCl (ur_v E) [.ref q, .int a] h (fun r h2 => r = um_at g a ∧ h2 = h) 0 0 := by
  intro sz
  refine ur_of (cc := cU_word) (maxL := 2) (ret := (some .int)) (by decide) rfl (Nat.le_of_ble_eq_true rfl) ?_
  intro p e s m args below meth c ls Q hsz hx hb hml hr hlocks hnm hown hts hO hK hI hQ hl
  subst hsz
  have hV := hK.1
  have hts : ∀ w ∈ ur_G, w.before args s = true := fun w hw => hts w (List.mem_cons_of_mem _ hw)
  have hZ : ur_Z E (ur_A h s.heap.size) s s.heap := hO.1
  have hown : s.vm.findClass "UnitRoom" = some m.cls := hown
  have hl : lv_has ls 2 [(0, .ref q), (1, .int a)] := hl
  refine lv_aload_n hx hb dU_word_0 rfl (lv_at hl 0 rfl) ?_
  refine va_get (D := D) (ci := 0) (v := .ref qm) (C := "UnitRoom") (T := TU) (N := 6) hx hb hts inU hown hV (ur_one hI.1 f0) 0 rfl rfl 0 (by decide) (hts _ mw170) (fun _ h9 => h9) rfl dU_word_1 ?_
  refine lv_iload_n hx hb dU_word_4 rfl (lv_at hl 1 rfl) ?_
  refine ur_xi (va_runV (As := [.int a]) (rest := []) ⟨hx, hb, hml, hown, hts⟩ (kM_at l D E h qm q1 g a f1 f2 s.heap.size) (cwV 1 hts (ur_gV mw234 mw235 mw236 mw2 mw237) rfl rfl rfl (by decide +kernel) ⟨(Nat.le_of_ble_eq_true rfl), (Nat.le_of_ble_eq_true rfl)⟩) ⟨ur_blind, va_recv hV (ur_one hI.1 f1) (ci := 1) (q0 := 0) rfl rfl, ur_pre hI hO hK (fun _ _ q => q)⟩ rfl rfl hl.1 rfl (lv_room (Nat.le_of_ble_eq_true rfl)) dU_word_5 ⟨Nat.le_of_ble_eq_true rfl, Nat.le_of_ble_eq_true rfl⟩) hI (fun r1 h1 H locs p1 hI => ?_)
  obtain ⟨er1, eh1⟩ := p1
  replace eh1 := eh1.symm; subst eh1
  replace er1 := er1.symm; subst er1
  exact ur_ri hx hb hr hlocks hI hQ ⟨(by first | (simp only [↓reduceIte]; done) | (simp only [↓reduceIte]; rfl) | rfl), rfl⟩ dU_word_8
theorem dU_card_0 : decode cU_card 0 = .ok (.aload_n 0, 1) := by decide +kernel
theorem dU_card_1 : decode cU_card 1 = .ok (.getfield 26, 3) := by decide +kernel
theorem dU_card_4 : decode cU_card 4 = .ok (.invokevirtual 118, 3) := by decide +kernel
theorem dU_card_7 : decode cU_card 7 = .ok (.istore_n 1, 1) := by decide +kernel
theorem dU_card_8 : decode cU_card 8 = .ok (.iload_n 1, 1) := by decide +kernel
theorem dU_card_9 : decode cU_card 9 = .ok (.ifCond .eq 14, 3) := by decide +kernel
theorem dU_card_12 : decode cU_card 12 = .ok (.aload_n 0, 1) := by decide +kernel
theorem dU_card_13 : decode cU_card 13 = .ok (.getfield 26, 3) := by decide +kernel
theorem dU_card_16 : decode cU_card 16 = .ok (.aload_n 0, 1) := by decide +kernel
theorem dU_card_17 : decode cU_card 17 = .ok (.getfield 19, 3) := by decide +kernel
theorem dU_card_20 : decode cU_card 20 = .ok (.invokevirtual 119, 3) := by decide +kernel
theorem dU_card_23 : decode cU_card 23 = .ok (.aload_n 0, 1) := by decide +kernel
theorem dU_card_24 : decode cU_card 24 = .ok (.getfield 19, 3) := by decide +kernel
theorem dU_card_27 : decode cU_card 27 = .ok (.iconst 0, 1) := by decide +kernel
theorem dU_card_28 : decode cU_card 28 = .ok (.invokevirtual 63, 3) := by decide +kernel
theorem dU_card_31 : decode cU_card 31 = .ok (.pop, 1) := by decide +kernel
theorem dU_card_32 : decode cU_card 32 = .ok (.iload_n 1, 1) := by decide +kernel
theorem dU_card_33 : decode cU_card 33 = .ok (.ifCond .eq 13, 3) := by decide +kernel
theorem dU_card_36 : decode cU_card 36 = .ok (.aload_n 0, 1) := by decide +kernel
theorem dU_card_37 : decode cU_card 37 = .ok (.getfield 26, 3) := by decide +kernel
theorem dU_card_40 : decode cU_card 40 = .ok (.invokevirtual 123, 3) := by decide +kernel
theorem dU_card_43 : decode cU_card 43 = .ok (.goto 4, 3) := by decide +kernel
theorem dU_card_46 : decode cU_card 46 = .ok (.iconst (-1), 1) := by decide +kernel
theorem dU_card_47 : decode cU_card 47 = .ok (.ireturn, 1) := by decide +kernel
abbrev rmkU_card : Room := { frames := 8, cells := 0, slots := 0, locals := 179 }
set_option maxHeartbeats 4000000 in
set_option maxRecDepth 100000 in
theorem kU_card (l : Launch) (D : va_G) (E : ur_Ev) (h : ur_M) (q : Nat) (qm : Nat) (qi : Nat) (qd : Nat) (t : Int64) (bg : Int32) (qr : Nat) (qb : Nat) (qc : Nat) (a : Nat) (b : Nat) (q3 : Nat) (n : Nat) (du : Int32) (br : Int32) (tu : Int32) (ta : Int32) (fa : Int64) (cs : Nat → Int32) (bs : Nat → Int32) (f0 : h q = some (.inr (0, [.ref qm, .ref qi, .ref qr, .ref qd, .long t, .int bg]))) (f1 : h qr = some (.inr (5, [.int 16, .ref qb, .int du, .long fa, .int br, .int tu, .int ta, .ref qc, .int (nI a), .int (nI b)]))) (f2 : h qc = some (.inl (E.1 0, 1600, .inl cs))) (f3 : h qi = some (.inr (2, [.ref q3, .int (nI n)]))) (f4 : h q3 = some (.inl (E.1 1, 400, .inl bs))) (ha1 : a < 100) (hb1 : b < 100) (hn : n ≤ 400) : ur_Mi l yU_card wsU_card rmkU_card D vwCl (ur_v E) [.ref q] h (fun r h2 => r = nI (b + 1) ∧ h2 = va_up (va_up (va_up h qc (some (.inl (E.1 0, 1600, .inl (um_acc cs bs n ((a + b) % 100 * 16) 16))))) qr (some (.inr (5, [.int 16, .ref qb, .int du, .long fa, .int br, .int tu, .int ta, .ref qc, .int (nI a), .int (nI (b + 1))])))) qi (some (.inr (2, [.ref q3, .int (um_cutn (nI n) 0)])))) 0 0 := by
  intro sz
  refine ur_of (cc := cU_card) (maxL := 2) (ret := (some .int)) (by decide) rfl (Nat.le_of_ble_eq_true rfl) ?_
  intro p e s m args below meth c ls Q hsz hx hb hml hr hlocks hnm hown hts hO hK hI hQ hl
  subst hsz
  have hV := hK.1
  have hts : ∀ w ∈ ur_G, w.before args s = true := fun w hw => hts w (List.mem_cons_of_mem _ hw)
  have hZ : ur_Z E (ur_A h s.heap.size) s s.heap := hO.1
  have hown : s.vm.findClass "UnitRoom" = some m.cls := hown
  have hl : lv_has ls 2 [(0, .ref q)] := hl
  refine lv_aload_n hx hb dU_card_0 rfl (lv_at hl 0 rfl) ?_
  refine va_get (D := D) (ci := 0) (v := .ref qr) (C := "UnitRoom") (T := TU) (N := 6) hx hb hts inU hown hV (ur_one hI.1 f0) 0 rfl rfl 2 (by decide) (hts _ mw172) (fun _ h9 => h9) rfl dU_card_1 ?_
  refine ur_xi (va_runV (As := []) (rest := []) ⟨hx, hb, hml, hown, hts⟩ (kR_hasRoom l D E h qr qb qc a b du br tu ta fa f1 s.heap.size) (cwV 0 hts (ur_gV mw460 mw461 mw462 mw5 mw463) rfl rfl rfl (by decide +kernel) ⟨(Nat.le_of_ble_eq_true rfl), (Nat.le_of_ble_eq_true rfl)⟩) ⟨ur_blind, va_recv hV (ur_one hI.1 f1) (ci := 5) (q0 := 0) rfl rfl, ur_pre hI hO hK (fun _ _ q => q)⟩ rfl rfl hl.1 rfl (lv_room (Nat.le_of_ble_eq_true rfl)) dU_card_4 ⟨Nat.le_of_ble_eq_true rfl, Nat.le_of_ble_eq_true rfl⟩) hI (fun r1 h1 H locs p1 hI => ?_)
  obtain ⟨er1, eh1⟩ := p1
  replace eh1 := eh1.symm; subst eh1
  refine lv_istore_n (lv' := [(1, .int r1), (0, .ref q)]) hx hb dU_card_7 rfl hl (by decide) rfl (fun ls hl => ?_)
  refine lv_iload_n hx hb dU_card_8 rfl (lv_at hl 0 rfl) ?_
  refine lv_if_eq (tgt := 23) hx hb dU_card_9 (by decide) (fun c2 => absurd c2 (by rw [er1, um_hasR_t hb1]; decide)) (fun c2 => ?_)
  refine lv_aload_n hx hb dU_card_12 rfl (lv_at hl 1 rfl) ?_
  refine va_get (D := D) (ci := 0) (v := .ref qr) (C := "UnitRoom") (T := TU) (N := 6) hx hb hts inU hown hV (ur_one hI.1 f0) 0 rfl rfl 2 (by decide) (hts _ mw172) (fun _ h9 => h9) rfl dU_card_13 ?_
  refine lv_aload_n hx hb dU_card_16 rfl (lv_at hl 1 rfl) ?_
  refine va_get (D := D) (ci := 0) (v := .ref qi) (C := "UnitRoom") (T := TU) (N := 6) hx hb hts inU hown hV (ur_one hI.1 f0) 0 rfl rfl 1 (by decide) (hts _ mw171) (fun _ h9 => h9) rfl dU_card_17 ?_
  refine ur_xv (va_runV (As := [.ref qi]) (rest := []) ⟨hx, hb, hml, hown, hts⟩ (kR_accept l D E h qr qb qc a b du br tu ta fa qi q3 n cs bs f1 f2 f3 f4 (by first | assumption | omega | decide) (by first | assumption | omega | decide) (by first | assumption | omega | decide) H.size) (cwV 1 hts (ur_gV mw464 mw465 mw466 mw5 mw467) rfl rfl rfl (by decide +kernel) ⟨(Nat.le_of_ble_eq_true rfl), (Nat.le_of_ble_eq_true rfl)⟩) ⟨ur_blind, va_recv hV (ur_one hI.1 f1) (ci := 5) (q0 := 0) rfl rfl, ur_pre hI hO hK (fun _ _ q => q)⟩ rfl rfl hl.1 rfl (lv_room (Nat.le_of_ble_eq_true rfl)) dU_card_20 ⟨Nat.le_of_ble_eq_true rfl, Nat.le_of_ble_eq_true rfl⟩) hI (fun h3 H locs p3 hI => ?_)
  have eh3 := p3
  have fq4 : h3 q = some (.inr (0, [.ref qm, .ref qi, .ref qr, .ref qd, .long t, .int bg])) := by rw [eh3]; exact ((va_up_ne _ _ (ur_ne f0 f1 (by intro z; simp at z))).trans ((va_up_ne _ _ (ur_ne f0 f2 (by intro z; simp at z))).trans f0))
  have fq5 : h3 qr = some (.inr (5, [.int 16, .ref qb, .int du, .long fa, .int br, .int tu, .int ta, .ref qc, .int (nI a), .int (nI (b + 1))])) := by rw [eh3]; exact (va_up_self _ _ _)
  have fq6 : h3 qc = some (.inl (E.1 0, 1600, .inl (um_acc cs bs n ((a + b) % 100 * 16) 16))) := by rw [eh3]; exact ((va_up_ne _ _ (ur_ne f2 f1 (by intro z; simp at z))).trans (va_up_self _ _ _))
  have fq7 : h3 qi = some (.inr (2, [.ref q3, .int (nI n)])) := by rw [eh3]; exact ((va_up_ne _ _ (ur_ne f3 f1 (by intro z; simp at z))).trans ((va_up_ne _ _ (ur_ne f3 f2 (by intro z; simp at z))).trans f3))
  have fq8 : h3 q3 = some (.inl (E.1 1, 400, .inl bs)) := by rw [eh3]; exact ((va_up_ne _ _ (ur_ne f4 f1 (by intro z; simp at z))).trans ((va_up_ne _ _ (ur_ne f4 f2 (by intro z; simp at z))).trans f4))
  refine lv_aload_n hx hb dU_card_23 rfl (lv_at hl 1 rfl) ?_
  refine va_get (D := D) (ci := 0) (v := .ref qi) (C := "UnitRoom") (T := TU) (N := 6) hx hb hts inU hown hV (ur_one hI.1 fq4) 0 rfl rfl 1 (by decide) (hts _ mw171) (fun _ h9 => h9) rfl dU_card_24 ?_
  refine lv_iconst (v := 0) hx hb dU_card_27 (by decide) ?_
  refine ur_xi (va_runV (As := [.int 0]) (rest := []) ⟨hx, hb, hml, hown, hts⟩ (kN_cut l D E h3 qi q3 (nI n) 0 fq7 H.size) (cwV 1 hts (ur_gV mw205 mw206 mw207 mw3 mw208) rfl rfl rfl (by decide +kernel) ⟨(Nat.le_of_ble_eq_true rfl), (Nat.le_of_ble_eq_true rfl)⟩) ⟨ur_blind, va_recv hV (ur_one hI.1 fq7) (ci := 2) (q0 := 0) rfl rfl, ur_pre hI hO hK (fun _ _ q => q)⟩ rfl rfl hl.1 rfl (lv_room (Nat.le_of_ble_eq_true rfl)) dU_card_28 ⟨Nat.le_of_ble_eq_true rfl, Nat.le_of_ble_eq_true rfl⟩) hI (fun r9 h9 H locs p9 hI => ?_)
  obtain ⟨er9, eh9⟩ := p9
  have fq10 : h9 q = some (.inr (0, [.ref qm, .ref qi, .ref qr, .ref qd, .long t, .int bg])) := by rw [eh9]; exact ((va_up_ne _ _ (ur_ne fq4 fq7 (by intro z; simp at z))).trans fq4)
  have fq11 : h9 qr = some (.inr (5, [.int 16, .ref qb, .int du, .long fa, .int br, .int tu, .int ta, .ref qc, .int (nI a), .int (nI (b + 1))])) := by rw [eh9]; exact ((va_up_ne _ _ (ur_ne fq5 fq7 (by intro z; simp at z))).trans fq5)
  have fq12 : h9 qc = some (.inl (E.1 0, 1600, .inl (um_acc cs bs n ((a + b) % 100 * 16) 16))) := by rw [eh9]; exact ((va_up_ne _ _ (ur_ne fq6 fq7 (by intro z; simp at z))).trans fq6)
  have fq13 : h9 qi = some (.inr (2, [.ref q3, .int (um_cutn (nI n) 0)])) := by rw [eh9]; exact (va_up_self _ _ _)
  have fq14 : h9 q3 = some (.inl (E.1 1, 400, .inl bs)) := by rw [eh9]; exact ((va_up_ne _ _ (ur_ne fq8 fq7 (by intro z; simp at z))).trans fq8)
  refine lv_pop hx hb dU_card_31 rfl ?_
  refine lv_iload_n hx hb dU_card_32 rfl (lv_at hl 0 rfl) ?_
  refine lv_if_eq (tgt := 46) hx hb dU_card_33 (by decide) (fun c15 => absurd c15 (by rw [er1, um_hasR_t hb1]; decide)) (fun c15 => ?_)
  refine lv_aload_n hx hb dU_card_36 rfl (lv_at hl 1 rfl) ?_
  refine va_get (D := D) (ci := 0) (v := .ref qr) (C := "UnitRoom") (T := TU) (N := 6) hx hb hts inU hown hV (ur_one hI.1 fq10) 0 rfl rfl 2 (by decide) (hts _ mw172) (fun _ h9 => h9) rfl dU_card_37 ?_
  refine ur_xi (va_runV (As := []) (rest := []) ⟨hx, hb, hml, hown, hts⟩ (kR_tell l D E h9 qr qb qc a (b + 1) du br tu ta fa fq11 H.size) (cwV 0 hts (ur_gV mw533 mw534 mw535 mw5 mw536) rfl rfl rfl (by decide +kernel) ⟨(Nat.le_of_ble_eq_true rfl), (Nat.le_of_ble_eq_true rfl)⟩) ⟨ur_blind, va_recv hV (ur_one hI.1 fq11) (ci := 5) (q0 := 0) rfl rfl, ur_pre hI hO hK (fun _ _ q => q)⟩ rfl rfl hl.1 rfl (lv_room (Nat.le_of_ble_eq_true rfl)) dU_card_40 ⟨Nat.le_of_ble_eq_true rfl, Nat.le_of_ble_eq_true rfl⟩) hI (fun r16 h16 H locs p16 hI => ?_)
  obtain ⟨er16, eh16⟩ := p16
  replace eh16 := eh16.symm; subst eh16
  replace er16 := er16.symm; subst er16
  refine lv_goto (tgt := 47) hx hb dU_card_43 (by decide) ?_
  exact ur_ri hx hb hr hlocks hI hQ ⟨rfl, (by rw [eh9, eh3])⟩ dU_card_47
abbrev rmkU_cardF : Room := { frames := 1, cells := 0, slots := 0, locals := 21 }
set_option maxHeartbeats 4000000 in
set_option maxRecDepth 100000 in
theorem kU_cardF (l : Launch) (D : va_G) (E : ur_Ev) (h : ur_M) (q : Nat) (qm : Nat) (qi : Nat) (qd : Nat) (t : Int64) (bg : Int32) (qr : Nat) (qb : Nat) (qc : Nat) (a : Nat) (b : Nat) (q3 : Nat) (n : Nat) (du : Int32) (br : Int32) (tu : Int32) (ta : Int32) (fa : Int64) (cs : Nat → Int32) (bs : Nat → Int32) (f0 : h q = some (.inr (0, [.ref qm, .ref qi, .ref qr, .ref qd, .long t, .int bg]))) (f1 : h qr = some (.inr (5, [.int 16, .ref qb, .int du, .long fa, .int br, .int tu, .int ta, .ref qc, .int (nI a), .int (nI b)]))) (f2 : h qc = some (.inl (E.1 0, 1600, .inl cs))) (f3 : h qi = some (.inr (2, [.ref q3, .int (nI n)]))) (f4 : h q3 = some (.inl (E.1 1, 400, .inl bs))) (hb1 : b = 100) (hn : n ≤ 400) : ur_Mi l yU_card wsU_card rmkU_cardF D vwCl (ur_v E) [.ref q] h (fun r h2 => r = (-1) ∧ h2 = va_up h qi (some (.inr (2, [.ref q3, .int (um_cutn (nI n) 0)])))) 0 0 := by
  intro sz
  refine ur_of (cc := cU_card) (maxL := 2) (ret := (some .int)) (by decide) rfl (Nat.le_of_ble_eq_true rfl) ?_
  intro p e s m args below meth c ls Q hsz hx hb hml hr hlocks hnm hown hts hO hK hI hQ hl
  subst hsz
  have hV := hK.1
  have hts : ∀ w ∈ ur_G, w.before args s = true := fun w hw => hts w (List.mem_cons_of_mem _ hw)
  have hZ : ur_Z E (ur_A h s.heap.size) s s.heap := hO.1
  have hown : s.vm.findClass "UnitRoom" = some m.cls := hown
  have hl : lv_has ls 2 [(0, .ref q)] := hl
  refine lv_aload_n hx hb dU_card_0 rfl (lv_at hl 0 rfl) ?_
  refine va_get (D := D) (ci := 0) (v := .ref qr) (C := "UnitRoom") (T := TU) (N := 6) hx hb hts inU hown hV (ur_one hI.1 f0) 0 rfl rfl 2 (by decide) (hts _ mw172) (fun _ h9 => h9) rfl dU_card_1 ?_
  refine ur_xi (va_runV (As := []) (rest := []) ⟨hx, hb, hml, hown, hts⟩ (kR_hasRoom l D E h qr qb qc a b du br tu ta fa f1 s.heap.size) (cwV 0 hts (ur_gV mw460 mw461 mw462 mw5 mw463) rfl rfl rfl (by decide +kernel) ⟨(Nat.le_of_ble_eq_true rfl), (Nat.le_of_ble_eq_true rfl)⟩) ⟨ur_blind, va_recv hV (ur_one hI.1 f1) (ci := 5) (q0 := 0) rfl rfl, ur_pre hI hO hK (fun _ _ q => q)⟩ rfl rfl hl.1 rfl (lv_room (Nat.le_of_ble_eq_true rfl)) dU_card_4 ⟨Nat.le_of_ble_eq_true rfl, Nat.le_of_ble_eq_true rfl⟩) hI (fun r1 h1 H locs p1 hI => ?_)
  obtain ⟨er1, eh1⟩ := p1
  replace eh1 := eh1.symm; subst eh1
  refine lv_istore_n (lv' := [(1, .int r1), (0, .ref q)]) hx hb dU_card_7 rfl hl (by decide) rfl (fun ls hl => ?_)
  refine lv_iload_n hx hb dU_card_8 rfl (lv_at hl 0 rfl) ?_
  refine lv_if_eq (tgt := 23) hx hb dU_card_9 (by decide) (fun c2 => ?_) (fun c2 => absurd c2 (by rw [er1, hb1, um_hasR_f]; decide))
  refine lv_aload_n hx hb dU_card_23 rfl (lv_at hl 1 rfl) ?_
  refine va_get (D := D) (ci := 0) (v := .ref qi) (C := "UnitRoom") (T := TU) (N := 6) hx hb hts inU hown hV (ur_one hI.1 f0) 0 rfl rfl 1 (by decide) (hts _ mw171) (fun _ h9 => h9) rfl dU_card_24 ?_
  refine lv_iconst (v := 0) hx hb dU_card_27 (by decide) ?_
  refine ur_xi (va_runV (As := [.int 0]) (rest := []) ⟨hx, hb, hml, hown, hts⟩ (kN_cut l D E h qi q3 (nI n) 0 f3 H.size) (cwV 1 hts (ur_gV mw205 mw206 mw207 mw3 mw208) rfl rfl rfl (by decide +kernel) ⟨(Nat.le_of_ble_eq_true rfl), (Nat.le_of_ble_eq_true rfl)⟩) ⟨ur_blind, va_recv hV (ur_one hI.1 f3) (ci := 2) (q0 := 0) rfl rfl, ur_pre hI hO hK (fun _ _ q => q)⟩ rfl rfl hl.1 rfl (lv_room (Nat.le_of_ble_eq_true rfl)) dU_card_28 ⟨Nat.le_of_ble_eq_true rfl, Nat.le_of_ble_eq_true rfl⟩) hI (fun r3 h3 H locs p3 hI => ?_)
  obtain ⟨er3, eh3⟩ := p3
  have fq4 : h3 q = some (.inr (0, [.ref qm, .ref qi, .ref qr, .ref qd, .long t, .int bg])) := by rw [eh3]; exact ((va_up_ne _ _ (ur_ne f0 f3 (by intro z; simp at z))).trans f0)
  have fq5 : h3 qr = some (.inr (5, [.int 16, .ref qb, .int du, .long fa, .int br, .int tu, .int ta, .ref qc, .int (nI a), .int (nI b)])) := by rw [eh3]; exact ((va_up_ne _ _ (ur_ne f1 f3 (by intro z; simp at z))).trans f1)
  have fq6 : h3 qc = some (.inl (E.1 0, 1600, .inl cs)) := by rw [eh3]; exact ((va_up_ne _ _ (ur_ne f2 f3 (by intro z; simp at z))).trans f2)
  have fq7 : h3 qi = some (.inr (2, [.ref q3, .int (um_cutn (nI n) 0)])) := by rw [eh3]; exact (va_up_self _ _ _)
  have fq8 : h3 q3 = some (.inl (E.1 1, 400, .inl bs)) := by rw [eh3]; exact ((va_up_ne _ _ (ur_ne f4 f3 (by intro z; simp at z))).trans f4)
  refine lv_pop hx hb dU_card_31 rfl ?_
  refine lv_iload_n hx hb dU_card_32 rfl (lv_at hl 0 rfl) ?_
  refine lv_if_eq (tgt := 46) hx hb dU_card_33 (by decide) (fun c9 => ?_) (fun c9 => absurd c9 (by rw [er1, hb1, um_hasR_f]; decide))
  refine lv_iconst (v := (-1)) hx hb dU_card_46 (by decide) ?_
  exact ur_ri hx hb hr hlocks hI hQ ⟨rfl, (by rw [eh3])⟩ dU_card_47
end
section
/-! the object's state S = (numbers, arrays), by places (d, j): d < 20 a unit, 20 the core; j = 0 the object, 1 what it brings, 2 its rows or cards, 3 + b row b.
Numbers of a unit: 0 bringing, 1 turn, 2 position or lines or first card, 3 cards left, 4 free at, 5 target, 6 + b length of line b; of the core: 0 begun, 1 bytes on the tape, 2 now.
a = (addresses of the places, which rows are there). -/
abbrev um_S : Type := (Nat → Nat → Nat) × (Nat → Nat → Nat → Int32)
abbrev um_Ad : Type := (Nat → Nat → Nat) × (Nat → Nat → Bool)
def um_kind (u : Nat) : Nat := if u < 4 then 0 else if u = 8 then 1 else if u = 9 then 1 else if u = 16 then 2 else if u = 17 then 3 else if u = 18 then 3 else if u = 19 then 3 else 4
def um_words (u : Nat) : Nat := if u < 10 then 100 else if u = 18 then 24 else if u = 19 then 14 else 16
def um_dur (u : Nat) : Nat := if u < 4 then 500 else if u < 10 then 400 else if u = 16 then 1000 else if u = 17 then 1500 else if u = 18 then 750 else 900
def um_ci (u : Nat) : Nat := if um_kind u = 0 then 3 else if um_kind u = 1 then 4 else if um_kind u = 2 then 5 else 6
theorem um_ci_D (u : Nat) : um_isD (um_ci u) := by
  unfold um_isD um_ci
  by_cases h0 : um_kind u = 0
  · rw [if_pos h0]; exact Or.inl rfl
  · rw [if_neg h0]
    by_cases h1 : um_kind u = 1
    · rw [if_pos h1]; exact Or.inr (Or.inl rfl)
    · rw [if_neg h1]
      by_cases h2 : um_kind u = 2
      · rw [if_pos h2]; exact Or.inr (Or.inr (Or.inl rfl))
      · rw [if_neg h2]; exact Or.inr (Or.inr (Or.inr rfl))
def um_rows (a : um_Ad) (d : Nat) : Nat → Option Nat := fun b => if a.2 d b = true then some (a.1 d (3 + b)) else none
def um_devs (a : um_Ad) : Nat → Option Nat := fun u => if um_kind u = 4 then none else some (a.1 u 0)
def um_tl (a : um_Ad) (S : um_S) (d : Nat) : List Value := if um_kind d = 0 then [.int (nI (S.1 d 2)), .ref (a.1 d 2)] else if um_kind d = 1 then [.ref (a.1 d 2)] else if um_kind d = 2 then [.ref (a.1 d 2), .int (nI (S.1 d 2)), .int (nI (S.1 d 3))] else [.ref (a.1 d 2), .int (if d = 18 then 1 else 0), .int (nI (S.1 d 2))]
def um_dev (a : um_Ad) (S : um_S) (d : Nat) : va_E := .inr (um_ci d, .int (nI (um_words d)) :: .ref (a.1 d 1) :: .int (nI (um_dur d)) :: .long (lN (S.1 d 4)) :: .int (nI (S.1 d 0)) :: .int (nI (S.1 d 1)) :: .int (nI (S.1 d 5)) :: um_tl a S d)
def um_two (E : ur_Ev) (a : um_Ad) (S : um_S) (d : Nat) : va_E := if um_kind d = 2 then .inl (E.1 0, 1600, .inl (S.2 d 2)) else if um_kind d = 3 then .inl (E.1 4, 300, .inr (.inr (.inr (.inr (um_rows a d))))) else .inl (E.1 3, 64, .inr (.inr (.inr (.inr (um_rows a d)))))
def um_row (E : ur_Ev) (S : um_S) (d b : Nat) : va_E := if um_kind d = 3 then .inl (E.1 1, S.1 d (6 + b), .inl (S.2 d (3 + b))) else .inl (E.1 0, 100, .inl (S.2 d (3 + b)))
def um_core (E : ur_Ev) (a : um_Ad) (S : um_S) (j : Nat) : Option va_E := match j with
  | 0 => some (.inr (0, [.ref (a.1 20 1), .ref (a.1 20 3), .ref (a.1 16 0), .ref (a.1 20 5), .long (lN (S.1 20 2)), .int (nI (S.1 20 0))]))
  | 1 => some (.inr (1, [.ref (a.1 20 2)]))
  | 2 => some (.inl (E.1 0, 4000, .inl (S.2 20 2)))
  | 3 => some (.inr (2, [.ref (a.1 20 4), .int (nI (S.1 20 1))]))
  | 4 => some (.inl (E.1 1, 400, .inl (S.2 20 4)))
  | 5 => some (.inl (E.1 2, 20, .inr (.inr (.inr (.inr (um_devs a))))))
  | _ => none
def um_ct (E : ur_Ev) (a : um_Ad) (S : um_S) (d j : Nat) : Option va_E := if d = 20 then um_core E a S j else if um_kind d = 4 then none else match j with
  | 0 => some (um_dev a S d)
  | 1 => some (.inl (E.1 0, um_words d, .inl (S.2 d 1)))
  | 2 => some (um_two E a S d)
  | b + 3 => if a.2 d b = true then some (um_row E S d b) else none
/-- the heap holds the state S at the addresses a -/
def um_R (E : ur_Ev) (a : um_Ad) (S : um_S) (h : ur_M) : Prop := (∀ d j e, um_ct E a S d j = some e → h (a.1 d j) = some e) ∧ (∀ d j d' j' e e', um_ct E a S d j = some e → um_ct E a S d' j' = some e' → a.1 d j = a.1 d' j' → d = d' ∧ j = j') ∧ (∀ d b, um_kind d ≤ 1 → a.2 d b = false → S.2 d (3 + b) = fun _ => 0) ∧ ∀ d b, um_kind d = 3 → b < S.1 d 2 → a.2 d b = true ∧ S.1 d (6 + b) ≤ 120
def um_Bd (S : um_S) : Prop := ∀ d k, S.1 d k < 2 ^ 31
theorem um_k20 : um_kind 20 = 4 := by decide
theorem um_d20 {d : Nat} (h : um_kind d ≠ 4) : d ≠ 20 := fun z => h (by rw [z]; exact um_k20)
theorem um_ct_core {E : ur_Ev} {a : um_Ad} {S : um_S} (j : Nat) : um_ct E a S 20 j = um_core E a S j := by
  unfold um_ct
  rw [if_pos rfl]
theorem um_ct_dev {E : ur_Ev} {a : um_Ad} {S : um_S} {d : Nat} (h : um_kind d ≠ 4) : um_ct E a S d 0 = some (um_dev a S d) := by
  unfold um_ct
  rw [if_neg (um_d20 h), if_neg h]
theorem um_ct_br {E : ur_Ev} {a : um_Ad} {S : um_S} {d : Nat} (h : um_kind d ≠ 4) : um_ct E a S d 1 = some (.inl (E.1 0, um_words d, .inl (S.2 d 1))) := by
  unfold um_ct
  rw [if_neg (um_d20 h), if_neg h]
theorem um_ct_two {E : ur_Ev} {a : um_Ad} {S : um_S} {d : Nat} (h : um_kind d ≠ 4) : um_ct E a S d 2 = some (um_two E a S d) := by
  unfold um_ct
  rw [if_neg (um_d20 h), if_neg h]
theorem um_ct_row {E : ur_Ev} {a : um_Ad} {S : um_S} {d b : Nat} (h : um_kind d ≠ 4) : um_ct E a S d (3 + b) = if a.2 d b = true then some (um_row E S d b) else none := by
  unfold um_ct
  rw [if_neg (um_d20 h), if_neg h, Nat.add_comm 3 b]
section UMR
variable {E : ur_Ev} {a : um_Ad} {S S' : um_S} {h : ur_M}
theorem um_R.core (hR : um_R E a S h) {j : Nat} {e : va_E} (he : um_core E a S j = some e) : h (a.1 20 j) = some e := hR.1 20 j e ((um_ct_core j).trans he)
theorem um_R.dev (hR : um_R E a S h) {d : Nat} (hk : um_kind d ≠ 4) : h (a.1 d 0) = some (um_dev a S d) := hR.1 d 0 _ (um_ct_dev hk)
theorem um_R.br (hR : um_R E a S h) {d : Nat} (hk : um_kind d ≠ 4) : h (a.1 d 1) = some (.inl (E.1 0, um_words d, .inl (S.2 d 1))) := hR.1 d 1 _ (um_ct_br hk)
theorem um_R.two (hR : um_R E a S h) {d : Nat} (hk : um_kind d ≠ 4) : h (a.1 d 2) = some (um_two E a S d) := hR.1 d 2 _ (um_ct_two hk)
theorem um_R.apart (hR : um_R E a S h) {d j d' j' : Nat} {e e' : va_E} (h1 : um_ct E a S d j = some e) (h2 : um_ct E a S d' j' = some e') (n : ¬ (d = d' ∧ j = j')) : a.1 d j ≠ a.1 d' j' := fun z => n (hR.2.1 d j d' j' e e' h1 h2 z)
/-- one place has other content -/
theorem um_R.put (hR : um_R E a S h) (d j : Nat) {e0 e : va_E} (h0 : um_ct E a S d j = some e0) (h1 : um_ct E a S' d j = some e) (h2 : ∀ d' j', ¬ (d' = d ∧ j' = j) → um_ct E a S' d' j' = um_ct E a S d' j') (h3 : ∀ d b, um_kind d ≤ 1 → a.2 d b = false → S'.2 d (3 + b) = fun _ => 0) (h4 : ∀ d b, um_kind d = 3 → b < S'.1 d 2 → a.2 d b = true ∧ S'.1 d (6 + b) ≤ 120) : um_R E a S' (va_up h (a.1 d j) (some e)) := by
  have old : ∀ d' j' e', um_ct E a S' d' j' = some e' → ∃ e2, um_ct E a S d' j' = some e2 := by
    intro d' j' e' q
    by_cases z : d' = d ∧ j' = j
    · exact ⟨e0, by rw [z.1, z.2]; exact h0⟩
    · exact ⟨e', by rw [← h2 d' j' z]; exact q⟩
  refine ⟨fun d' j' e' q => ?_, fun d1 j1 d2 j2 e1 e2 q1 q2 z => ?_, h3, h4⟩
  · by_cases z : d' = d ∧ j' = j
    · rw [z.1, z.2] at q ⊢
      rw [h1] at q
      cases q
      exact va_up_self _ _ _
    · rw [h2 d' j' z] at q
      exact (va_up_ne _ _ (hR.apart q h0 z)).trans (hR.1 d' j' e' q)
  · obtain ⟨x1, y1⟩ := old d1 j1 e1 q1
    obtain ⟨x2, y2⟩ := old d2 j2 e2 q2
    exact hR.2.1 d1 j1 d2 j2 x1 x2 y1 y2 z
end UMR
def um_sA (S : um_S) (d k v : Nat) : um_S := (fun x y => if x = d ∧ y = k then v else S.1 x y, S.2)
def um_sF (S : um_S) (d j : Nat) (f : Nat → Int32) : um_S := (S.1, fun x y => if x = d ∧ y = j then f else S.2 x y)
theorem um_sA_1 (S : um_S) (d k v : Nat) : (um_sA S d k v).1 d k = v := if_pos ⟨rfl, rfl⟩
theorem um_sA_n (S : um_S) {d k v x y : Nat} (h : ¬ (x = d ∧ y = k)) : (um_sA S d k v).1 x y = S.1 x y := if_neg h
theorem um_sF_1 (S : um_S) (d j : Nat) (f : Nat → Int32) : (um_sF S d j f).2 d j = f := if_pos ⟨rfl, rfl⟩
theorem um_sF_n (S : um_S) {d j x y : Nat} {f : Nat → Int32} (h : ¬ (x = d ∧ y = j)) : (um_sF S d j f).2 x y = S.2 x y := if_neg h
/-- a number of a unit changes its object alone -/
theorem um_ct_sA {E : ur_Ev} {a : um_Ad} {S : um_S} {d k v : Nat} (hd : d ≠ 20) (hk : k < 6) (d' j' : Nat) (hn : ¬ (d' = d ∧ j' = 0)) : um_ct E a (um_sA S d k v) d' j' = um_ct E a S d' j' := by
  unfold um_ct
  by_cases h20 : d' = 20
  · rw [if_pos h20, if_pos h20]
    unfold um_core
    have e : ∀ y, (um_sA S d k v).1 20 y = S.1 20 y := fun y => um_sA_n S (fun z => hd z.1.symm)
    simp only [e]
    rfl
  · rw [if_neg h20, if_neg h20]
    by_cases h4 : um_kind d' = 4
    · rw [if_pos h4, if_pos h4]
    · rw [if_neg h4, if_neg h4]
      match j', hn with
      | 0, hn =>
        have e : ∀ y, (um_sA S d k v).1 d' y = S.1 d' y := fun y => um_sA_n S (fun z => hn ⟨z.1, rfl⟩)
        show some (um_dev a (um_sA S d k v) d') = some (um_dev a S d')
        unfold um_dev um_tl
        simp only [e]
      | 1, _ => rfl
      | 2, _ => rfl
      | b + 3, _ =>
        show (if a.2 d' b = true then some (um_row E (um_sA S d k v) d' b) else none) = _
        unfold um_row
        rw [um_sA_n S (show ¬ (d' = d ∧ 6 + b = k) from fun z => by omega)]
        rfl
/-- a number of the core changes its objects alone -/
theorem um_ct_sC {E : ur_Ev} {a : um_Ad} {S : um_S} {k v j : Nat} (hk : (k = 1 ∧ j = 3) ∨ (k ≠ 1 ∧ j = 0)) (d' j' : Nat) (hn : ¬ (d' = 20 ∧ j' = j)) : um_ct E a (um_sA S 20 k v) d' j' = um_ct E a S d' j' := by
  unfold um_ct
  by_cases h20 : d' = 20
  · rw [if_pos h20, if_pos h20]
    have hj : j' ≠ j := fun z => hn ⟨h20, z⟩
    match j', hj with
    | 0, hj =>
      have hk1 : k = 1 := by
        rcases hk with q | q
        · exact q.1
        · exact absurd q.2.symm hj
      unfold um_core
      rw [um_sA_n S (show ¬ (20 = 20 ∧ 2 = k) by omega), um_sA_n S (show ¬ (20 = 20 ∧ 0 = k) by omega)]
      rfl
    | 1, _ => rfl
    | 2, _ => rfl
    | 3, hj =>
      have hk1 : k ≠ 1 := by
        rcases hk with q | q
        · exact absurd q.2.symm hj
        · exact q.1
      unfold um_core
      rw [um_sA_n S (show ¬ (20 = 20 ∧ 1 = k) by omega)]
      rfl
    | 4, _ => rfl
    | 5, _ => rfl
    | n + 6, _ => rfl
  · rw [if_neg h20, if_neg h20]
    by_cases h4 : um_kind d' = 4
    · rw [if_pos h4, if_pos h4]
    · rw [if_neg h4, if_neg h4]
      have e : ∀ y, (um_sA S 20 k v).1 d' y = S.1 d' y := fun y => um_sA_n S (fun z => h20 z.1)
      match j' with
      | 0 =>
        show some (um_dev a (um_sA S 20 k v) d') = some (um_dev a S d')
        unfold um_dev um_tl
        simp only [e]
      | 1 => rfl
      | 2 => rfl
      | b + 3 =>
        show (if a.2 d' b = true then some (um_row E (um_sA S 20 k v) d' b) else none) = _
        unfold um_row
        rw [e]
        rfl
/-- an array changes its place alone -/
theorem um_ct_sF {E : ur_Ev} {a : um_Ad} {S : um_S} {d j : Nat} {f : Nat → Int32} (d' j' : Nat) (hn : ¬ (d' = d ∧ j' = j)) : um_ct E a (um_sF S d j f) d' j' = um_ct E a S d' j' := by
  unfold um_ct
  by_cases h20 : d' = 20
  · rw [if_pos h20, if_pos h20]
    subst h20
    match j', hn with
    | 0, _ => rfl
    | 1, _ => rfl
    | 2, hn => unfold um_core; rw [um_sF_n S hn]; rfl
    | 3, _ => rfl
    | 4, hn => unfold um_core; rw [um_sF_n S hn]; rfl
    | 5, _ => rfl
    | n + 6, _ => rfl
  · rw [if_neg h20, if_neg h20]
    by_cases h4 : um_kind d' = 4
    · rw [if_pos h4, if_pos h4]
    · rw [if_neg h4, if_neg h4]
      match j', hn with
      | 0, _ => rfl
      | 1, hn => show some _ = some _; rw [um_sF_n S hn]
      | 2, hn =>
        show some (um_two E a (um_sF S d j f) d') = some (um_two E a S d')
        unfold um_two
        rw [um_sF_n S hn]
      | b + 3, hn =>
        show (if a.2 d' b = true then some (um_row E (um_sF S d j f) d' b) else none) = _
        unfold um_row
        rw [um_sF_n S (show ¬ (d' = d ∧ 3 + b = j) from fun z => hn ⟨z.1, by omega⟩)]
        rfl
end
section
/-! pure words: what is done by the time -/
def um_due (S : um_S) (u : Nat) : Bool := decide (um_kind u ≠ 4) && decide (S.1 u 0 ≠ 0) && decide (S.1 u 4 ≤ S.1 20 2)
def um_bef (S : um_S) (u v : Nat) : Bool := decide (S.1 u 4 < S.1 v 4) || (decide (S.1 u 4 = S.1 v 4) && decide (S.1 u 1 < S.1 v 1))
def um_take (S : um_S) (u : Nat) (o : Option Nat) : Bool := match o with
  | none => true
  | some v => um_bef S u v
/-- of the units below n the one that is done first -/
def um_nd (S : um_S) : Nat → Option Nat
  | 0 => none
  | u + 1 => if (um_due S u && um_take S u (um_nd S u)) = true then some u else um_nd S u
def um_dlv (S : um_S) (u : Nat) : um_S := um_sA (um_sF S 20 2 (um_cout (S.2 20 2) (S.2 u 1) (nI (S.1 u 5)) (um_words u))) u 0 0
def um_go : Nat → um_S → um_S
  | 0, S => S
  | n + 1, S => match um_nd S 20 with
    | none => S
    | some u => um_go n (um_dlv S u)
def um_goTo (S : um_S) (t : Nat) : um_S := um_go 20 (um_sA S 20 2 t)
theorem um_devs_no {a : um_Ad} {u : Nat} (h : um_kind u = 4) : um_devs a u = none := if_pos h
theorem um_devs_yes {a : um_Ad} {u : Nat} (h : ¬ um_kind u = 4) : um_devs a u = some (a.1 u 0) := if_neg h
theorem um_cmp {x y : Nat} (hx : x < 2 ^ 31) (hy : y < 2 ^ 31) : lg_cmp (lN x) (lN y) = if y < x then 1 else if x = y then 0 else -1 := by
  unfold lg_cmp
  have e1 : (lN x > lN y) ↔ y < x := lN_lt hy hx
  have e2 : (lN x = lN y) ↔ x = y := lN_eq hx hy
  by_cases h : y < x
  · rw [if_pos (e1.mpr h), if_pos h]
  · rw [if_neg (fun z => h (e1.mp z)), if_neg h]
    by_cases q : x = y
    · rw [if_pos (e2.mpr q), if_pos q]
    · rw [if_neg (fun z => q (e2.mp z)), if_neg q]
theorem um_cmp_gt {x y : Nat} (hx : x < 2 ^ 31) (hy : y < 2 ^ 31) : (0 < lg_cmp (lN x) (lN y)) ↔ y < x := by
  rw [um_cmp hx hy]
  by_cases h : y < x
  · rw [if_pos h]; exact ⟨fun _ => h, fun _ => by decide⟩
  · rw [if_neg h]
    by_cases q : x = y
    · rw [if_pos q]; exact ⟨fun z => absurd z (by decide), fun z => absurd z h⟩
    · rw [if_neg q]; exact ⟨fun z => absurd z (by decide), fun z => absurd z h⟩
theorem um_nd_f {S : um_S} {u : Nat} (h : um_due S u = false) : um_nd S (u + 1) = um_nd S u := by
  rw [um_nd, h, Bool.false_and]
  exact if_neg (by decide)
theorem um_nd_n {S : um_S} {u : Nat} (h : um_take S u (um_nd S u) = false) : um_nd S (u + 1) = um_nd S u := by
  rw [um_nd, h, Bool.and_false]
  exact if_neg (by decide)
theorem um_nd_t {S : um_S} {u : Nat} (h : um_due S u = true) (h2 : um_take S u (um_nd S u) = true) : um_nd S (u + 1) = some u := by
  rw [um_nd, h, h2]
  exact if_pos rfl
theorem um_due_4 {S : um_S} {u : Nat} (h : um_kind u = 4) : um_due S u = false := by
  unfold um_due
  rw [decide_eq_false (fun z => z h), Bool.false_and, Bool.false_and]
theorem um_due_0 {S : um_S} (hB : um_Bd S) {u : Nat} (h : nI (S.1 u 0) = 0) : um_due S u = false := by
  have : S.1 u 0 = 0 := (nI_eq (hB u 0) (by decide)).mp h
  unfold um_due
  rw [decide_eq_false (p := S.1 u 0 ≠ 0) (fun z => z this), Bool.and_false, Bool.false_and]
theorem um_due_c {S : um_S} (hB : um_Bd S) {u : Nat} (h : 0 < lg_cmp (lN (S.1 u 4)) (lN (S.1 20 2))) : um_due S u = false := by
  have := (um_cmp_gt (hB u 4) (hB 20 2)).mp h
  unfold um_due
  rw [decide_eq_false (p := S.1 u 4 ≤ S.1 20 2) (by omega), Bool.and_false]
theorem um_due_t {S : um_S} (hB : um_Bd S) {u : Nat} (hk : ¬ um_kind u = 4) (h1 : ¬ nI (S.1 u 0) = 0) (h2 : ¬ 0 < lg_cmp (lN (S.1 u 4)) (lN (S.1 20 2))) : um_due S u = true := by
  have e1 : S.1 u 0 ≠ 0 := fun z => h1 (by rw [z]; rfl)
  have e2 : S.1 u 4 ≤ S.1 20 2 := Nat.not_lt.mp (fun z => h2 ((um_cmp_gt (hB u 4) (hB 20 2)).mpr z))
  unfold um_due
  rw [decide_eq_true hk, decide_eq_true e1, decide_eq_true e2]
  rfl
theorem um_ahead_bef {S : um_S} (hB : um_Bd S) (u v : Nat) : um_ahead (lN (S.1 u 4)) (nI (S.1 u 1)) (lN (S.1 v 4)) (nI (S.1 v 1)) = um_bef S u v := by
  unfold um_ahead um_bef
  rw [um_cmp (hB u 4) (hB v 4)]
  by_cases h : S.1 v 4 < S.1 u 4
  · rw [if_pos h, if_neg (by decide), if_neg (by decide), decide_eq_false (by omega), decide_eq_false (by omega)]
    rfl
  · rw [if_neg h]
    by_cases q : S.1 u 4 = S.1 v 4
    · rw [if_pos q, if_neg (by decide), if_pos rfl, decide_eq_false (p := S.1 u 4 < S.1 v 4) (by omega), decide_eq_true q]
      by_cases z : nI (S.1 v 1) ≤ nI (S.1 u 1)
      · rw [if_pos z, decide_eq_false (by have := (nI_leI (hB v 1) (hB u 1)).mp z; omega)]
        rfl
      · rw [if_neg z, decide_eq_true (Nat.not_le.mp (fun w => z (nI_le w (hB u 1))))]
        rfl
    · rw [if_neg q, if_pos (by decide), decide_eq_true (p := S.1 u 4 < S.1 v 4) (by omega)]
      rfl
theorem um_nd_k {S : um_S} : ∀ {n v : Nat}, um_nd S n = some v → um_kind v ≠ 4 ∧ v < n ∧ um_due S v = true := by
  intro n
  induction n with
  | zero => intro v h; cases h
  | succ n ih =>
    intro v h
    by_cases q : (um_due S n && um_take S n (um_nd S n)) = true
    · rw [um_nd, if_pos q] at h
      cases h
      have q1 := (Bool.and_eq_true _ _ ▸ q).1
      refine ⟨fun z => ?_, Nat.lt_succ_self _, q1⟩
      rw [um_due_4 z] at q1
      cases q1
    · rw [um_nd, if_neg q] at h
      obtain ⟨h1, h2, h3⟩ := ih h
      exact ⟨h1, by omega, h3⟩
theorem um_k20' {u : Nat} (h : um_kind u ≠ 4) : u < 20 := by
  rcases Nat.lt_or_ge u 20 with q | q
  · exact q
  · exact absurd (by unfold um_kind; rw [if_neg (by omega), if_neg (by omega), if_neg (by omega), if_neg (by omega), if_neg (by omega), if_neg (by omega), if_neg (by omega)]) h
theorem um_words_le (u : Nat) : um_words u ≤ 100 := by
  unfold um_words
  by_cases h1 : u < 10
  · rw [if_pos h1]; omega
  · rw [if_neg h1]
    by_cases h2 : u = 18
    · rw [if_pos h2]; omega
    · rw [if_neg h2]
      by_cases h3 : u = 19
      · rw [if_pos h3]; omega
      · rw [if_neg h3]; omega
section UMD
variable {E : ur_Ev} {a : um_Ad} {S : um_S} {h : ur_M}
/-- the core's time or number of operations is written -/
theorem um_R.time (hR : um_R E a S h) {k v : Nat} (hk : k ≠ 1) {e : va_E} (he : um_core E a (um_sA S 20 k v) 0 = some e) : um_R E a (um_sA S 20 k v) (va_up h (a.1 20 0) (some e)) :=
  hR.put 20 0 (um_ct_core 0) ((um_ct_core 0).trans he) (um_ct_sC (Or.inr ⟨hk, rfl⟩)) hR.2.2.1 (fun d b h1 h2 => by
    have n : d ≠ 20 := um_d20 (by rw [h1]; decide)
    rw [um_sA_n S (fun z => n z.1)] at h2 ⊢
    exact hR.2.2.2 d b h1 h2)
/-- a number of a unit, not its count of lines -/
theorem um_R.unit (hR : um_R E a S h) {d k v : Nat} (hd : um_kind d ≠ 4) (hk : k < 6) (h2 : um_kind d = 3 → k ≠ 2) {e : va_E} (he : um_dev a (um_sA S d k v) d = e) : um_R E a (um_sA S d k v) (va_up h (a.1 d 0) (some e)) :=
  hR.put d 0 (um_ct_dev hd) ((um_ct_dev hd).trans (by rw [he])) (um_ct_sA (um_d20 hd) hk) hR.2.2.1 (fun d' b q1 q2 => by
    rw [um_sA_n S (show ¬ (d' = d ∧ 2 = k) from fun z => by have := h2 (by rw [← z.1]; exact q1); omega)] at q2
    rw [um_sA_n S (show ¬ (d' = d ∧ 6 + b = k) from fun z => by omega)]
    exact hR.2.2.2 d' b q1 q2)
/-- the memory, or what a unit brings -/
theorem um_R.arr (hR : um_R E a S h) {d j : Nat} {f : Nat → Int32} (hj : j < 3 ∨ d = 20) {e0 e : va_E} (h0 : um_ct E a S d j = some e0) (he : um_ct E a (um_sF S d j f) d j = some e) : um_R E a (um_sF S d j f) (va_up h (a.1 d j) (some e)) :=
  hR.put d j h0 he um_ct_sF (fun d' b q1 q2 => by
    rw [um_sF_n S (show ¬ (d' = d ∧ 3 + b = j) from fun z => by
      rcases hj with q | q
      · omega
      · have := um_d20 (show um_kind d' ≠ 4 by omega); exact this (z.1.trans q))]
    exact hR.2.2.1 d' b q1 q2) hR.2.2.2
theorem um_R.dlv (hR : um_R E a S h) {u : Nat} (hu : um_kind u ≠ 4) : um_R E a (um_dlv S u) (va_up (va_up h (a.1 20 2) (some (.inl (E.1 0, 4000, .inl (um_cout (S.2 20 2) (S.2 u 1) (nI (S.1 u 5)) (um_words u)))))) (a.1 u 0) (some (um_dev a (um_dlv S u) u))) := by
  refine um_R.unit (um_R.arr hR (Or.inr rfl) (um_ct_core 2) ?_) hu (by decide) (fun _ => by decide) rfl
  rw [um_ct_core]
  unfold um_core
  rw [um_sF_1]
  rfl
end UMD
end
section
def um_dvo (f : Nat → Option Nat) (u : Int32) : Option Nat := if u < 0 then none else if u < 20 then f u.toNatClampNeg else none
theorem dU_deviceOf_0 : decode cU_deviceOf 0 = .ok (.iload_n 1, 1) := by decide +kernel
theorem dU_deviceOf_1 : decode cU_deviceOf 1 = .ok (.ifCond .lt 12, 3) := by decide +kernel
theorem dU_deviceOf_4 : decode cU_deviceOf 4 = .ok (.iload_n 1, 1) := by decide +kernel
theorem dU_deviceOf_5 : decode cU_deviceOf 5 = .ok (.aload_n 0, 1) := by decide +kernel
theorem dU_deviceOf_6 : decode cU_deviceOf 6 = .ok (.getfield 32, 3) := by decide +kernel
theorem dU_deviceOf_9 : decode cU_deviceOf 9 = .ok (.arraylength, 1) := by decide +kernel
theorem dU_deviceOf_10 : decode cU_deviceOf 10 = .ok (.if_icmp .lt 7, 3) := by decide +kernel
theorem dU_deviceOf_13 : decode cU_deviceOf 13 = .ok (.aconst_null, 1) := by decide +kernel
theorem dU_deviceOf_14 : decode cU_deviceOf 14 = .ok (.goto 9, 3) := by decide +kernel
theorem dU_deviceOf_17 : decode cU_deviceOf 17 = .ok (.aload_n 0, 1) := by decide +kernel
theorem dU_deviceOf_18 : decode cU_deviceOf 18 = .ok (.getfield 32, 3) := by decide +kernel
theorem dU_deviceOf_21 : decode cU_deviceOf 21 = .ok (.iload_n 1, 1) := by decide +kernel
theorem dU_deviceOf_22 : decode cU_deviceOf 22 = .ok (.aaload, 1) := by decide +kernel
theorem dU_deviceOf_23 : decode cU_deviceOf 23 = .ok (.areturn, 1) := by decide +kernel
abbrev rmkU_dev : Room := { frames := 0, cells := 0, slots := 0, locals := 0 }
set_option maxHeartbeats 4000000 in
set_option maxRecDepth 100000 in
theorem kU_dev (l : Launch) (D : va_G) (E : ur_Ev) (h : ur_M) (q : Nat) (qm : Nat) (qi : Nat) (qr : Nat) (qd : Nat) (t : Int64) (bg : Int32) (f : Nat → Option Nat) (u : Int32) (f0 : h q = some (.inr (0, [.ref qm, .ref qi, .ref qr, .ref qd, .long t, .int bg]))) (f1 : h qd = some (.inl (E.1 2, 20, .inr (.inr (.inr (.inr f))))))  : ur_Mq l yU_deviceOf wsU_deviceOf rmkU_dev D vwCl (ur_v E) [.ref q, .int u] h (fun r h2 => r = um_dvo f u ∧ h2 = h) 0 0 := by
  intro sz
  refine ur_of (cc := cU_deviceOf) (maxL := 2) (ret := (some (.object "UnitRoom$Device"))) (by decide) rfl (Nat.le_of_ble_eq_true rfl) ?_
  intro p e s m args below meth c ls Q hsz hx hb hml hr hlocks hnm hown hts hO hK hI hQ hl
  subst hsz
  have hV := hK.1
  have hts : ∀ w ∈ ur_G, w.before args s = true := fun w hw => hts w (List.mem_cons_of_mem _ hw)
  have hZ : ur_Z E (ur_A h s.heap.size) s s.heap := hO.1
  have hown : s.vm.findClass "UnitRoom" = some m.cls := hown
  have hl : lv_has ls 2 [(0, .ref q), (1, .int u)] := hl
  refine lv_iload_n hx hb dU_deviceOf_0 rfl (lv_at hl 1 rfl) ?_
  refine lv_if_lt (tgt := 13) hx hb dU_deviceOf_1 (by decide) (fun c1 => ?_) (fun c1 => ?_)
  · refine lv_null hx hb dU_deviceOf_13 ?_
    refine lv_goto (tgt := 23) hx hb dU_deviceOf_14 (by decide) ?_
    exact ur_rq (v := none) hx hb hr hlocks hI hQ (Or.inl ⟨_, rfl⟩) ⟨(by first | (simp only [um_dvo, c1, ↓reduceIte]; done) | (simp only [um_dvo, c1, ↓reduceIte]; rfl) | rfl), rfl⟩ dU_deviceOf_23
  · refine lv_iload_n hx hb dU_deviceOf_4 rfl (lv_at hl 1 rfl) ?_
    refine lv_aload_n hx hb dU_deviceOf_5 rfl (lv_at hl 0 rfl) ?_
    refine va_get (D := D) (ci := 0) (v := .ref qd) (C := "UnitRoom") (T := TU) (N := 6) hx hb hts inU hown hV (ur_one hI.1 f0) 0 rfl rfl 3 (by decide) (hts _ mw173) (fun _ h9 => h9) rfl dU_deviceOf_6 ?_
    refine va_alen (v := 20) hx hb hV (ur_one hI.1 f1) 0 2 rfl rfl rfl dU_deviceOf_9 ?_
    refine lv_icmp_lt (tgt := 17) hx hb dU_deviceOf_10 (by decide) (fun c2 => ?_) (fun c2 => ?_)
    · refine lv_aload_n hx hb dU_deviceOf_17 rfl (lv_at hl 0 rfl) ?_
      refine va_get (D := D) (ci := 0) (v := .ref qd) (C := "UnitRoom") (T := TU) (N := 6) hx hb hts inU hown hV (ur_one hI.1 f0) 0 rfl rfl 3 (by decide) (hts _ mw173) (fun _ h9 => h9) rfl dU_deviceOf_18 ?_
      refine lv_iload_n hx hb dU_deviceOf_21 rfl (lv_at hl 1 rfl) ?_
      refine va_aldq hx hb hV (ur_one hI.1 f1) 0 2 rfl rfl (um_in c1 c2 (by decide)) dU_deviceOf_22 ?_
      exact ur_rq (v := (f u.toNatClampNeg)) hx hb hr hlocks hI hQ (Or.inl ⟨_, rfl⟩) ⟨(by first | (simp only [um_dvo, c1, c2, ↓reduceIte]; done) | (simp only [um_dvo, c1, c2, ↓reduceIte]; rfl) | rfl), rfl⟩ dU_deviceOf_23
    · refine lv_null hx hb dU_deviceOf_13 ?_
      refine lv_goto (tgt := 23) hx hb dU_deviceOf_14 (by decide) ?_
      exact ur_rq (v := none) hx hb hr hlocks hI hQ (Or.inl ⟨_, rfl⟩) ⟨(by first | (simp only [um_dvo, c1, c2, ↓reduceIte]; done) | (simp only [um_dvo, c1, c2, ↓reduceIte]; rfl) | rfl), rfl⟩ dU_deviceOf_23
theorem cu_ahead {R : Room} {s : State} {args : Array Value} {ci : Nat} (hts : ∀ w ∈ ur_G, w.before args s = true) (hci : um_isD ci) (hR : rmkD_ahead.frames + 1 ≤ R.frames ∧ 8 + (2 + 11) + rmkD_ahead.locals ≤ R.locals) : ∃ q : vw_C, vwCl[ci]? = some q ∧ va_CU R s args "UnitRoom" q.1 "UnitRoom$Device" 155 ⟨"UnitRoom$Device", "isDoneAheadOf", "(LUnitRoom$Device;)Z"⟩ yD_isDoneAheadOf cD_isDoneAheadOf 2 (some .boolean) wsD_isDoneAheadOf rmkD_ahead 0 0 1 := by
  rcases hci with rfl | rfl | rfl | rfl
  · exact ⟨_, rfl, va_cwU (owner := "UnitRoom$Device") 1 hts (ur_gU mw277 mw279 mw282 mw278 mw4 mw284) rfl rfl rfl rfl (by decide +kernel) hR⟩
  · exact ⟨_, rfl, va_cwU (owner := "UnitRoom$Device") 1 hts (ur_gU mw277 mw279 mw280 mw278 mw4 mw284) rfl rfl rfl rfl (by decide +kernel) hR⟩
  · exact ⟨_, rfl, va_cwU (owner := "UnitRoom$Device") 1 hts (ur_gU mw277 mw279 mw281 mw278 mw4 mw284) rfl rfl rfl rfl (by decide +kernel) hR⟩
  · exact ⟨_, rfl, va_cwU (owner := "UnitRoom$Device") 1 hts (ur_gU mw277 mw279 mw283 mw278 mw4 mw284) rfl rfl rfl rfl (by decide +kernel) hR⟩
theorem cu_deliver {R : Room} {s : State} {args : Array Value} {ci : Nat} (hts : ∀ w ∈ ur_G, w.before args s = true) (hci : um_isD ci) (hR : rmkD_deliver.frames + 1 ≤ R.frames ∧ 8 + (2 + 11) + rmkD_deliver.locals ≤ R.locals) : ∃ q : vw_C, vwCl[ci]? = some q ∧ va_CU R s args "UnitRoom" q.1 "UnitRoom$Device" 147 ⟨"UnitRoom$Device", "deliver", "(LUnitRoom$Memory;)V"⟩ yD_deliver cD_deliver 2 none wsD_deliver rmkD_deliver 0 0 1 := by
  rcases hci with rfl | rfl | rfl | rfl
  · exact ⟨_, rfl, va_cwU (owner := "UnitRoom$Device") 1 hts (ur_gU mw285 mw287 mw290 mw286 mw4 mw292) rfl rfl rfl rfl (by decide +kernel) hR⟩
  · exact ⟨_, rfl, va_cwU (owner := "UnitRoom$Device") 1 hts (ur_gU mw285 mw287 mw288 mw286 mw4 mw292) rfl rfl rfl rfl (by decide +kernel) hR⟩
  · exact ⟨_, rfl, va_cwU (owner := "UnitRoom$Device") 1 hts (ur_gU mw285 mw287 mw289 mw286 mw4 mw292) rfl rfl rfl rfl (by decide +kernel) hR⟩
  · exact ⟨_, rfl, va_cwU (owner := "UnitRoom$Device") 1 hts (ur_gU mw285 mw287 mw291 mw286 mw4 mw292) rfl rfl rfl rfl (by decide +kernel) hR⟩
theorem cu_begin {R : Room} {s : State} {args : Array Value} {ci : Nat} (hts : ∀ w ∈ ur_G, w.before args s = true) (hci : um_isD ci) (hR : rmkD_begin.frames + 1 ≤ R.frames ∧ 8 + (4 + 11) + rmkD_begin.locals ≤ R.locals) : ∃ q : vw_C, vwCl[ci]? = some q ∧ va_CU R s args "UnitRoom" q.1 "UnitRoom$Device" 104 ⟨"UnitRoom$Device", "begin", "(JI)V"⟩ yD_begin cD_begin 4 none wsD_begin rmkD_begin 0 0 2 := by
  rcases hci with rfl | rfl | rfl | rfl
  · exact ⟨_, rfl, va_cwU (owner := "UnitRoom$Device") 2 hts (ur_gU mw300 mw302 mw305 mw301 mw4 mw307) rfl rfl rfl rfl (by decide +kernel) hR⟩
  · exact ⟨_, rfl, va_cwU (owner := "UnitRoom$Device") 2 hts (ur_gU mw300 mw302 mw303 mw301 mw4 mw307) rfl rfl rfl rfl (by decide +kernel) hR⟩
  · exact ⟨_, rfl, va_cwU (owner := "UnitRoom$Device") 2 hts (ur_gU mw300 mw302 mw304 mw301 mw4 mw307) rfl rfl rfl rfl (by decide +kernel) hR⟩
  · exact ⟨_, rfl, va_cwU (owner := "UnitRoom$Device") 2 hts (ur_gU mw300 mw302 mw306 mw301 mw4 mw307) rfl rfl rfl rfl (by decide +kernel) hR⟩
theorem dU_nextDone_0 : decode cU_nextDone 0 = .ok (.aconst_null, 1) := by decide +kernel
theorem dU_nextDone_1 : decode cU_nextDone 1 = .ok (.astore_n 1, 1) := by decide +kernel
theorem dU_nextDone_2 : decode cU_nextDone 2 = .ok (.iconst 0, 1) := by decide +kernel
theorem dU_nextDone_3 : decode cU_nextDone 3 = .ok (.istore_n 2, 1) := by decide +kernel
theorem dU_nextDone_4 : decode cU_nextDone 4 = .ok (.iload_n 2, 1) := by decide +kernel
theorem dU_nextDone_5 : decode cU_nextDone 5 = .ok (.aload_n 0, 1) := by decide +kernel
theorem dU_nextDone_6 : decode cU_nextDone 6 = .ok (.getfield 32, 3) := by decide +kernel
theorem dU_nextDone_9 : decode cU_nextDone 9 = .ok (.arraylength, 1) := by decide +kernel
theorem dU_nextDone_10 : decode cU_nextDone 10 = .ok (.if_icmp .ge 53, 3) := by decide +kernel
theorem dU_nextDone_13 : decode cU_nextDone 13 = .ok (.aload_n 0, 1) := by decide +kernel
theorem dU_nextDone_14 : decode cU_nextDone 14 = .ok (.getfield 32, 3) := by decide +kernel
theorem dU_nextDone_17 : decode cU_nextDone 17 = .ok (.iload_n 2, 1) := by decide +kernel
theorem dU_nextDone_18 : decode cU_nextDone 18 = .ok (.aaload, 1) := by decide +kernel
theorem dU_nextDone_19 : decode cU_nextDone 19 = .ok (.astore_n 3, 1) := by decide +kernel
theorem dU_nextDone_20 : decode cU_nextDone 20 = .ok (.aload_n 3, 1) := by decide +kernel
theorem dU_nextDone_21 : decode cU_nextDone 21 = .ok (.ifnull 36, 3) := by decide +kernel
theorem dU_nextDone_24 : decode cU_nextDone 24 = .ok (.aload_n 3, 1) := by decide +kernel
theorem dU_nextDone_25 : decode cU_nextDone 25 = .ok (.getfield 151, 3) := by decide +kernel
theorem dU_nextDone_28 : decode cU_nextDone 28 = .ok (.ifCond .eq 29, 3) := by decide +kernel
theorem dU_nextDone_31 : decode cU_nextDone 31 = .ok (.aload_n 3, 1) := by decide +kernel
theorem dU_nextDone_32 : decode cU_nextDone 32 = .ok (.getfield 91, 3) := by decide +kernel
theorem dU_nextDone_35 : decode cU_nextDone 35 = .ok (.aload_n 0, 1) := by decide +kernel
theorem dU_nextDone_36 : decode cU_nextDone 36 = .ok (.getfield 47, 3) := by decide +kernel
theorem dU_nextDone_39 : decode cU_nextDone 39 = .ok (.lcmp, 1) := by decide +kernel
theorem dU_nextDone_40 : decode cU_nextDone 40 = .ok (.ifCond .gt 17, 3) := by decide +kernel
theorem dU_nextDone_43 : decode cU_nextDone 43 = .ok (.aload_n 1, 1) := by decide +kernel
theorem dU_nextDone_44 : decode cU_nextDone 44 = .ok (.ifnull 11, 3) := by decide +kernel
theorem dU_nextDone_47 : decode cU_nextDone 47 = .ok (.aload_n 3, 1) := by decide +kernel
theorem dU_nextDone_48 : decode cU_nextDone 48 = .ok (.aload_n 1, 1) := by decide +kernel
theorem dU_nextDone_49 : decode cU_nextDone 49 = .ok (.invokevirtual 155, 3) := by decide +kernel
theorem dU_nextDone_52 : decode cU_nextDone 52 = .ok (.ifCond .eq 5, 3) := by decide +kernel
theorem dU_nextDone_55 : decode cU_nextDone 55 = .ok (.aload_n 3, 1) := by decide +kernel
theorem dU_nextDone_56 : decode cU_nextDone 56 = .ok (.astore_n 1, 1) := by decide +kernel
theorem dU_nextDone_57 : decode cU_nextDone 57 = .ok (.iinc 2 1, 3) := by decide +kernel
theorem dU_nextDone_60 : decode cU_nextDone 60 = .ok (.goto (-56), 3) := by decide +kernel
theorem dU_nextDone_63 : decode cU_nextDone 63 = .ok (.aload_n 1, 1) := by decide +kernel
theorem dU_nextDone_64 : decode cU_nextDone 64 = .ok (.areturn, 1) := by decide +kernel
abbrev rmkU_next : Room := { frames := 1, cells := 0, slots := 0, locals := 21 }
set_option maxHeartbeats 4000000 in
set_option maxRecDepth 100000 in
theorem kU_next (l : Launch) (D : va_G) (E : ur_Ev) (h : ur_M) (a : um_Ad) (S : um_S)  (hR : um_R E a S h) (hB : um_Bd S) : ur_Mq l yU_nextDone wsU_nextDone rmkU_next D vwCl (ur_v E) [.ref (a.1 20 0)] h (fun r h2 => r = (um_nd S 20).map (fun v => a.1 v 0) ∧ h2 = h) 0 0 := by
  intro sz
  refine ur_of (cc := cU_nextDone) (maxL := 4) (ret := (some (.object "UnitRoom$Device"))) (by decide) rfl (Nat.le_of_ble_eq_true rfl) ?_
  intro p e s m args below meth c ls Q hsz hx hb hml hr hlocks hnm hown hts hO hK hI hQ hl
  subst hsz
  have hV := hK.1
  have hts : ∀ w ∈ ur_G, w.before args s = true := fun w hw => hts w (List.mem_cons_of_mem _ hw)
  have hZ : ur_Z E (ur_A h s.heap.size) s s.heap := hO.1
  have hown : s.vm.findClass "UnitRoom" = some m.cls := hown
  have hl : lv_has ls 4 [(0, .ref (a.1 20 0))] := hl
  have g0 : h (a.1 20 0) = some (.inr (0, [.ref (a.1 20 1), .ref (a.1 20 3), .ref (a.1 16 0), .ref (a.1 20 5), .long (lN (S.1 20 2)), .int (nI (S.1 20 0))])) := hR.core rfl
  have g5 : h (a.1 20 5) = some (.inl (E.1 2, 20, .inr (.inr (.inr (.inr (um_devs a)))))) := hR.core rfl
  refine lv_null hx hb dU_nextDone_0 ?_
  refine lv_astore_nN (lv' := [(1, .null), (0, .ref (a.1 20 0))]) hx hb dU_nextDone_1 rfl hl (by decide) rfl (fun ls hl => ?_)
  refine lv_iconst (v := 0) hx hb dU_nextDone_2 (by decide) ?_
  refine lv_istore_n (lv' := [(2, .int 0), (1, .null), (0, .ref (a.1 20 0))]) hx hb dU_nextDone_3 rfl hl (by decide) rfl (fun ls hl => ?_)
  have lpn1 : ∀ (n1 : Nat) (u : Nat) (H : Heap) (locs : List Loc) (ls : Array Slot), 20 - u < n1 → (u ≤ 20) → ur_I D vwCl (ur_A h s.heap.size) s.heap h H locs → lv_has ls 4 [(0, .ref (a.1 20 0)), (1, va_rf ((um_nd S u).map (fun v => a.1 v 0))), (2, .int (nI u))] → W p l e rmkU_next s m args below meth c H locs 0 0 Q (F0 m 4 ls []) := by
    intro n1
    induction n1 with
    | zero => intro u H locs ls hnn1; exact absurd hnn1 (Nat.not_lt_zero _)
    | succ n1 ihn1 =>
      intro u H locs ls hnn1 hu hI hl
      rcases hnx : um_nd S u with _ | v
      · rw [hnx] at hl
        refine lv_iload_n hx hb dU_nextDone_4 rfl (lv_at hl 2 rfl) ?_
        refine lv_aload_n hx hb dU_nextDone_5 rfl (lv_at hl 0 rfl) ?_
        refine va_get (D := D) (ci := 0) (v := .ref (a.1 20 5)) (C := "UnitRoom") (T := TU) (N := 6) hx hb hts inU hown hV (ur_one hI.1 g0) 0 rfl rfl 3 (by decide) (hts _ mw173) (fun _ h9 => h9) rfl dU_nextDone_6 ?_
        refine va_alen (v := 20) hx hb hV (ur_one hI.1 g5) 0 2 rfl rfl rfl dU_nextDone_9 ?_
        refine lv_icmp_ge (tgt := 63) hx hb dU_nextDone_10 (by decide) (fun c2 => ?_) (fun c2 => ?_)
        · have he9 : u = 20 := Nat.le_antisymm hu (Nat.not_lt.mp (fun z9 => nI_ge (b := 20) z9 (by decide) c2))
          refine lv_aload_nN hx hb dU_nextDone_63 rfl (lv_at hl 1 rfl) ?_
          exact ur_rq (v := none) hx hb hr hlocks hI hQ (Or.inl ⟨_, rfl⟩) ⟨(by rw [← he9, hnx]; rfl), rfl⟩ dU_nextDone_64
        · have hlt : u < 20 := Nat.not_le.mp (fun z9 => c2 (nI_le z9 (by omega)))
          refine lv_aload_n hx hb dU_nextDone_13 rfl (lv_at hl 0 rfl) ?_
          refine va_get (D := D) (ci := 0) (v := .ref (a.1 20 5)) (C := "UnitRoom") (T := TU) (N := 6) hx hb hts inU hown hV (ur_one hI.1 g0) 0 rfl rfl 3 (by decide) (hts _ mw173) (fun _ h9 => h9) rfl dU_nextDone_14 ?_
          refine lv_iload_n hx hb dU_nextDone_17 rfl (lv_at hl 2 rfl) ?_
          refine va_aldq hx hb hV (ur_one hI.1 g5) 0 2 rfl rfl (vp_in_nI hlt (by decide)) dU_nextDone_18 ?_
          rw [nI_clamp (by omega)]
          by_cases hk9 : um_kind u = 4
          · rw [um_devs_no hk9]
            refine lv_astore_nN (lv' := [(3, .null), (0, .ref (a.1 20 0)), (1, .null), (2, .int (nI u))]) hx hb dU_nextDone_19 rfl hl (by decide) rfl (fun ls hl => ?_)
            refine lv_aload_nN hx hb dU_nextDone_20 rfl (lv_at hl 0 rfl) ?_
            refine lv_ifnullN (tgt := 57) hx hb dU_nextDone_21 (by decide) ?_
            refine lv_iinc (v := ((nI u) + 1)) (lv' := [(2, .int ((nI u) + 1)), (3, .null), (0, .ref (a.1 20 0)), (1, .null)]) hx hb dU_nextDone_57 hl (k := 3) rfl rfl (by decide) rfl (fun ls hl => ?_)
            refine lv_goto (tgt := 4) hx hb dU_nextDone_60 (by decide) ?_
            rw [nI_1] at hl
            have hx9 := (um_nd_f (um_due_4 hk9)).trans hnx
            exact ihn1 (u + 1) H locs ls (by omega) hlt hI (by rw [hx9]; exact (lv_sub hl [2, 3, 0] rfl))
          · rw [um_devs_yes hk9]
            have gu : h (a.1 u 0) = some (.inr ((um_ci u), .int (nI (um_words u)) :: .ref (a.1 u 1) :: .int (nI (um_dur u)) :: .long (lN (S.1 u 4)) :: .int (nI (S.1 u 0)) :: .int (nI (S.1 u 1)) :: .int (nI (S.1 u 5)) :: um_tl a S u)) := hR.dev hk9
            refine lv_astore_n (lv' := [(3, .ref (a.1 u 0)), (0, .ref (a.1 20 0)), (1, .null), (2, .int (nI u))]) hx hb dU_nextDone_19 rfl hl (by decide) rfl (fun ls hl => ?_)
            refine lv_aload_n hx hb dU_nextDone_20 rfl (lv_at hl 0 rfl) ?_
            refine lv_ifnull hx hb dU_nextDone_21 ?_
            refine lv_aload_n hx hb dU_nextDone_24 rfl (lv_at hl 0 rfl) ?_
            refine ur_gD4 hx hb hts hown hV hI (um_ci_D u) gu (hts _ mw79) (fun _ h9 => h9) dU_nextDone_25 ?_
            refine lv_if_eq (tgt := 57) hx hb dU_nextDone_28 (by decide) (fun c3 => ?_) (fun c3 => ?_)
            · refine lv_iinc (v := ((nI u) + 1)) (lv' := [(2, .int ((nI u) + 1)), (3, .ref (a.1 u 0)), (0, .ref (a.1 20 0)), (1, .null)]) hx hb dU_nextDone_57 hl (k := 3) rfl rfl (by decide) rfl (fun ls hl => ?_)
              refine lv_goto (tgt := 4) hx hb dU_nextDone_60 (by decide) ?_
              rw [nI_1] at hl
              have hx9 := (um_nd_f (um_due_0 hB c3)).trans hnx
              exact ihn1 (u + 1) H locs ls (by omega) hlt hI (by rw [hx9]; exact (lv_sub hl [2, 3, 0] rfl))
            · refine lv_aload_n hx hb dU_nextDone_31 rfl (lv_at hl 0 rfl) ?_
              refine ur_gD3 hx hb hts hown hV hI (um_ci_D u) gu (hts _ mw77) (fun _ h9 => h9) dU_nextDone_32 ?_
              refine lv_aload_n hx hb dU_nextDone_35 rfl (lv_at hl 1 rfl) ?_
              refine va_get (D := D) (ci := 0) (v := .long (lN (S.1 20 2))) (C := "UnitRoom") (T := TU) (N := 6) hx hb hts inU hown hV (ur_one hI.1 g0) 0 rfl rfl 4 (by decide) (hts _ mw174) (fun _ h9 => h9) rfl dU_nextDone_36 ?_
              refine W.lcmp hx hb dU_nextDone_39 ?_
              refine lv_if_gt (tgt := 57) hx hb dU_nextDone_40 (by decide) (fun c4 => ?_) (fun c4 => ?_)
              · refine lv_iinc (v := ((nI u) + 1)) (lv' := [(2, .int ((nI u) + 1)), (3, .ref (a.1 u 0)), (0, .ref (a.1 20 0)), (1, .null)]) hx hb dU_nextDone_57 hl (k := 3) rfl rfl (by decide) rfl (fun ls hl => ?_)
                refine lv_goto (tgt := 4) hx hb dU_nextDone_60 (by decide) ?_
                rw [nI_1] at hl
                have hx9 := (um_nd_f (um_due_c hB c4)).trans hnx
                exact ihn1 (u + 1) H locs ls (by omega) hlt hI (by rw [hx9]; exact (lv_sub hl [2, 3, 0] rfl))
              · refine lv_aload_nN hx hb dU_nextDone_43 rfl (lv_at hl 2 rfl) ?_
                refine lv_ifnullN (tgt := 55) hx hb dU_nextDone_44 (by decide) ?_
                refine lv_aload_n hx hb dU_nextDone_55 rfl (lv_at hl 0 rfl) ?_
                refine lv_astore_n (lv' := [(1, .ref (a.1 u 0)), (3, .ref (a.1 u 0)), (0, .ref (a.1 20 0)), (2, .int (nI u))]) hx hb dU_nextDone_56 rfl hl (by decide) rfl (fun ls hl => ?_)
                refine lv_iinc (v := ((nI u) + 1)) (lv' := [(2, .int ((nI u) + 1)), (1, .ref (a.1 u 0)), (3, .ref (a.1 u 0)), (0, .ref (a.1 20 0))]) hx hb dU_nextDone_57 hl (k := 3) rfl rfl (by decide) rfl (fun ls hl => ?_)
                refine lv_goto (tgt := 4) hx hb dU_nextDone_60 (by decide) ?_
                rw [nI_1] at hl
                have hx9 := um_nd_t (um_due_t hB hk9 c3 c4) (by rw [hnx]; rfl)
                exact ihn1 (u + 1) H locs ls (by omega) hlt hI (by rw [hx9]; exact (lv_sub hl [3, 1, 0] rfl))
      · rw [hnx] at hl
        obtain ⟨hv9, hv8, -⟩ := um_nd_k hnx
        have gv : h (a.1 v 0) = some (.inr ((um_ci v), .int (nI (um_words v)) :: .ref (a.1 v 1) :: .int (nI (um_dur v)) :: .long (lN (S.1 v 4)) :: .int (nI (S.1 v 0)) :: .int (nI (S.1 v 1)) :: .int (nI (S.1 v 5)) :: um_tl a S v)) := hR.dev hv9
        refine lv_iload_n hx hb dU_nextDone_4 rfl (lv_at hl 2 rfl) ?_
        refine lv_aload_n hx hb dU_nextDone_5 rfl (lv_at hl 0 rfl) ?_
        refine va_get (D := D) (ci := 0) (v := .ref (a.1 20 5)) (C := "UnitRoom") (T := TU) (N := 6) hx hb hts inU hown hV (ur_one hI.1 g0) 0 rfl rfl 3 (by decide) (hts _ mw173) (fun _ h9 => h9) rfl dU_nextDone_6 ?_
        refine va_alen (v := 20) hx hb hV (ur_one hI.1 g5) 0 2 rfl rfl rfl dU_nextDone_9 ?_
        refine lv_icmp_ge (tgt := 63) hx hb dU_nextDone_10 (by decide) (fun c5 => ?_) (fun c5 => ?_)
        · have he9 : u = 20 := Nat.le_antisymm hu (Nat.not_lt.mp (fun z9 => nI_ge (b := 20) z9 (by decide) c5))
          refine lv_aload_n hx hb dU_nextDone_63 rfl (lv_at hl 1 rfl) ?_
          exact ur_rq (v := (some (a.1 v 0))) hx hb hr hlocks hI hQ (Or.inl ⟨_, rfl⟩) ⟨(by rw [← he9, hnx]; rfl), rfl⟩ dU_nextDone_64
        · have hlt : u < 20 := Nat.not_le.mp (fun z9 => c5 (nI_le z9 (by omega)))
          refine lv_aload_n hx hb dU_nextDone_13 rfl (lv_at hl 0 rfl) ?_
          refine va_get (D := D) (ci := 0) (v := .ref (a.1 20 5)) (C := "UnitRoom") (T := TU) (N := 6) hx hb hts inU hown hV (ur_one hI.1 g0) 0 rfl rfl 3 (by decide) (hts _ mw173) (fun _ h9 => h9) rfl dU_nextDone_14 ?_
          refine lv_iload_n hx hb dU_nextDone_17 rfl (lv_at hl 2 rfl) ?_
          refine va_aldq hx hb hV (ur_one hI.1 g5) 0 2 rfl rfl (vp_in_nI hlt (by decide)) dU_nextDone_18 ?_
          rw [nI_clamp (by omega)]
          by_cases hk9 : um_kind u = 4
          · rw [um_devs_no hk9]
            refine lv_astore_nN (lv' := [(3, .null), (0, .ref (a.1 20 0)), (1, .ref (a.1 v 0)), (2, .int (nI u))]) hx hb dU_nextDone_19 rfl hl (by decide) rfl (fun ls hl => ?_)
            refine lv_aload_nN hx hb dU_nextDone_20 rfl (lv_at hl 0 rfl) ?_
            refine lv_ifnullN (tgt := 57) hx hb dU_nextDone_21 (by decide) ?_
            refine lv_iinc (v := ((nI u) + 1)) (lv' := [(2, .int ((nI u) + 1)), (3, .null), (0, .ref (a.1 20 0)), (1, .ref (a.1 v 0))]) hx hb dU_nextDone_57 hl (k := 3) rfl rfl (by decide) rfl (fun ls hl => ?_)
            refine lv_goto (tgt := 4) hx hb dU_nextDone_60 (by decide) ?_
            rw [nI_1] at hl
            have hx9 := (um_nd_f (um_due_4 hk9)).trans hnx
            exact ihn1 (u + 1) H locs ls (by omega) hlt hI (by rw [hx9]; exact (lv_sub hl [2, 3, 0] rfl))
          · rw [um_devs_yes hk9]
            have gu : h (a.1 u 0) = some (.inr ((um_ci u), .int (nI (um_words u)) :: .ref (a.1 u 1) :: .int (nI (um_dur u)) :: .long (lN (S.1 u 4)) :: .int (nI (S.1 u 0)) :: .int (nI (S.1 u 1)) :: .int (nI (S.1 u 5)) :: um_tl a S u)) := hR.dev hk9
            refine lv_astore_n (lv' := [(3, .ref (a.1 u 0)), (0, .ref (a.1 20 0)), (1, .ref (a.1 v 0)), (2, .int (nI u))]) hx hb dU_nextDone_19 rfl hl (by decide) rfl (fun ls hl => ?_)
            refine lv_aload_n hx hb dU_nextDone_20 rfl (lv_at hl 0 rfl) ?_
            refine lv_ifnull hx hb dU_nextDone_21 ?_
            refine lv_aload_n hx hb dU_nextDone_24 rfl (lv_at hl 0 rfl) ?_
            refine ur_gD4 hx hb hts hown hV hI (um_ci_D u) gu (hts _ mw79) (fun _ h9 => h9) dU_nextDone_25 ?_
            refine lv_if_eq (tgt := 57) hx hb dU_nextDone_28 (by decide) (fun c6 => ?_) (fun c6 => ?_)
            · refine lv_iinc (v := ((nI u) + 1)) (lv' := [(2, .int ((nI u) + 1)), (3, .ref (a.1 u 0)), (0, .ref (a.1 20 0)), (1, .ref (a.1 v 0))]) hx hb dU_nextDone_57 hl (k := 3) rfl rfl (by decide) rfl (fun ls hl => ?_)
              refine lv_goto (tgt := 4) hx hb dU_nextDone_60 (by decide) ?_
              rw [nI_1] at hl
              have hx9 := (um_nd_f (um_due_0 hB c6)).trans hnx
              exact ihn1 (u + 1) H locs ls (by omega) hlt hI (by rw [hx9]; exact (lv_sub hl [2, 3, 0] rfl))
            · refine lv_aload_n hx hb dU_nextDone_31 rfl (lv_at hl 0 rfl) ?_
              refine ur_gD3 hx hb hts hown hV hI (um_ci_D u) gu (hts _ mw77) (fun _ h9 => h9) dU_nextDone_32 ?_
              refine lv_aload_n hx hb dU_nextDone_35 rfl (lv_at hl 1 rfl) ?_
              refine va_get (D := D) (ci := 0) (v := .long (lN (S.1 20 2))) (C := "UnitRoom") (T := TU) (N := 6) hx hb hts inU hown hV (ur_one hI.1 g0) 0 rfl rfl 4 (by decide) (hts _ mw174) (fun _ h9 => h9) rfl dU_nextDone_36 ?_
              refine W.lcmp hx hb dU_nextDone_39 ?_
              refine lv_if_gt (tgt := 57) hx hb dU_nextDone_40 (by decide) (fun c7 => ?_) (fun c7 => ?_)
              · refine lv_iinc (v := ((nI u) + 1)) (lv' := [(2, .int ((nI u) + 1)), (3, .ref (a.1 u 0)), (0, .ref (a.1 20 0)), (1, .ref (a.1 v 0))]) hx hb dU_nextDone_57 hl (k := 3) rfl rfl (by decide) rfl (fun ls hl => ?_)
                refine lv_goto (tgt := 4) hx hb dU_nextDone_60 (by decide) ?_
                rw [nI_1] at hl
                have hx9 := (um_nd_f (um_due_c hB c7)).trans hnx
                exact ihn1 (u + 1) H locs ls (by omega) hlt hI (by rw [hx9]; exact (lv_sub hl [2, 3, 0] rfl))
              · refine lv_aload_n hx hb dU_nextDone_43 rfl (lv_at hl 2 rfl) ?_
                refine lv_ifnull hx hb dU_nextDone_44 ?_
                refine lv_aload_n hx hb dU_nextDone_47 rfl (lv_at hl 0 rfl) ?_
                refine lv_aload_n hx hb dU_nextDone_48 rfl (lv_at hl 2 rfl) ?_
                obtain ⟨qc8, hqc8, hcw8⟩ := cu_ahead (R := rmkU_next) hts (um_ci_D u) ⟨(Nat.le_of_ble_eq_true rfl), (Nat.le_of_ble_eq_true rfl)⟩
                refine ur_xi (va_runU (As := [.ref (a.1 v 0)]) (rest := []) ⟨hx, hb, hml, hown, hts⟩ (kD_ahead l D E h (a.1 u 0) (a.1 v 0) (um_ci u) (a.1 u 1) (nI (um_words u)) (nI (um_dur u)) (nI (S.1 u 0)) (nI (S.1 u 1)) (nI (S.1 u 5)) (lN (S.1 u 4)) (um_tl a S u) (um_ci v) (a.1 v 1) (nI (um_words v)) (nI (um_dur v)) (nI (S.1 v 0)) (nI (S.1 v 1)) (nI (S.1 v 5)) (lN (S.1 v 4)) (um_tl a S v) gu gv (um_ci_D u) (um_ci_D v) H.size) hcw8 ⟨ur_blind, va_recv hV (ur_one hI.1 gu) (q0 := 0) hqc8 rfl, ur_pre hI hO hK (fun _ _ q => q)⟩ rfl rfl hl.1 rfl (lv_room (Nat.le_of_ble_eq_true rfl)) dU_nextDone_49 ⟨Nat.le_of_ble_eq_true rfl, Nat.le_of_ble_eq_true rfl⟩) hI (fun r9 h9 H locs p9 hI => ?_)
                obtain ⟨er9, eh9⟩ := p9
                replace eh9 := eh9.symm; subst eh9
                refine lv_if_eq (tgt := 57) hx hb dU_nextDone_52 (by decide) (fun c10 => ?_) (fun c10 => ?_)
                · have k11 : (um_ahead (lN (S.1 u 4)) (nI (S.1 u 1)) (lN (S.1 v 4)) (nI (S.1 v 1))) = false := um_b0 er9 c10
                  refine lv_iinc (v := ((nI u) + 1)) (lv' := [(2, .int ((nI u) + 1)), (3, .ref (a.1 u 0)), (0, .ref (a.1 20 0)), (1, .ref (a.1 v 0))]) hx hb dU_nextDone_57 hl (k := 3) rfl rfl (by decide) rfl (fun ls hl => ?_)
                  refine lv_goto (tgt := 4) hx hb dU_nextDone_60 (by decide) ?_
                  rw [nI_1] at hl
                  have hx9 := (um_nd_n (by rw [hnx]; exact (um_ahead_bef hB u v).symm.trans k11)).trans hnx
                  exact ihn1 (u + 1) H locs ls (by omega) hlt hI (by rw [hx9]; exact (lv_sub hl [2, 3, 0] rfl))
                · have k12 : (um_ahead (lN (S.1 u 4)) (nI (S.1 u 1)) (lN (S.1 v 4)) (nI (S.1 v 1))) = true := um_b1 er9 c10
                  refine lv_aload_n hx hb dU_nextDone_55 rfl (lv_at hl 0 rfl) ?_
                  refine lv_astore_n (lv' := [(1, .ref (a.1 u 0)), (3, .ref (a.1 u 0)), (0, .ref (a.1 20 0)), (2, .int (nI u))]) hx hb dU_nextDone_56 rfl hl (by decide) rfl (fun ls hl => ?_)
                  refine lv_iinc (v := ((nI u) + 1)) (lv' := [(2, .int ((nI u) + 1)), (1, .ref (a.1 u 0)), (3, .ref (a.1 u 0)), (0, .ref (a.1 20 0))]) hx hb dU_nextDone_57 hl (k := 3) rfl rfl (by decide) rfl (fun ls hl => ?_)
                  refine lv_goto (tgt := 4) hx hb dU_nextDone_60 (by decide) ?_
                  rw [nI_1] at hl
                  have hx9 := um_nd_t (um_due_t hB hk9 c6 c7) (by rw [hnx]; exact (um_ahead_bef hB u v).symm.trans k12)
                  exact ihn1 (u + 1) H locs ls (by omega) hlt hI (by rw [hx9]; exact (lv_sub hl [3, 1, 0] rfl))
  exact lpn1 _ 0 _ _ ls (Nat.lt_succ_self _) (by decide) hI (lv_sub hl [2, 1, 0] rfl)
theorem um_dev_dlv {a : um_Ad} {S : um_S} (u : Nat) : um_dev a (um_dlv S u) u = .inr (um_ci u, .int (nI (um_words u)) :: .ref (a.1 u 1) :: .int (nI (um_dur u)) :: .long (lN (S.1 u 4)) :: .int 0 :: .int (nI (S.1 u 1)) :: .int (nI (S.1 u 5)) :: um_tl a S u) := by
  simp [um_dlv, um_dev, um_tl, um_sA, um_sF, nI_0]
theorem um_Bd_sA {S : um_S} (hB : um_Bd S) {d k v : Nat} (hv : v < 2 ^ 31) : um_Bd (um_sA S d k v) := by
  intro x y
  by_cases h : x = d ∧ y = k
  · show (if x = d ∧ y = k then v else S.1 x y) < _
    rw [if_pos h]; exact hv
  · rw [um_sA_n S h]; exact hB x y
theorem um_Bd_dlv {S : um_S} (hB : um_Bd S) (u : Nat) : um_Bd (um_dlv S u) := um_Bd_sA (S := um_sF S 20 2 _) hB (by decide)
theorem um_go_none {n : Nat} {S : um_S} (h : um_nd S 20 = none) : um_go n S = S := by
  cases n with
  | zero => rfl
  | succ n => rw [um_go, h]
theorem um_go_some {n u : Nat} {S : um_S} (h : um_nd S 20 = some u) : um_go (n + 1) S = um_go n (um_dlv S u) := by rw [um_go, h]
theorem dU_goOnTo_0 : decode cU_goOnTo 0 = .ok (.aload_n 0, 1) := by decide +kernel
theorem dU_goOnTo_1 : decode cU_goOnTo 1 = .ok (.lload_n 1, 1) := by decide +kernel
theorem dU_goOnTo_2 : decode cU_goOnTo 2 = .ok (.putfield 47, 3) := by decide +kernel
theorem dU_goOnTo_5 : decode cU_goOnTo 5 = .ok (.iconst 0, 1) := by decide +kernel
theorem dU_goOnTo_6 : decode cU_goOnTo 6 = .ok (.istore_n 3, 1) := by decide +kernel
theorem dU_goOnTo_7 : decode cU_goOnTo 7 = .ok (.iload_n 3, 1) := by decide +kernel
theorem dU_goOnTo_8 : decode cU_goOnTo 8 = .ok (.aload_n 0, 1) := by decide +kernel
theorem dU_goOnTo_9 : decode cU_goOnTo 9 = .ok (.getfield 32, 3) := by decide +kernel
theorem dU_goOnTo_12 : decode cU_goOnTo 12 = .ok (.arraylength, 1) := by decide +kernel
theorem dU_goOnTo_13 : decode cU_goOnTo 13 = .ok (.if_icmp .ge 30, 3) := by decide +kernel
theorem dU_goOnTo_16 : decode cU_goOnTo 16 = .ok (.aload_n 0, 1) := by decide +kernel
theorem dU_goOnTo_17 : decode cU_goOnTo 17 = .ok (.invokevirtual 143, 3) := by decide +kernel
theorem dU_goOnTo_20 : decode cU_goOnTo 20 = .ok (.astore 4, 2) := by decide +kernel
theorem dU_goOnTo_22 : decode cU_goOnTo 22 = .ok (.aload 4, 2) := by decide +kernel
theorem dU_goOnTo_24 : decode cU_goOnTo 24 = .ok (.ifnonnull 4, 3) := by decide +kernel
theorem dU_goOnTo_27 : decode cU_goOnTo 27 = .ok (.return_, 1) := by decide +kernel
theorem dU_goOnTo_28 : decode cU_goOnTo 28 = .ok (.aload 4, 2) := by decide +kernel
theorem dU_goOnTo_30 : decode cU_goOnTo 30 = .ok (.aload_n 0, 1) := by decide +kernel
theorem dU_goOnTo_31 : decode cU_goOnTo 31 = .ok (.getfield 10, 3) := by decide +kernel
theorem dU_goOnTo_34 : decode cU_goOnTo 34 = .ok (.invokevirtual 147, 3) := by decide +kernel
theorem dU_goOnTo_37 : decode cU_goOnTo 37 = .ok (.iinc 3 1, 3) := by decide +kernel
theorem dU_goOnTo_40 : decode cU_goOnTo 40 = .ok (.goto (-33), 3) := by decide +kernel
theorem dU_goOnTo_43 : decode cU_goOnTo 43 = .ok (.return_, 1) := by decide +kernel
abbrev rmkU_go : Room := { frames := 3, cells := 0, slots := 0, locals := 69 }
set_option maxHeartbeats 4000000 in
set_option maxRecDepth 100000 in
theorem kU_go (l : Launch) (D : va_G) (E : ur_Ev) (h : ur_M) (a : um_Ad) (S : um_S) (t : Nat)  (hR : um_R E a S h) (hB : um_Bd S) (ht : t < 2 ^ 31) : ur_Mv l yU_goOnTo wsU_goOnTo rmkU_go D vwCl (ur_v E) [.ref (a.1 20 0), .long (lN t)] h (fun h2 => um_R E a (um_goTo S t) h2) 0 0 := by
  intro sz
  refine ur_of (cc := cU_goOnTo) (maxL := 5) (ret := none) (by decide) rfl (Nat.le_of_ble_eq_true rfl) ?_
  intro p e s m args below meth c ls Q hsz hx hb hml hr hlocks hnm hown hts hO hK hI hQ hl
  subst hsz
  have hV := hK.1
  have hts : ∀ w ∈ ur_G, w.before args s = true := fun w hw => hts w (List.mem_cons_of_mem _ hw)
  have hZ : ur_Z E (ur_A h s.heap.size) s s.heap := hO.1
  have hown : s.vm.findClass "UnitRoom" = some m.cls := hown
  have hl : lv_has ls 5 [(0, .ref (a.1 20 0)), (1, .long (lN t))] := hl
  have g0 : h (a.1 20 0) = some (.inr (0, [.ref (a.1 20 1), .ref (a.1 20 3), .ref (a.1 16 0), .ref (a.1 20 5), .long (lN (S.1 20 2)), .int (nI (S.1 20 0))])) := hR.core rfl
  refine lv_aload_n hx hb dU_goOnTo_0 rfl (lv_at hl 0 rfl) ?_
  refine lv_lload_n hx hb dU_goOnTo_1 rfl (lv_at hl 1 rfl) ?_
  refine ur_put (D := D) (ci := 0) (v := .long (lN t)) (ty := .long) (C := "UnitRoom") (T := TU) (N := 6) hx hb hts inU tyU tyU_ok nmU hown hV hI g0 rfl 4 (by decide) (hts _ mw174) (fun _ h9 => h9) rfl (by decide +kernel) rfl rfl (Nat.le_of_ble_eq_true rfl) dU_goOnTo_2 (fun H locs hI => ?_)
  obtain ⟨h1, eh1⟩ : ∃ z : ur_M, z = va_up h (a.1 20 0) (some (.inr (0, [.ref (a.1 20 1), .ref (a.1 20 3), .ref (a.1 16 0), .ref (a.1 20 5), .long (lN t), .int (nI (S.1 20 0))]))) := ⟨_, rfl⟩
  replace hI : ur_I D vwCl (ur_A h s.heap.size) s.heap h1 H locs := by rw [eh1]; exact hI
  have fq2 : h1 (a.1 20 0) = some (.inr (0, [.ref (a.1 20 1), .ref (a.1 20 3), .ref (a.1 16 0), .ref (a.1 20 5), .long (lN t), .int (nI (S.1 20 0))])) := by rw [eh1]; exact (va_up_self _ _ _)
  refine lv_iconst (v := 0) hx hb dU_goOnTo_5 (by decide) ?_
  refine lv_istore_n (lv' := [(3, .int 0), (0, .ref (a.1 20 0)), (1, .long (lN t))]) hx hb dU_goOnTo_6 rfl hl (by decide) rfl (fun ls hl => ?_)
  have hR1 : um_R E a (um_sA S 20 2 t) h1 := by rw [eh1]; exact hR.time (by decide) (by rfl)
  have hB1 : um_Bd (um_sA S 20 2 t) := um_Bd_sA hB ht
  have lpg : ∀ (n k : Nat) (T : um_S) (h1 : ur_M) (H : Heap) (locs : List Loc) (ls : Array Slot), 20 - k < n → k ≤ 20 → um_R E a T h1 → um_Bd T → um_goTo S t = um_go (20 - k) T → ur_I D vwCl (ur_A h s.heap.size) s.heap h1 H locs → lv_has ls 5 [(0, .ref (a.1 20 0)), (3, .int (nI k))] → W p l e rmkU_go s m args below meth c H locs 0 0 Q (F0 m 7 ls []) := by
    intro n
    induction n with
    | zero => intro k T h1 H locs ls hn; exact absurd hn (Nat.not_lt_zero _)
    | succ n ih =>
      intro k T h1 H locs ls hn hk hT hBT hgo hI hl
      have g0 : h1 (a.1 20 0) = some (.inr (0, [.ref (a.1 20 1), .ref (a.1 20 3), .ref (a.1 16 0), .ref (a.1 20 5), .long (lN (T.1 20 2)), .int (nI (T.1 20 0))])) := hT.core rfl
      have g5 : h1 (a.1 20 5) = some (.inl (E.1 2, 20, .inr (.inr (.inr (.inr (um_devs a)))))) := hT.core rfl
      refine lv_iload_n hx hb dU_goOnTo_7 rfl (lv_at hl 1 rfl) ?_
      refine lv_aload_n hx hb dU_goOnTo_8 rfl (lv_at hl 0 rfl) ?_
      refine va_get (D := D) (ci := 0) (v := .ref (a.1 20 5)) (C := "UnitRoom") (T := TU) (N := 6) hx hb hts inU hown hV (ur_one hI.1 g0) 0 rfl rfl 3 (by decide) (hts _ mw173) (fun _ h9 => h9) rfl dU_goOnTo_9 ?_
      refine va_alen (v := 20) hx hb hV (ur_one hI.1 g5) 0 2 rfl rfl rfl dU_goOnTo_12 ?_
      refine lv_icmp_ge (tgt := 43) hx hb dU_goOnTo_13 (by decide) (fun c3 => ?_) (fun c3 => ?_)
      · have he9 : k = 20 := Nat.le_antisymm hk (Nat.not_lt.mp (fun z9 => nI_ge (b := 20) z9 (by decide) c3))
        exact ur_rv hx hb hr hlocks hI hQ (by show um_R E a (um_goTo S t) _; rw [hgo, he9]; exact hT) dU_goOnTo_43
      · have hlt : k < 20 := Nat.not_le.mp (fun z9 => c3 (nI_le z9 (by omega)))
        refine lv_aload_n hx hb dU_goOnTo_16 rfl (lv_at hl 0 rfl) ?_
        refine ur_xq (va_runV (As := []) (rest := []) ⟨hx, hb, hml, hown, hts⟩ (kU_next l D E h1 a T hT hBT H.size) (cwV 0 hts (ur_gV mw273 mw275 ms3 mw1 mw276) rfl rfl rfl (by decide +kernel) ⟨(Nat.le_of_ble_eq_true rfl), (Nat.le_of_ble_eq_true rfl)⟩) ⟨ur_blind, va_recv hV (ur_one hI.1 g0) (ci := 0) (q0 := 0) rfl rfl, ur_pre hI hO hK (fun _ _ q => q)⟩ rfl rfl hl.1 rfl (lv_room (Nat.le_of_ble_eq_true rfl)) dU_goOnTo_17 ⟨Nat.le_of_ble_eq_true rfl, Nat.le_of_ble_eq_true rfl⟩) hI (fun r4 h4 H locs p4 hI => ?_)
        obtain ⟨er4, eh4⟩ := p4
        replace eh4 := eh4.symm; subst eh4
        replace er4 := er4.symm; subst er4
        rcases hnx : um_nd T 20 with _ | u
        · refine lv_astoreN (lv' := [(4, .null), (0, .ref (a.1 20 0)), (3, .int (nI k))]) hx hb dU_goOnTo_20 hl (by decide) rfl (fun ls hl => ?_)
          refine lv_aloadN hx hb dU_goOnTo_22 (lv_at hl 0 rfl) ?_
          refine lv_ifnonnullN hx hb dU_goOnTo_24 ?_
          exact ur_rv hx hb hr hlocks hI hQ (by show um_R E a (um_goTo S t) _; rw [hgo, um_go_none hnx]; exact hT) dU_goOnTo_27
        · obtain ⟨hk9, hu9, -⟩ := um_nd_k hnx
          have gu : h1 (a.1 u 0) = some (.inr ((um_ci u), .int (nI (um_words u)) :: .ref (a.1 u 1) :: .int (nI (um_dur u)) :: .long (lN (T.1 u 4)) :: .int (nI (T.1 u 0)) :: .int (nI (T.1 u 1)) :: .int (nI (T.1 u 5)) :: um_tl a T u)) := hT.dev hk9
          have gb : h1 (a.1 u 1) = some (.inl (E.1 0, (um_words u), .inl (T.2 u 1))) := hT.br hk9
          have gm : h1 (a.1 20 1) = some (.inr (1, [.ref (a.1 20 2)])) := hT.core rfl
          have gc : h1 (a.1 20 2) = some (.inl (E.1 0, 4000, .inl (T.2 20 2))) := hT.core rfl
          have hne1 : a.1 20 2 ≠ a.1 u 1 := hT.apart (um_ct_core 2) (um_ct_br hk9) (by omega)
          have hne2 : a.1 u 0 ≠ a.1 20 1 := hT.apart (um_ct_dev hk9) (um_ct_core 1) (by omega)
          refine lv_astore (lv' := [(4, .ref (a.1 u 0)), (0, .ref (a.1 20 0)), (3, .int (nI k))]) hx hb dU_goOnTo_20 hl (by decide) rfl (fun ls hl => ?_)
          refine lv_aload hx hb dU_goOnTo_22 (lv_at hl 0 rfl) ?_
          refine lv_ifnonnull (tgt := 28) hx hb dU_goOnTo_24 (by decide) ?_
          refine lv_aload hx hb dU_goOnTo_28 (lv_at hl 0 rfl) ?_
          refine lv_aload_n hx hb dU_goOnTo_30 rfl (lv_at hl 1 rfl) ?_
          refine va_get (D := D) (ci := 0) (v := .ref (a.1 20 1)) (C := "UnitRoom") (T := TU) (N := 6) hx hb hts inU hown hV (ur_one hI.1 g0) 0 rfl rfl 0 (by decide) (hts _ mw170) (fun _ h9 => h9) rfl dU_goOnTo_31 ?_
          obtain ⟨qc5, hqc5, hcw5⟩ := cu_deliver (R := rmkU_go) hts (um_ci_D u) ⟨(Nat.le_of_ble_eq_true rfl), (Nat.le_of_ble_eq_true rfl)⟩
          refine ur_xv (va_runU (As := [.ref (a.1 20 1)]) (rest := []) ⟨hx, hb, hml, hown, hts⟩ (kD_deliver l D E h1 (a.1 u 0) (a.1 20 1) (a.1 20 2) (um_ci u) (a.1 u 1) (nI (um_words u)) (nI (um_dur u)) (nI (T.1 u 0)) (nI (T.1 u 1)) (nI (T.1 u 5)) (lN (T.1 u 4)) (um_tl a T u) (T.2 20 2) (T.2 u 1) (um_words u) gu gb gm gc (um_ci_D u) (Nat.le_trans (um_words_le u) (by decide)) hne1 hne2 H.size) hcw5 ⟨ur_blind, va_recv hV (ur_one hI.1 gu) (q0 := 0) hqc5 rfl, ur_pre hI hO hK (fun _ _ q => q)⟩ rfl rfl hl.1 rfl (lv_room (Nat.le_of_ble_eq_true rfl)) dU_goOnTo_34 ⟨Nat.le_of_ble_eq_true rfl, Nat.le_of_ble_eq_true rfl⟩) hI (fun h6 H locs p6 hI => ?_)
          have hT9 : um_R E a (um_dlv T u) h6 := by rw [p6, ← um_dev_dlv]; exact hT.dlv hk9
          refine lv_iinc (v := ((nI k) + 1)) (lv' := [(3, .int ((nI k) + 1)), (4, .ref (a.1 u 0)), (0, .ref (a.1 20 0))]) hx hb dU_goOnTo_37 hl (k := 2) rfl rfl (by decide) rfl (fun ls hl => ?_)
          refine lv_goto (tgt := 7) hx hb dU_goOnTo_40 (by decide) ?_
          rw [nI_1] at hl
          exact ih (k + 1) (um_dlv T u) _ H locs ls (by omega) hlt hT9 (um_Bd_dlv hBT u) (by rw [hgo, show 20 - k = (20 - (k + 1)) + 1 by omega, um_go_some hnx]) hI (lv_sub hl [2, 0] rfl)
  exact lpg _ 0 (um_sA S 20 2 t) _ _ _ ls (Nat.lt_succ_self _) (by decide) hR1 hB1 rfl hI (lv_sub hl [1, 0] rfl)
end
section
/-! pure words: which unit; what calls answer -/
def um_un (u : Int32) : Option Nat := if u < 0 then none else if u < 20 then (if um_kind u.toNatClampNeg = 4 then none else some u.toNatClampNeg) else none
theorem um_dvo_un (a : um_Ad) (u : Int32) : um_dvo (um_devs a) u = (um_un u).map (fun d => a.1 d 0) := by
  unfold um_dvo um_un um_devs
  by_cases h0 : u < 0
  · rw [if_pos h0, if_pos h0]; rfl
  · rw [if_neg h0, if_neg h0]
    by_cases h1 : u < 20
    · rw [if_pos h1, if_pos h1]
      by_cases h2 : um_kind u.toNatClampNeg = 4
      · rw [if_pos h2, if_pos h2]; rfl
      · rw [if_neg h2, if_neg h2]; rfl
    · rw [if_neg h1, if_neg h1]; rfl
theorem um_un_k {u : Int32} {d : Nat} (h : um_un u = some d) : um_kind d ≠ 4 ∧ u = nI d := by
  unfold um_un at h
  by_cases h0 : u < 0
  · rw [if_pos h0] at h; cases h
  · rw [if_neg h0] at h
    by_cases h1 : u < 20
    · rw [if_pos h1] at h
      by_cases h2 : um_kind u.toNatClampNeg = 4
      · rw [if_pos h2] at h; cases h
      · rw [if_neg h2] at h
        cases h
        obtain ⟨j, hj, rfl⟩ := nI_of h0
        rw [nI_clamp hj] at h2 ⊢
        exact ⟨h2, rfl⟩
    · rw [if_neg h1] at h; cases h
theorem um_kinds {d : Nat} (h : um_kind d ≠ 4) : um_kind d = 0 ∨ um_kind d = 1 ∨ um_kind d = 2 ∨ um_kind d = 3 := by
  unfold um_kind at h ⊢
  by_cases h1 : d < 4
  · rw [if_pos h1]; exact Or.inl rfl
  · rw [if_neg h1] at h ⊢
    by_cases h2 : d = 8
    · rw [if_pos h2]; exact Or.inr (Or.inl rfl)
    · rw [if_neg h2] at h ⊢
      by_cases h3 : d = 9
      · rw [if_pos h3]; exact Or.inr (Or.inl rfl)
      · rw [if_neg h3] at h ⊢
        by_cases h4 : d = 16
        · rw [if_pos h4]; exact Or.inr (Or.inr (Or.inl rfl))
        · rw [if_neg h4] at h ⊢
          by_cases h5 : d = 17
          · rw [if_pos h5]; exact Or.inr (Or.inr (Or.inr rfl))
          · rw [if_neg h5] at h ⊢
            by_cases h6 : d = 18
            · rw [if_pos h6]; exact Or.inr (Or.inr (Or.inr rfl))
            · rw [if_neg h6] at h ⊢
              by_cases h7 : d = 19
              · rw [if_pos h7]; exact Or.inr (Or.inr (Or.inr rfl))
              · rw [if_neg h7] at h; exact absurd rfl h
theorem um_kd : ∀ d, d < 20 → (um_kind d = 0 → um_words d = 100) ∧ (um_kind d = 1 → um_words d = 100) ∧ (um_kind d = 2 → d = 16) ∧ (um_kind d = 3 → 17 ≤ d ∧ 0 < um_words d ∧ um_words d ≤ 24) := by decide
theorem um_devT {a : um_Ad} {S : um_S} {d : Nat} (hk : um_kind d = 0) : um_dev a S d = .inr (3, [.int 100, .ref (a.1 d 1), .int (nI (um_dur d)), .long (lN (S.1 d 4)), .int (nI (S.1 d 0)), .int (nI (S.1 d 1)), .int (nI (S.1 d 5)), .int (nI (S.1 d 2)), .ref (a.1 d 2)]) := by
  unfold um_dev um_ci um_tl
  rw [if_pos hk, if_pos hk, (um_kd d (um_k20' (by omega))).1 hk]
  rfl
theorem um_devK {a : um_Ad} {S : um_S} {d : Nat} (hk : um_kind d = 1) : um_dev a S d = .inr (4, [.int 100, .ref (a.1 d 1), .int (nI (um_dur d)), .long (lN (S.1 d 4)), .int (nI (S.1 d 0)), .int (nI (S.1 d 1)), .int (nI (S.1 d 5)), .ref (a.1 d 2)]) := by
  unfold um_dev um_ci um_tl
  rw [if_neg (show ¬ um_kind d = 0 by omega), if_neg (show ¬ um_kind d = 0 by omega), if_pos hk, if_pos hk, (um_kd d (um_k20' (by omega))).2.1 hk]
  rfl
theorem um_devR {a : um_Ad} {S : um_S} {d : Nat} (hk : um_kind d = 2) : um_dev a S d = .inr (5, [.int 16, .ref (a.1 d 1), .int (nI (um_dur d)), .long (lN (S.1 d 4)), .int (nI (S.1 d 0)), .int (nI (S.1 d 1)), .int (nI (S.1 d 5)), .ref (a.1 d 2), .int (nI (S.1 d 2)), .int (nI (S.1 d 3))]) := by
  unfold um_dev um_ci um_tl
  rw [if_neg (show ¬ um_kind d = 0 by omega), if_neg (show ¬ um_kind d = 0 by omega), if_neg (show ¬ um_kind d = 1 by omega), if_neg (show ¬ um_kind d = 1 by omega), if_pos hk, if_pos hk, show um_words d = 16 by rw [(um_kd d (um_k20' (by omega))).2.2.1 hk]; rfl]
  rfl
theorem um_devW {a : um_Ad} {S : um_S} {d : Nat} (hk : um_kind d = 3) : um_dev a S d = .inr (6, [.int (nI (um_words d)), .ref (a.1 d 1), .int (nI (um_dur d)), .long (lN (S.1 d 4)), .int (nI (S.1 d 0)), .int (nI (S.1 d 1)), .int (nI (S.1 d 5)), .ref (a.1 d 2), .int (if d = 18 then 1 else 0), .int (nI (S.1 d 2))]) := by
  unfold um_dev um_ci um_tl
  rw [if_neg (show ¬ um_kind d = 0 by omega), if_neg (show ¬ um_kind d = 0 by omega), if_neg (show ¬ um_kind d = 1 by omega), if_neg (show ¬ um_kind d = 1 by omega), if_neg (show ¬ um_kind d = 2 by omega), if_neg (show ¬ um_kind d = 2 by omega)]
theorem um_twoB {E : ur_Ev} {a : um_Ad} {S : um_S} {d : Nat} (hk : um_kind d ≤ 1) : um_two E a S d = .inl (E.1 3, 64, .inr (.inr (.inr (.inr (um_rows a d))))) := by
  unfold um_two
  rw [if_neg (by omega), if_neg (by omega)]
theorem um_twoR {E : ur_Ev} {a : um_Ad} {S : um_S} {d : Nat} (hk : um_kind d = 2) : um_two E a S d = .inl (E.1 0, 1600, .inl (S.2 d 2)) := by
  unfold um_two
  rw [if_pos hk]
theorem um_twoW {E : ur_Ev} {a : um_Ad} {S : um_S} {d : Nat} (hk : um_kind d = 3) : um_two E a S d = .inl (E.1 4, 300, .inr (.inr (.inr (.inr (um_rows a d))))) := by
  unfold um_two
  rw [if_neg (by omega), if_pos hk]
theorem um_rows_some {a : um_Ad} {d b x : Nat} (h : um_rows a d b = some x) : a.2 d b = true ∧ x = a.1 d (3 + b) := by
  unfold um_rows at h
  by_cases q : a.2 d b = true
  · rw [if_pos q] at h; cases h; exact ⟨q, rfl⟩
  · rw [if_neg q] at h; cases h
theorem um_rows_none {a : um_Ad} {d b : Nat} (h : um_rows a d b = none) : a.2 d b = false := by
  unfold um_rows at h
  by_cases q : a.2 d b = true
  · rw [if_pos q] at h; cases h
  · exact Bool.eq_false_iff.mpr q
theorem um_R.rowsAt {E : ur_Ev} {a : um_Ad} {S : um_S} {h : ur_M} (hR : um_R E a S h) {d : Nat} (hk : um_kind d ≤ 1) : um_rowsAt E h (um_rows a d) (fun b => S.2 d (3 + b)) := by
  refine ⟨fun j hj x hx => ?_, fun j hj hx => hR.2.2.1 d j hk (um_rows_none hx)⟩
  obtain ⟨h1, rfl⟩ := um_rows_some hx
  refine hR.1 d (3 + j) _ ?_
  rw [um_ct_row (by omega), if_pos h1]
  unfold um_row
  rw [if_neg (by omega)]
theorem um_R.linesAt {E : ur_Ev} {a : um_Ad} {S : um_S} {h : ur_M} (hR : um_R E a S h) {d : Nat} (hk : um_kind d = 3) : um_linesAt E h (um_rows a d) (fun b => S.1 d (6 + b)) (fun b => S.2 d (3 + b)) (S.1 d 2) := by
  intro j hj
  obtain ⟨h1, h2⟩ := hR.2.2.2 d j hk hj
  refine ⟨a.1 d (3 + j), if_pos h1, hR.1 d (3 + j) _ ?_, h2⟩
  rw [um_ct_row (by omega), if_pos h1]
  unfold um_row
  rw [if_pos hk]
def um_busy (S : um_S) (u : Int32) : Bool := match um_un u with
  | none => false
  | some d => decide (S.1 20 2 < S.1 d 4)
theorem um_cmp_le {x y : Nat} (hx : x < 2 ^ 31) (hy : y < 2 ^ 31) : (lg_cmp (lN x) (lN y) ≤ 0) ↔ x ≤ y := by
  rw [← Int32.not_lt, um_cmp_gt hx hy]
  exact Nat.not_lt
def um_dt (n : Int32) : Nat := (if 0 < (if n < 10000 then n else 10000) then (if n < 10000 then n else 10000) else 0).toNatClampNeg
theorem um_dt_e (n : Int32) : (if 0 < (if n < 10000 then n else 10000) then (if n < 10000 then n else 10000) else (0 : Int32)) = nI (um_dt n) ∧ um_dt n ≤ 10000 := by
  unfold um_dt
  by_cases h1 : n < 10000
  · rw [if_pos h1]
    by_cases h2 : 0 < n
    · rw [if_pos h2]
      obtain ⟨j, hj, rfl⟩ := nI_of (x := n) (fun z => Int32.lt_irrefl (Int32.lt_trans h2 z))
      rw [nI_clamp hj]
      exact ⟨rfl, Nat.le_of_lt ((nI_ltI (b := 10000) hj (by decide)).mp h1)⟩
    · rw [if_neg h2]; exact ⟨rfl, by decide⟩
  · rw [if_neg h1, if_pos (by decide)]; exact ⟨rfl, by decide⟩
theorem um_go_core : ∀ (n : Nat) (S : um_S) (k : Nat), (um_go n S).1 20 k = S.1 20 k := by
  intro n
  induction n with
  | zero => intro S k; rfl
  | succ n ih =>
    intro S k
    rcases h : um_nd S 20 with _ | u
    · rw [um_go_none h]
    · rw [um_go_some h, ih]
      exact um_sA_n _ (fun z => um_d20 (um_nd_k h).1 z.1.symm)
theorem um_goTo_now (S : um_S) (t : Nat) : (um_goTo S t).1 20 2 = t := by
  unfold um_goTo
  rw [um_go_core]
  exact um_sA_1 _ _ _ _
theorem um_Bd_go : ∀ (n : Nat) {S : um_S}, um_Bd S → um_Bd (um_go n S) := by
  intro n
  induction n with
  | zero => intro S h; exact h
  | succ n ih =>
    intro S h
    rcases q : um_nd S 20 with _ | u
    · rw [um_go_none q]; exact h
    · rw [um_go_some q]; exact ih (um_Bd_dlv h u)
theorem um_Bd_goTo {S : um_S} (h : um_Bd S) {t : Nat} (ht : t < 2 ^ 31) : um_Bd (um_goTo S t) := um_Bd_go 20 (um_Bd_sA h ht)
def um_tell (S : um_S) (d : Nat) : Int32 := if um_kind d = 1 then -1 else if um_kind d = 2 then nI (S.1 d 3) else nI (S.1 d 2)
def um_unit (S : um_S) (u : Int32) : Int32 := match um_un u with
  | none => -1
  | some d => um_tell S d
def um_letr (S : um_S) (u k i : Int32) : Int32 := match um_un u with
  | none => -1
  | some d => if um_kind d = 3 then um_lAt (fun b => S.1 d (6 + b)) (fun b => S.2 d (3 + b)) (S.1 d 2) k i else -1
def um_blck (S : um_S) (u b i : Int32) : Int32 := match um_un u with
  | none => 2147483647
  | some d => if um_kind d ≤ 1 then um_wordAt (fun b => S.2 d (3 + b)) b i else 2147483647
def um_df (S : um_S) (d : Nat) (op m x : Int32) : Int32 := if um_kind d = 0 then um_fT op (nI (S.1 d 2)) else if um_kind d = 1 then um_fK op m x else if um_kind d = 2 then um_fR op (nI (S.1 d 3)) else um_fW op (if d = 18 then 1 else 0) m
def um_fltN (op m : Int32) : Int32 := if op < 0 then 1 else if op ≤ 2 then (if op = 0 then 5 else if um_holds m 1 = true then 5 else 2) else 1
def um_flt (S : um_S) (d : Nat) (op m x : Int32) : Int32 := if op < 0 then 1 else if op ≤ 2 then (if op = 0 then um_df S d op m x else if um_holds m (nI (um_words d)) = true then um_df S d op m x else 2) else 1
end
section
theorem dU_isBusy_0 : decode cU_isBusy 0 = .ok (.aload_n 0, 1) := by decide +kernel
theorem dU_isBusy_1 : decode cU_isBusy 1 = .ok (.iload_n 1, 1) := by decide +kernel
theorem dU_isBusy_2 : decode cU_isBusy 2 = .ok (.invokevirtual 83, 3) := by decide +kernel
theorem dU_isBusy_5 : decode cU_isBusy 5 = .ok (.astore_n 2, 1) := by decide +kernel
theorem dU_isBusy_6 : decode cU_isBusy 6 = .ok (.aload_n 2, 1) := by decide +kernel
theorem dU_isBusy_7 : decode cU_isBusy 7 = .ok (.ifnull 19, 3) := by decide +kernel
theorem dU_isBusy_10 : decode cU_isBusy 10 = .ok (.aload_n 2, 1) := by decide +kernel
theorem dU_isBusy_11 : decode cU_isBusy 11 = .ok (.getfield 91, 3) := by decide +kernel
theorem dU_isBusy_14 : decode cU_isBusy 14 = .ok (.aload_n 0, 1) := by decide +kernel
theorem dU_isBusy_15 : decode cU_isBusy 15 = .ok (.getfield 47, 3) := by decide +kernel
theorem dU_isBusy_18 : decode cU_isBusy 18 = .ok (.lcmp, 1) := by decide +kernel
theorem dU_isBusy_19 : decode cU_isBusy 19 = .ok (.ifCond .le 7, 3) := by decide +kernel
theorem dU_isBusy_22 : decode cU_isBusy 22 = .ok (.iconst 1, 1) := by decide +kernel
theorem dU_isBusy_23 : decode cU_isBusy 23 = .ok (.goto 4, 3) := by decide +kernel
theorem dU_isBusy_26 : decode cU_isBusy 26 = .ok (.iconst 0, 1) := by decide +kernel
theorem dU_isBusy_27 : decode cU_isBusy 27 = .ok (.ireturn, 1) := by decide +kernel
abbrev rmkU_busy : Room := { frames := 1, cells := 0, slots := 0, locals := 21 }
set_option maxHeartbeats 4000000 in
set_option maxRecDepth 100000 in
theorem kU_busy (l : Launch) (D : va_G) (E : ur_Ev) (h : ur_M) (a : um_Ad) (S : um_S) (u : Int32)  (hR : um_R E a S h) (hB : um_Bd S) : ur_Mi l yU_isBusy wsU_isBusy rmkU_busy D vwCl (ur_v E) [.ref (a.1 20 0), .int u] h (fun r h2 => r = um_b (um_busy S u) ∧ h2 = h) 0 0 := by
  intro sz
  refine ur_of (cc := cU_isBusy) (maxL := 3) (ret := (some .boolean)) (by decide) rfl (Nat.le_of_ble_eq_true rfl) ?_
  intro p e s m args below meth c ls Q hsz hx hb hml hr hlocks hnm hown hts hO hK hI hQ hl
  subst hsz
  have hV := hK.1
  have hts : ∀ w ∈ ur_G, w.before args s = true := fun w hw => hts w (List.mem_cons_of_mem _ hw)
  have hZ : ur_Z E (ur_A h s.heap.size) s s.heap := hO.1
  have hown : s.vm.findClass "UnitRoom" = some m.cls := hown
  have hl : lv_has ls 3 [(0, .ref (a.1 20 0)), (1, .int u)] := hl
  have g0 : h (a.1 20 0) = some (.inr (0, [.ref (a.1 20 1), .ref (a.1 20 3), .ref (a.1 16 0), .ref (a.1 20 5), .long (lN (S.1 20 2)), .int (nI (S.1 20 0))])) := hR.core rfl
  have g5 : h (a.1 20 5) = some (.inl (E.1 2, 20, .inr (.inr (.inr (.inr (um_devs a)))))) := hR.core rfl
  refine lv_aload_n hx hb dU_isBusy_0 rfl (lv_at hl 0 rfl) ?_
  refine lv_iload_n hx hb dU_isBusy_1 rfl (lv_at hl 1 rfl) ?_
  refine ur_xq (va_runV (As := [.int u]) (rest := []) ⟨hx, hb, hml, hown, hts⟩ (kU_dev l D E h (a.1 20 0) (a.1 20 1) (a.1 20 3) (a.1 16 0) (a.1 20 5) (lN (S.1 20 2)) (nI (S.1 20 0)) (um_devs a) u g0 g5 s.heap.size) (cwV 1 hts (ur_gV mw243 mw245 ms0 mw1 mw246) rfl rfl rfl (by decide +kernel) ⟨(Nat.le_of_ble_eq_true rfl), (Nat.le_of_ble_eq_true rfl)⟩) ⟨ur_blind, va_recv hV (ur_one hI.1 g0) (ci := 0) (q0 := 0) rfl rfl, ur_pre hI hO hK (fun _ _ q => q)⟩ rfl rfl hl.1 rfl (lv_room (Nat.le_of_ble_eq_true rfl)) dU_isBusy_2 ⟨Nat.le_of_ble_eq_true rfl, Nat.le_of_ble_eq_true rfl⟩) hI (fun r1 h1 H locs p1 hI => ?_)
  obtain ⟨er1, eh1⟩ := p1
  replace eh1 := eh1.symm; subst eh1
  replace er1 := er1.symm; subst er1
  rw [um_dvo_un]
  rcases hun : um_un u with _ | d
  · refine lv_astore_nN (lv' := [(2, .null), (0, .ref (a.1 20 0)), (1, .int u)]) hx hb dU_isBusy_5 rfl hl (by decide) rfl (fun ls hl => ?_)
    refine lv_aload_nN hx hb dU_isBusy_6 rfl (lv_at hl 0 rfl) ?_
    refine lv_ifnullN (tgt := 26) hx hb dU_isBusy_7 (by decide) ?_
    refine lv_iconst (v := 0) hx hb dU_isBusy_26 (by decide) ?_
    exact ur_rz hx hb hr hlocks hI hQ rfl ⟨(by unfold um_busy; rw [hun]; rfl), rfl⟩ dU_isBusy_27
  · obtain ⟨hk9, hu9⟩ := um_un_k hun
    have gu : h (a.1 d 0) = some (.inr ((um_ci d), .int (nI (um_words d)) :: .ref (a.1 d 1) :: .int (nI (um_dur d)) :: .long (lN (S.1 d 4)) :: .int (nI (S.1 d 0)) :: .int (nI (S.1 d 1)) :: .int (nI (S.1 d 5)) :: um_tl a S d)) := hR.dev hk9
    refine lv_astore_n (lv' := [(2, .ref (a.1 d 0)), (0, .ref (a.1 20 0)), (1, .int u)]) hx hb dU_isBusy_5 rfl hl (by decide) rfl (fun ls hl => ?_)
    refine lv_aload_n hx hb dU_isBusy_6 rfl (lv_at hl 0 rfl) ?_
    refine lv_ifnull hx hb dU_isBusy_7 ?_
    refine lv_aload_n hx hb dU_isBusy_10 rfl (lv_at hl 0 rfl) ?_
    refine ur_gD3 hx hb hts hown hV hI (um_ci_D d) gu (hts _ mw77) (fun _ h9 => h9) dU_isBusy_11 ?_
    refine lv_aload_n hx hb dU_isBusy_14 rfl (lv_at hl 1 rfl) ?_
    refine va_get (D := D) (ci := 0) (v := .long (lN (S.1 20 2))) (C := "UnitRoom") (T := TU) (N := 6) hx hb hts inU hown hV (ur_one hI.1 g0) 0 rfl rfl 4 (by decide) (hts _ mw174) (fun _ h9 => h9) rfl dU_isBusy_15 ?_
    refine W.lcmp hx hb dU_isBusy_18 ?_
    refine lv_if_le (tgt := 26) hx hb dU_isBusy_19 (by decide) (fun c2 => ?_) (fun c2 => ?_)
    · refine lv_iconst (v := 0) hx hb dU_isBusy_26 (by decide) ?_
      exact ur_rz hx hb hr hlocks hI hQ rfl ⟨(by unfold um_busy; rw [hun]; show (0 : Int32) = um_b (decide (S.1 20 2 < S.1 d 4)); rw [decide_eq_false (Nat.not_lt.mpr ((um_cmp_le (hB d 4) (hB 20 2)).mp c2))]; rfl), rfl⟩ dU_isBusy_27
    · refine lv_iconst (v := 1) hx hb dU_isBusy_22 (by decide) ?_
      refine lv_goto (tgt := 27) hx hb dU_isBusy_23 (by decide) ?_
      exact ur_rz hx hb hr hlocks hI hQ rfl ⟨(by unfold um_busy; rw [hun]; show (1 : Int32) = um_b (decide (S.1 20 2 < S.1 d 4)); rw [decide_eq_true (Nat.not_le.mp (fun z9 => c2 ((um_cmp_le (hB d 4) (hB 20 2)).mpr z9)))]; rfl), rfl⟩ dU_isBusy_27
theorem dU_pass_0 : decode cU_pass 0 = .ok (.aload_n 0, 1) := by decide +kernel
theorem dU_pass_1 : decode cU_pass 1 = .ok (.aload_n 0, 1) := by decide +kernel
theorem dU_pass_2 : decode cU_pass 2 = .ok (.getfield 47, 3) := by decide +kernel
theorem dU_pass_5 : decode cU_pass 5 = .ok (.iconst 0, 1) := by decide +kernel
theorem dU_pass_6 : decode cU_pass 6 = .ok (.sipush 10000, 3) := by decide +kernel
theorem dU_pass_9 : decode cU_pass 9 = .ok (.iload_n 1, 1) := by decide +kernel
theorem dU_pass_10 : decode cU_pass 10 = .ok (.invokestatic 112, 3) := by decide +kernel
theorem dU_pass_13 : decode cU_pass 13 = .ok (.invokestatic 116, 3) := by decide +kernel
theorem dU_pass_16 : decode cU_pass 16 = .ok (.i2l, 1) := by decide +kernel
theorem dU_pass_17 : decode cU_pass 17 = .ok (.ladd, 1) := by decide +kernel
theorem dU_pass_18 : decode cU_pass 18 = .ok (.invokevirtual 100, 3) := by decide +kernel
theorem dU_pass_21 : decode cU_pass 21 = .ok (.aload_n 0, 1) := by decide +kernel
theorem dU_pass_22 : decode cU_pass 22 = .ok (.getfield 47, 3) := by decide +kernel
theorem dU_pass_25 : decode cU_pass 25 = .ok (.lreturn, 1) := by decide +kernel
abbrev rmkU_pass : Room := { frames := 4, cells := 0, slots := 0, locals := 93 }
set_option maxHeartbeats 4000000 in
set_option maxRecDepth 100000 in
theorem kU_pass (l : Launch) (D : va_G) (E : ur_Ev) (h : ur_M) (a : um_Ad) (S : um_S) (n : Int32)  (hR : um_R E a S h) (hB : um_Bd S) (hnow : S.1 20 2 < 2 ^ 30) : ur_Ml l yU_pass wsU_pass rmkU_pass D vwCl (ur_v E) [.ref (a.1 20 0), .int n] h (fun r h2 => r = lN (S.1 20 2 + um_dt n) ∧ um_R E a (um_goTo S (S.1 20 2 + um_dt n)) h2) 0 0 := by
  intro sz
  refine ur_of (cc := cU_pass) (maxL := 2) (ret := (some .long)) (by decide) rfl (Nat.le_of_ble_eq_true rfl) ?_
  intro p e s m args below meth c ls Q hsz hx hb hml hr hlocks hnm hown hts hO hK hI hQ hl
  subst hsz
  have hV := hK.1
  have hts : ∀ w ∈ ur_G, w.before args s = true := fun w hw => hts w (List.mem_cons_of_mem _ hw)
  have hZ : ur_Z E (ur_A h s.heap.size) s s.heap := hO.1
  have hown : s.vm.findClass "UnitRoom" = some m.cls := hown
  have hl : lv_has ls 2 [(0, .ref (a.1 20 0)), (1, .int n)] := hl
  have g0 : h (a.1 20 0) = some (.inr (0, [.ref (a.1 20 1), .ref (a.1 20 3), .ref (a.1 16 0), .ref (a.1 20 5), .long (lN (S.1 20 2)), .int (nI (S.1 20 0))])) := hR.core rfl
  have g5 : h (a.1 20 5) = some (.inl (E.1 2, 20, .inr (.inr (.inr (.inr (um_devs a)))))) := hR.core rfl
  refine lv_aload_n hx hb dU_pass_0 rfl (lv_at hl 0 rfl) ?_
  refine lv_aload_n hx hb dU_pass_1 rfl (lv_at hl 0 rfl) ?_
  refine va_get (D := D) (ci := 0) (v := .long (lN (S.1 20 2))) (C := "UnitRoom") (T := TU) (N := 6) hx hb hts inU hown hV (ur_one hI.1 g0) 0 rfl rfl 4 (by decide) (hts _ mw174) (fun _ h9 => h9) rfl dU_pass_2 ?_
  refine lv_iconst (v := 0) hx hb dU_pass_5 (by decide) ?_
  refine lv_sipush (v := 10000) hx hb dU_pass_6 (by decide) ?_
  refine lv_iload_n hx hb dU_pass_9 rfl (lv_at hl 1 rfl) ?_
  refine va_mmin hx hb (hml.trans hl.1.symm) hown (hts _ mw452) (hts _ mw453) (hts _ mw6) (hts _ mw454) (Nat.le_of_ble_eq_true rfl) (Nat.le_of_ble_eq_true rfl) (Nat.le_of_ble_eq_true rfl) (Nat.le_of_ble_eq_true rfl) dU_pass_10 ?_
  refine va_mmax hx hb (hml.trans hl.1.symm) hown (hts _ mw455) (hts _ mw61) (hts _ mw6) (hts _ mw62) (Nat.le_of_ble_eq_true rfl) (Nat.le_of_ble_eq_true rfl) (Nat.le_of_ble_eq_true rfl) (Nat.le_of_ble_eq_true rfl) dU_pass_13 ?_
  refine lv_i2l hx hb dU_pass_16 rfl ?_
  refine lv_ladd hx hb dU_pass_17 ?_
  rw [(um_dt_e n).1, nI_l (Nat.lt_of_le_of_lt (um_dt_e n).2 (by decide)), lN_add]
  have hdt := (um_dt_e n).2
  refine ur_xv (va_runV (As := [.long (lN (S.1 20 2 + um_dt n))]) (rest := []) ⟨hx, hb, hml, hown, hts⟩ (kU_go l D E h a S (S.1 20 2 + um_dt n) (by first | assumption | omega | decide) (by first | assumption | omega | decide) (by omega) s.heap.size) (cwV 1 hts (ur_gV mw269 mw271 ms2 mw1 mw272) rfl rfl rfl (by decide +kernel) ⟨(Nat.le_of_ble_eq_true rfl), (Nat.le_of_ble_eq_true rfl)⟩) ⟨ur_blind, va_recv hV (ur_one hI.1 g0) (ci := 0) (q0 := 0) rfl rfl, ur_pre hI hO hK (fun _ _ q => q)⟩ rfl rfl hl.1 rfl (lv_room (Nat.le_of_ble_eq_true rfl)) dU_pass_18 ⟨Nat.le_of_ble_eq_true rfl, Nat.le_of_ble_eq_true rfl⟩) hI (fun h1 H locs p1 hI => ?_)
  have hT : um_R E a (um_goTo S (S.1 20 2 + um_dt n)) h1 := p1
  generalize hTe : um_goTo S (S.1 20 2 + um_dt n) = T at hT
  have g0 : h1 (a.1 20 0) = some (.inr (0, [.ref (a.1 20 1), .ref (a.1 20 3), .ref (a.1 16 0), .ref (a.1 20 5), .long (lN (T.1 20 2)), .int (nI (T.1 20 0))])) := hT.core rfl
  refine lv_aload_n hx hb dU_pass_21 rfl (lv_at hl 0 rfl) ?_
  refine va_get (D := D) (ci := 0) (v := .long (lN (T.1 20 2))) (C := "UnitRoom") (T := TU) (N := 6) hx hb hts inU hown hV (ur_one hI.1 g0) 0 rfl rfl 4 (by decide) (hts _ mw174) (fun _ h9 => h9) rfl dU_pass_22 ?_
  exact ur_rl hx hb hr hlocks hI hQ ⟨(by rw [← hTe, um_goTo_now]), (by rw [hTe]; exact hT)⟩ dU_pass_25
theorem dU_unit_0 : decode cU_unit 0 = .ok (.aload_n 0, 1) := by decide +kernel
theorem dU_unit_1 : decode cU_unit 1 = .ok (.iload_n 1, 1) := by decide +kernel
theorem dU_unit_2 : decode cU_unit 2 = .ok (.invokevirtual 83, 3) := by decide +kernel
theorem dU_unit_5 : decode cU_unit 5 = .ok (.astore_n 2, 1) := by decide +kernel
theorem dU_unit_6 : decode cU_unit 6 = .ok (.aload_n 2, 1) := by decide +kernel
theorem dU_unit_7 : decode cU_unit 7 = .ok (.ifnonnull 7, 3) := by decide +kernel
theorem dU_unit_10 : decode cU_unit 10 = .ok (.iconst (-1), 1) := by decide +kernel
theorem dU_unit_11 : decode cU_unit 11 = .ok (.goto 7, 3) := by decide +kernel
theorem dU_unit_14 : decode cU_unit 14 = .ok (.aload_n 2, 1) := by decide +kernel
theorem dU_unit_15 : decode cU_unit 15 = .ok (.invokevirtual 127, 3) := by decide +kernel
theorem dU_unit_18 : decode cU_unit 18 = .ok (.ireturn, 1) := by decide +kernel
abbrev rmkU_unit : Room := { frames := 1, cells := 0, slots := 0, locals := 21 }
set_option maxHeartbeats 4000000 in
set_option maxRecDepth 100000 in
theorem kU_unit (l : Launch) (D : va_G) (E : ur_Ev) (h : ur_M) (a : um_Ad) (S : um_S) (u : Int32)  (hR : um_R E a S h) (hB : um_Bd S) : ur_Mi l yU_unit wsU_unit rmkU_unit D vwCl (ur_v E) [.ref (a.1 20 0), .int u] h (fun r h2 => r = um_unit S u ∧ h2 = h) 0 0 := by
  intro sz
  refine ur_of (cc := cU_unit) (maxL := 3) (ret := (some .int)) (by decide) rfl (Nat.le_of_ble_eq_true rfl) ?_
  intro p e s m args below meth c ls Q hsz hx hb hml hr hlocks hnm hown hts hO hK hI hQ hl
  subst hsz
  have hV := hK.1
  have hts : ∀ w ∈ ur_G, w.before args s = true := fun w hw => hts w (List.mem_cons_of_mem _ hw)
  have hZ : ur_Z E (ur_A h s.heap.size) s s.heap := hO.1
  have hown : s.vm.findClass "UnitRoom" = some m.cls := hown
  have hl : lv_has ls 3 [(0, .ref (a.1 20 0)), (1, .int u)] := hl
  have g0 : h (a.1 20 0) = some (.inr (0, [.ref (a.1 20 1), .ref (a.1 20 3), .ref (a.1 16 0), .ref (a.1 20 5), .long (lN (S.1 20 2)), .int (nI (S.1 20 0))])) := hR.core rfl
  have g5 : h (a.1 20 5) = some (.inl (E.1 2, 20, .inr (.inr (.inr (.inr (um_devs a)))))) := hR.core rfl
  refine lv_aload_n hx hb dU_unit_0 rfl (lv_at hl 0 rfl) ?_
  refine lv_iload_n hx hb dU_unit_1 rfl (lv_at hl 1 rfl) ?_
  refine ur_xq (va_runV (As := [.int u]) (rest := []) ⟨hx, hb, hml, hown, hts⟩ (kU_dev l D E h (a.1 20 0) (a.1 20 1) (a.1 20 3) (a.1 16 0) (a.1 20 5) (lN (S.1 20 2)) (nI (S.1 20 0)) (um_devs a) u g0 g5 s.heap.size) (cwV 1 hts (ur_gV mw243 mw245 ms0 mw1 mw246) rfl rfl rfl (by decide +kernel) ⟨(Nat.le_of_ble_eq_true rfl), (Nat.le_of_ble_eq_true rfl)⟩) ⟨ur_blind, va_recv hV (ur_one hI.1 g0) (ci := 0) (q0 := 0) rfl rfl, ur_pre hI hO hK (fun _ _ q => q)⟩ rfl rfl hl.1 rfl (lv_room (Nat.le_of_ble_eq_true rfl)) dU_unit_2 ⟨Nat.le_of_ble_eq_true rfl, Nat.le_of_ble_eq_true rfl⟩) hI (fun r1 h1 H locs p1 hI => ?_)
  obtain ⟨er1, eh1⟩ := p1
  replace eh1 := eh1.symm; subst eh1
  replace er1 := er1.symm; subst er1
  rw [um_dvo_un]
  rcases hun : um_un u with _ | d
  · refine lv_astore_nN (lv' := [(2, .null), (0, .ref (a.1 20 0)), (1, .int u)]) hx hb dU_unit_5 rfl hl (by decide) rfl (fun ls hl => ?_)
    refine lv_aload_nN hx hb dU_unit_6 rfl (lv_at hl 0 rfl) ?_
    refine lv_ifnonnullN hx hb dU_unit_7 ?_
    refine lv_iconst (v := (-1)) hx hb dU_unit_10 (by decide) ?_
    refine lv_goto (tgt := 18) hx hb dU_unit_11 (by decide) ?_
    exact ur_ri hx hb hr hlocks hI hQ ⟨(by unfold um_unit; rw [hun]), rfl⟩ dU_unit_18
  · obtain ⟨hk9, hu9⟩ := um_un_k hun
    have gu : h (a.1 d 0) = some (.inr ((um_ci d), .int (nI (um_words d)) :: .ref (a.1 d 1) :: .int (nI (um_dur d)) :: .long (lN (S.1 d 4)) :: .int (nI (S.1 d 0)) :: .int (nI (S.1 d 1)) :: .int (nI (S.1 d 5)) :: um_tl a S d)) := hR.dev hk9
    refine lv_astore_n (lv' := [(2, .ref (a.1 d 0)), (0, .ref (a.1 20 0)), (1, .int u)]) hx hb dU_unit_5 rfl hl (by decide) rfl (fun ls hl => ?_)
    refine lv_aload_n hx hb dU_unit_6 rfl (lv_at hl 0 rfl) ?_
    refine lv_ifnonnull (tgt := 14) hx hb dU_unit_7 (by decide) ?_
    refine lv_aload_n hx hb dU_unit_14 rfl (lv_at hl 0 rfl) ?_
    rcases um_kinds hk9 with hkk | hkk | hkk | hkk
    · have gk : h (a.1 d 0) = some (.inr (3, [.int 100, .ref (a.1 d 1), .int (nI (um_dur d)), .long (lN (S.1 d 4)), .int (nI (S.1 d 0)), .int (nI (S.1 d 1)), .int (nI (S.1 d 5)), .int (nI (S.1 d 2)), .ref (a.1 d 2)])) := (um_R.dev hR hk9).trans (by rw [um_devT hkk])
      refine ur_xi (va_runU (As := []) (rest := []) ⟨hx, hb, hml, hown, hts⟩ (kT_tell l D E h (a.1 d 0) (a.1 d 1) (a.1 d 2) (nI (um_dur d)) (nI (S.1 d 0)) (nI (S.1 d 1)) (nI (S.1 d 5)) (nI (S.1 d 2)) (lN (S.1 d 4)) gk H.size) (va_cwA (owner := "UnitRoom$Device") 0 hts (ur_gU mw541 mw543 mw548 mw549 mw8 mw550) rfl rfl rfl (hK.2.1.2.1 ⟨"UnitRoom$Device", "tell", "()I"⟩ (by decide +kernel)) (by decide +kernel) ⟨(Nat.le_of_ble_eq_true rfl), (Nat.le_of_ble_eq_true rfl)⟩) ⟨ur_blind, va_recv hV (ur_one hI.1 gk) (ci := 3) (q0 := 0) rfl rfl, ur_pre hI hO hK (fun _ _ q => q)⟩ rfl rfl hl.1 rfl (lv_room (Nat.le_of_ble_eq_true rfl)) dU_unit_15 ⟨Nat.le_of_ble_eq_true rfl, Nat.le_of_ble_eq_true rfl⟩) hI (fun r2 h2 H locs p2 hI => ?_)
      obtain ⟨er2, eh2⟩ := p2
      replace eh2 := eh2.symm; subst eh2
      replace er2 := er2.symm; subst er2
      exact ur_ri hx hb hr hlocks hI hQ ⟨(by unfold um_unit; rw [hun]; show _ = um_tell S d; unfold um_tell; rw [if_neg (by omega), if_neg (by omega)]), rfl⟩ dU_unit_18
    · have gk : h (a.1 d 0) = some (.inr (4, [.int 100, .ref (a.1 d 1), .int (nI (um_dur d)), .long (lN (S.1 d 4)), .int (nI (S.1 d 0)), .int (nI (S.1 d 1)), .int (nI (S.1 d 5)), .ref (a.1 d 2)])) := (um_R.dev hR hk9).trans (by rw [um_devK hkk])
      refine ur_xi (va_runU (As := []) (rest := []) ⟨hx, hb, hml, hown, hts⟩ (kK_tell l D E h (a.1 d 0) (a.1 d 1) (a.1 d 2) (nI (um_dur d)) (nI (S.1 d 0)) (nI (S.1 d 1)) (nI (S.1 d 5)) (lN (S.1 d 4)) gk H.size) (va_cwA (owner := "UnitRoom$Device") 0 hts (ur_gU mw541 mw543 mw544 mw545 mw9 mw546) rfl rfl rfl (hK.2.1.2.1 ⟨"UnitRoom$Device", "tell", "()I"⟩ (by decide +kernel)) (by decide +kernel) ⟨(Nat.le_of_ble_eq_true rfl), (Nat.le_of_ble_eq_true rfl)⟩) ⟨ur_blind, va_recv hV (ur_one hI.1 gk) (ci := 4) (q0 := 0) rfl rfl, ur_pre hI hO hK (fun _ _ q => q)⟩ rfl rfl hl.1 rfl (lv_room (Nat.le_of_ble_eq_true rfl)) dU_unit_15 ⟨Nat.le_of_ble_eq_true rfl, Nat.le_of_ble_eq_true rfl⟩) hI (fun r3 h3 H locs p3 hI => ?_)
      obtain ⟨er3, eh3⟩ := p3
      replace eh3 := eh3.symm; subst eh3
      replace er3 := er3.symm; subst er3
      exact ur_ri hx hb hr hlocks hI hQ ⟨(by unfold um_unit; rw [hun]; show _ = um_tell S d; unfold um_tell; rw [if_pos hkk]), rfl⟩ dU_unit_18
    · have gk : h (a.1 d 0) = some (.inr (5, [.int 16, .ref (a.1 d 1), .int (nI (um_dur d)), .long (lN (S.1 d 4)), .int (nI (S.1 d 0)), .int (nI (S.1 d 1)), .int (nI (S.1 d 5)), .ref (a.1 d 2), .int (nI (S.1 d 2)), .int (nI (S.1 d 3))])) := (um_R.dev hR hk9).trans (by rw [um_devR hkk])
      refine ur_xi (va_runU (As := []) (rest := []) ⟨hx, hb, hml, hown, hts⟩ (kR_tell l D E h (a.1 d 0) (a.1 d 1) (a.1 d 2) (S.1 d 2) (S.1 d 3) (nI (um_dur d)) (nI (S.1 d 0)) (nI (S.1 d 1)) (nI (S.1 d 5)) (lN (S.1 d 4)) gk H.size) (va_cwA (owner := "UnitRoom$Device") 0 hts (ur_gU mw541 mw543 mw547 mw534 mw5 mw536) rfl rfl rfl (hK.2.1.2.1 ⟨"UnitRoom$Device", "tell", "()I"⟩ (by decide +kernel)) (by decide +kernel) ⟨(Nat.le_of_ble_eq_true rfl), (Nat.le_of_ble_eq_true rfl)⟩) ⟨ur_blind, va_recv hV (ur_one hI.1 gk) (ci := 5) (q0 := 0) rfl rfl, ur_pre hI hO hK (fun _ _ q => q)⟩ rfl rfl hl.1 rfl (lv_room (Nat.le_of_ble_eq_true rfl)) dU_unit_15 ⟨Nat.le_of_ble_eq_true rfl, Nat.le_of_ble_eq_true rfl⟩) hI (fun r4 h4 H locs p4 hI => ?_)
      obtain ⟨er4, eh4⟩ := p4
      replace eh4 := eh4.symm; subst eh4
      replace er4 := er4.symm; subst er4
      exact ur_ri hx hb hr hlocks hI hQ ⟨(by unfold um_unit; rw [hun]; show _ = um_tell S d; unfold um_tell; rw [if_neg (by omega), if_pos hkk]), rfl⟩ dU_unit_18
    · have gk : h (a.1 d 0) = some (.inr (6, [.int (nI (um_words d)), .ref (a.1 d 1), .int (nI (um_dur d)), .long (lN (S.1 d 4)), .int (nI (S.1 d 0)), .int (nI (S.1 d 1)), .int (nI (S.1 d 5)), .ref (a.1 d 2), .int (if d = 18 then 1 else 0), .int (nI (S.1 d 2))])) := (um_R.dev hR hk9).trans (by rw [um_devW hkk])
      refine ur_xi (va_runU (As := []) (rest := []) ⟨hx, hb, hml, hown, hts⟩ (kW_tell l D E h (a.1 d 0) (a.1 d 1) (a.1 d 2) (um_words d) (S.1 d 2) (nI (um_dur d)) (nI (S.1 d 0)) (nI (S.1 d 1)) (nI (S.1 d 5)) (if d = 18 then 1 else 0) (lN (S.1 d 4)) gk H.size) (va_cwA (owner := "UnitRoom$Device") 0 hts (ur_gU mw541 mw543 mw551 mw552 mw10 mw553) rfl rfl rfl (hK.2.1.2.1 ⟨"UnitRoom$Device", "tell", "()I"⟩ (by decide +kernel)) (by decide +kernel) ⟨(Nat.le_of_ble_eq_true rfl), (Nat.le_of_ble_eq_true rfl)⟩) ⟨ur_blind, va_recv hV (ur_one hI.1 gk) (ci := 6) (q0 := 0) rfl rfl, ur_pre hI hO hK (fun _ _ q => q)⟩ rfl rfl hl.1 rfl (lv_room (Nat.le_of_ble_eq_true rfl)) dU_unit_15 ⟨Nat.le_of_ble_eq_true rfl, Nat.le_of_ble_eq_true rfl⟩) hI (fun r5 h5 H locs p5 hI => ?_)
      obtain ⟨er5, eh5⟩ := p5
      replace eh5 := eh5.symm; subst eh5
      replace er5 := er5.symm; subst er5
      exact ur_ri hx hb hr hlocks hI hQ ⟨(by unfold um_unit; rw [hun]; show _ = um_tell S d; unfold um_tell; rw [if_neg (by omega), if_neg (by omega)]), rfl⟩ dU_unit_18
theorem dU_letter_0 : decode cU_letter 0 = .ok (.aload_n 0, 1) := by decide +kernel
theorem dU_letter_1 : decode cU_letter 1 = .ok (.iload_n 1, 1) := by decide +kernel
theorem dU_letter_2 : decode cU_letter 2 = .ok (.invokevirtual 83, 3) := by decide +kernel
theorem dU_letter_5 : decode cU_letter 5 = .ok (.astore 4, 2) := by decide +kernel
theorem dU_letter_7 : decode cU_letter 7 = .ok (.aload 4, 2) := by decide +kernel
theorem dU_letter_9 : decode cU_letter 9 = .ok (.instanceof 42, 3) := by decide +kernel
theorem dU_letter_12 : decode cU_letter 12 = .ok (.ifCond .eq 18, 3) := by decide +kernel
theorem dU_letter_15 : decode cU_letter 15 = .ok (.aload 4, 2) := by decide +kernel
theorem dU_letter_17 : decode cU_letter 17 = .ok (.checkcast 42, 3) := by decide +kernel
theorem dU_letter_20 : decode cU_letter 20 = .ok (.astore 5, 2) := by decide +kernel
theorem dU_letter_22 : decode cU_letter 22 = .ok (.aload 5, 2) := by decide +kernel
theorem dU_letter_24 : decode cU_letter 24 = .ok (.iload_n 2, 1) := by decide +kernel
theorem dU_letter_25 : decode cU_letter 25 = .ok (.iload_n 3, 1) := by decide +kernel
theorem dU_letter_26 : decode cU_letter 26 = .ok (.invokevirtual 128, 3) := by decide +kernel
theorem dU_letter_29 : decode cU_letter 29 = .ok (.ireturn, 1) := by decide +kernel
theorem dU_letter_30 : decode cU_letter 30 = .ok (.iconst (-1), 1) := by decide +kernel
theorem dU_letter_31 : decode cU_letter 31 = .ok (.ireturn, 1) := by decide +kernel
abbrev rmkU_letter : Room := { frames := 1, cells := 0, slots := 0, locals := 23 }
set_option maxHeartbeats 4000000 in
set_option maxRecDepth 100000 in
theorem kU_letter (l : Launch) (D : va_G) (E : ur_Ev) (h : ur_M) (a : um_Ad) (S : um_S) (u : Int32) (k : Int32) (i : Int32)  (hR : um_R E a S h) (hB : um_Bd S) (hw3 : ∀ d, um_kind d = 3 → S.1 d 2 ≤ 300) : ur_Mi l yU_letter wsU_letter rmkU_letter D vwCl (ur_v E) [.ref (a.1 20 0), .int u, .int k, .int i] h (fun r h2 => r = um_letr S u k i ∧ h2 = h) 0 0 := by
  intro sz
  refine ur_of (cc := cU_letter) (maxL := 6) (ret := (some .int)) (by decide) rfl (Nat.le_of_ble_eq_true rfl) ?_
  intro p e s m args below meth c ls Q hsz hx hb hml hr hlocks hnm hown hts hO hK hI hQ hl
  subst hsz
  have hV := hK.1
  have hts : ∀ w ∈ ur_G, w.before args s = true := fun w hw => hts w (List.mem_cons_of_mem _ hw)
  have hZ : ur_Z E (ur_A h s.heap.size) s s.heap := hO.1
  have hown : s.vm.findClass "UnitRoom" = some m.cls := hown
  have hl : lv_has ls 6 [(0, .ref (a.1 20 0)), (1, .int u), (2, .int k), (3, .int i)] := hl
  have g0 : h (a.1 20 0) = some (.inr (0, [.ref (a.1 20 1), .ref (a.1 20 3), .ref (a.1 16 0), .ref (a.1 20 5), .long (lN (S.1 20 2)), .int (nI (S.1 20 0))])) := hR.core rfl
  have g5 : h (a.1 20 5) = some (.inl (E.1 2, 20, .inr (.inr (.inr (.inr (um_devs a)))))) := hR.core rfl
  refine lv_aload_n hx hb dU_letter_0 rfl (lv_at hl 0 rfl) ?_
  refine lv_iload_n hx hb dU_letter_1 rfl (lv_at hl 1 rfl) ?_
  refine ur_xq (va_runV (As := [.int u]) (rest := []) ⟨hx, hb, hml, hown, hts⟩ (kU_dev l D E h (a.1 20 0) (a.1 20 1) (a.1 20 3) (a.1 16 0) (a.1 20 5) (lN (S.1 20 2)) (nI (S.1 20 0)) (um_devs a) u g0 g5 s.heap.size) (cwV 1 hts (ur_gV mw243 mw245 ms0 mw1 mw246) rfl rfl rfl (by decide +kernel) ⟨(Nat.le_of_ble_eq_true rfl), (Nat.le_of_ble_eq_true rfl)⟩) ⟨ur_blind, va_recv hV (ur_one hI.1 g0) (ci := 0) (q0 := 0) rfl rfl, ur_pre hI hO hK (fun _ _ q => q)⟩ rfl rfl hl.1 rfl (lv_room (Nat.le_of_ble_eq_true rfl)) dU_letter_2 ⟨Nat.le_of_ble_eq_true rfl, Nat.le_of_ble_eq_true rfl⟩) hI (fun r1 h1 H locs p1 hI => ?_)
  obtain ⟨er1, eh1⟩ := p1
  replace eh1 := eh1.symm; subst eh1
  replace er1 := er1.symm; subst er1
  rw [um_dvo_un]
  rcases hun : um_un u with _ | d
  · refine lv_astoreN (lv' := [(4, .null), (0, .ref (a.1 20 0)), (1, .int u), (2, .int k), (3, .int i)]) hx hb dU_letter_5 hl (by decide) rfl (fun ls hl => ?_)
    refine lv_aloadN hx hb dU_letter_7 (lv_at hl 0 rfl) ?_
    refine lv_instN hx hb dU_letter_9 ?_
    refine lv_if_eq (tgt := 30) hx hb dU_letter_12 (by decide) (fun c2 => ?_) (fun c2 => absurd c2 (by decide))
    refine lv_iconst (v := (-1)) hx hb dU_letter_30 (by decide) ?_
    exact ur_ri hx hb hr hlocks hI hQ ⟨(by unfold um_letr; rw [hun]), rfl⟩ dU_letter_31
  · obtain ⟨hk9, hu9⟩ := um_un_k hun
    have gu : h (a.1 d 0) = some (.inr ((um_ci d), .int (nI (um_words d)) :: .ref (a.1 d 1) :: .int (nI (um_dur d)) :: .long (lN (S.1 d 4)) :: .int (nI (S.1 d 0)) :: .int (nI (S.1 d 1)) :: .int (nI (S.1 d 5)) :: um_tl a S d)) := hR.dev hk9
    refine lv_astore (lv' := [(4, .ref (a.1 d 0)), (0, .ref (a.1 20 0)), (1, .int u), (2, .int k), (3, .int i)]) hx hb dU_letter_5 hl (by decide) rfl (fun ls hl => ?_)
    refine lv_aload hx hb dU_letter_7 (lv_at hl 0 rfl) ?_
    rcases um_kinds hk9 with hkk | hkk | hkk | hkk
    · have gk : h (a.1 d 0) = some (.inr (3, [.int 100, .ref (a.1 d 1), .int (nI (um_dur d)), .long (lN (S.1 d 4)), .int (nI (S.1 d 0)), .int (nI (S.1 d 1)), .int (nI (S.1 d 5)), .int (nI (S.1 d 2)), .ref (a.1 d 2)])) := (um_R.dev hR hk9).trans (by rw [um_devT hkk])
      refine va_instNo (C := "UnitRoom$Tape") hx hb hown (hts _ mw145) (hK.2.1.2.2.2.1 ("UnitRoom$Tape", "UnitRoom$Writer") (by decide +kernel)) (va_recv hV (ur_one hI.1 gk) (ci := 3) (q0 := 0) rfl rfl) dU_letter_9 ?_
      refine lv_if_eq (tgt := 30) hx hb dU_letter_12 (by decide) (fun c3 => ?_) (fun c3 => absurd c3 (by decide))
      refine lv_iconst (v := (-1)) hx hb dU_letter_30 (by decide) ?_
      exact ur_ri hx hb hr hlocks hI hQ ⟨(by unfold um_letr; rw [hun]; show _ = (if um_kind d = 3 then _ else _); rw [if_neg (by omega)]), rfl⟩ dU_letter_31
    · have gk : h (a.1 d 0) = some (.inr (4, [.int 100, .ref (a.1 d 1), .int (nI (um_dur d)), .long (lN (S.1 d 4)), .int (nI (S.1 d 0)), .int (nI (S.1 d 1)), .int (nI (S.1 d 5)), .ref (a.1 d 2)])) := (um_R.dev hR hk9).trans (by rw [um_devK hkk])
      refine va_instNo (C := "UnitRoom$Disk") hx hb hown (hts _ mw145) (hK.2.1.2.2.2.1 ("UnitRoom$Disk", "UnitRoom$Writer") (by decide +kernel)) (va_recv hV (ur_one hI.1 gk) (ci := 4) (q0 := 0) rfl rfl) dU_letter_9 ?_
      refine lv_if_eq (tgt := 30) hx hb dU_letter_12 (by decide) (fun c4 => ?_) (fun c4 => absurd c4 (by decide))
      refine lv_iconst (v := (-1)) hx hb dU_letter_30 (by decide) ?_
      exact ur_ri hx hb hr hlocks hI hQ ⟨(by unfold um_letr; rw [hun]; show _ = (if um_kind d = 3 then _ else _); rw [if_neg (by omega)]), rfl⟩ dU_letter_31
    · have gk : h (a.1 d 0) = some (.inr (5, [.int 16, .ref (a.1 d 1), .int (nI (um_dur d)), .long (lN (S.1 d 4)), .int (nI (S.1 d 0)), .int (nI (S.1 d 1)), .int (nI (S.1 d 5)), .ref (a.1 d 2), .int (nI (S.1 d 2)), .int (nI (S.1 d 3))])) := (um_R.dev hR hk9).trans (by rw [um_devR hkk])
      refine va_instNo (C := "UnitRoom$Reader") hx hb hown (hts _ mw145) (hK.2.1.2.2.2.1 ("UnitRoom$Reader", "UnitRoom$Writer") (by decide +kernel)) (va_recv hV (ur_one hI.1 gk) (ci := 5) (q0 := 0) rfl rfl) dU_letter_9 ?_
      refine lv_if_eq (tgt := 30) hx hb dU_letter_12 (by decide) (fun c5 => ?_) (fun c5 => absurd c5 (by decide))
      refine lv_iconst (v := (-1)) hx hb dU_letter_30 (by decide) ?_
      exact ur_ri hx hb hr hlocks hI hQ ⟨(by unfold um_letr; rw [hun]; show _ = (if um_kind d = 3 then _ else _); rw [if_neg (by omega)]), rfl⟩ dU_letter_31
    · have gk : h (a.1 d 0) = some (.inr (6, [.int (nI (um_words d)), .ref (a.1 d 1), .int (nI (um_dur d)), .long (lN (S.1 d 4)), .int (nI (S.1 d 0)), .int (nI (S.1 d 1)), .int (nI (S.1 d 5)), .ref (a.1 d 2), .int (if d = 18 then 1 else 0), .int (nI (S.1 d 2))])) := (um_R.dev hR hk9).trans (by rw [um_devW hkk])
      have gl : h (a.1 d 2) = some (.inl (E.1 4, 300, .inr (.inr (.inr (.inr (um_rows a d)))))) := (um_R.two hR hk9).trans (by rw [um_twoW hkk])
      refine va_instY (C := "UnitRoom$Writer") hx hb hown (hts _ mw145) (hK.2.1.2.2.1 ("UnitRoom$Writer", "UnitRoom$Writer") (by decide +kernel)) (va_recv hV (ur_one hI.1 gk) (ci := 6) (q0 := 0) rfl rfl) dU_letter_9 ?_
      refine lv_if_eq (tgt := 30) hx hb dU_letter_12 (by decide) (fun c6 => absurd c6 (by decide)) (fun c6 => ?_)
      refine lv_aload hx hb dU_letter_15 (lv_at hl 0 rfl) ?_
      refine va_castY (C := "UnitRoom$Writer") hx hb hown (hts _ mw145) (hK.2.1.2.2.1 ("UnitRoom$Writer", "UnitRoom$Writer") (by decide +kernel)) (va_recv hV (ur_one hI.1 gk) (ci := 6) (q0 := 0) rfl rfl) dU_letter_17 ?_
      refine lv_astore (lv' := [(5, .ref (a.1 d 0)), (4, .ref (a.1 d 0)), (0, .ref (a.1 20 0)), (1, .int u), (2, .int k), (3, .int i)]) hx hb dU_letter_20 hl (by decide) rfl (fun ls hl => ?_)
      refine lv_aload hx hb dU_letter_22 (lv_at hl 0 rfl) ?_
      refine lv_iload_n hx hb dU_letter_24 rfl (lv_at hl 4 rfl) ?_
      refine lv_iload_n hx hb dU_letter_25 rfl (lv_at hl 5 rfl) ?_
      refine ur_xi (va_runV (As := [.int k, .int i]) (rest := []) ⟨hx, hb, hml, hown, hts⟩ (kW_letter l D E h (a.1 d 0) (a.1 d 1) (a.1 d 2) (um_words d) (S.1 d 2) (nI (um_dur d)) (nI (S.1 d 0)) (nI (S.1 d 1)) (nI (S.1 d 5)) (if d = 18 then 1 else 0) (lN (S.1 d 4)) (um_rows a d) (fun b => S.1 d (6 + b)) (fun b => S.2 d (3 + b)) k i gk gl (hw3 d hkk) (um_R.linesAt hR hkk) H.size) (cwV 2 hts (ur_gV mw558 mw559 mw560 mw10 mw561) rfl rfl rfl (by decide +kernel) ⟨(Nat.le_of_ble_eq_true rfl), (Nat.le_of_ble_eq_true rfl)⟩) ⟨ur_blind, va_recv hV (ur_one hI.1 gk) (ci := 6) (q0 := 0) rfl rfl, ur_pre hI hO hK (fun _ _ q => q)⟩ rfl rfl hl.1 rfl (lv_room (Nat.le_of_ble_eq_true rfl)) dU_letter_26 ⟨Nat.le_of_ble_eq_true rfl, Nat.le_of_ble_eq_true rfl⟩) hI (fun r7 h7 H locs p7 hI => ?_)
      obtain ⟨er7, eh7⟩ := p7
      replace eh7 := eh7.symm; subst eh7
      replace er7 := er7.symm; subst er7
      exact ur_ri hx hb hr hlocks hI hQ ⟨(by unfold um_letr; rw [hun]; show _ = (if um_kind d = 3 then _ else _); rw [if_pos hkk]), rfl⟩ dU_letter_29
theorem dU_block_0 : decode cU_block 0 = .ok (.aload_n 0, 1) := by decide +kernel
theorem dU_block_1 : decode cU_block 1 = .ok (.iload_n 1, 1) := by decide +kernel
theorem dU_block_2 : decode cU_block 2 = .ok (.invokevirtual 83, 3) := by decide +kernel
theorem dU_block_5 : decode cU_block 5 = .ok (.astore 4, 2) := by decide +kernel
theorem dU_block_7 : decode cU_block 7 = .ok (.aload 4, 2) := by decide +kernel
theorem dU_block_9 : decode cU_block 9 = .ok (.instanceof 131, 3) := by decide +kernel
theorem dU_block_12 : decode cU_block 12 = .ok (.ifCond .eq 18, 3) := by decide +kernel
theorem dU_block_15 : decode cU_block 15 = .ok (.aload 4, 2) := by decide +kernel
theorem dU_block_17 : decode cU_block 17 = .ok (.checkcast 131, 3) := by decide +kernel
theorem dU_block_20 : decode cU_block 20 = .ok (.astore 5, 2) := by decide +kernel
theorem dU_block_22 : decode cU_block 22 = .ok (.aload 5, 2) := by decide +kernel
theorem dU_block_24 : decode cU_block 24 = .ok (.iload_n 2, 1) := by decide +kernel
theorem dU_block_25 : decode cU_block 25 = .ok (.iload_n 3, 1) := by decide +kernel
theorem dU_block_26 : decode cU_block 26 = .ok (.invokevirtual 133, 3) := by decide +kernel
theorem dU_block_29 : decode cU_block 29 = .ok (.ireturn, 1) := by decide +kernel
theorem dU_block_30 : decode cU_block 30 = .ok (.ldc 136, 2) := by decide +kernel
theorem dU_block_32 : decode cU_block 32 = .ok (.ireturn, 1) := by decide +kernel
abbrev rmkU_block : Room := { frames := 1, cells := 0, slots := 0, locals := 23 }
set_option maxHeartbeats 4000000 in
set_option maxRecDepth 100000 in
theorem kU_block (l : Launch) (D : va_G) (E : ur_Ev) (h : ur_M) (a : um_Ad) (S : um_S) (u : Int32) (b : Int32) (i : Int32)  (hR : um_R E a S h) (hB : um_Bd S) : ur_Mi l yU_block wsU_block rmkU_block D vwCl (ur_v E) [.ref (a.1 20 0), .int u, .int b, .int i] h (fun r h2 => r = um_blck S u b i ∧ h2 = h) 0 0 := by
  intro sz
  refine ur_of (cc := cU_block) (maxL := 6) (ret := (some .int)) (by decide) rfl (Nat.le_of_ble_eq_true rfl) ?_
  intro p e s m args below meth c ls Q hsz hx hb hml hr hlocks hnm hown hts hO hK hI hQ hl
  subst hsz
  have hV := hK.1
  have hts : ∀ w ∈ ur_G, w.before args s = true := fun w hw => hts w (List.mem_cons_of_mem _ hw)
  have hZ : ur_Z E (ur_A h s.heap.size) s s.heap := hO.1
  have hown : s.vm.findClass "UnitRoom" = some m.cls := hown
  have hl : lv_has ls 6 [(0, .ref (a.1 20 0)), (1, .int u), (2, .int b), (3, .int i)] := hl
  have g0 : h (a.1 20 0) = some (.inr (0, [.ref (a.1 20 1), .ref (a.1 20 3), .ref (a.1 16 0), .ref (a.1 20 5), .long (lN (S.1 20 2)), .int (nI (S.1 20 0))])) := hR.core rfl
  have g5 : h (a.1 20 5) = some (.inl (E.1 2, 20, .inr (.inr (.inr (.inr (um_devs a)))))) := hR.core rfl
  refine lv_aload_n hx hb dU_block_0 rfl (lv_at hl 0 rfl) ?_
  refine lv_iload_n hx hb dU_block_1 rfl (lv_at hl 1 rfl) ?_
  refine ur_xq (va_runV (As := [.int u]) (rest := []) ⟨hx, hb, hml, hown, hts⟩ (kU_dev l D E h (a.1 20 0) (a.1 20 1) (a.1 20 3) (a.1 16 0) (a.1 20 5) (lN (S.1 20 2)) (nI (S.1 20 0)) (um_devs a) u g0 g5 s.heap.size) (cwV 1 hts (ur_gV mw243 mw245 ms0 mw1 mw246) rfl rfl rfl (by decide +kernel) ⟨(Nat.le_of_ble_eq_true rfl), (Nat.le_of_ble_eq_true rfl)⟩) ⟨ur_blind, va_recv hV (ur_one hI.1 g0) (ci := 0) (q0 := 0) rfl rfl, ur_pre hI hO hK (fun _ _ q => q)⟩ rfl rfl hl.1 rfl (lv_room (Nat.le_of_ble_eq_true rfl)) dU_block_2 ⟨Nat.le_of_ble_eq_true rfl, Nat.le_of_ble_eq_true rfl⟩) hI (fun r1 h1 H locs p1 hI => ?_)
  obtain ⟨er1, eh1⟩ := p1
  replace eh1 := eh1.symm; subst eh1
  replace er1 := er1.symm; subst er1
  rw [um_dvo_un]
  rcases hun : um_un u with _ | d
  · refine lv_astoreN (lv' := [(4, .null), (0, .ref (a.1 20 0)), (1, .int u), (2, .int b), (3, .int i)]) hx hb dU_block_5 hl (by decide) rfl (fun ls hl => ?_)
    refine lv_aloadN hx hb dU_block_7 (lv_at hl 0 rfl) ?_
    refine lv_instN hx hb dU_block_9 ?_
    refine lv_if_eq (tgt := 30) hx hb dU_block_12 (by decide) (fun c2 => ?_) (fun c2 => absurd c2 (by decide))
    refine lv_ldc (v := 2147483647) hx hb hown (hts _ mw568) dU_block_30 ?_
    exact ur_ri hx hb hr hlocks hI hQ ⟨(by unfold um_blck; rw [hun]), rfl⟩ dU_block_32
  · obtain ⟨hk9, hu9⟩ := um_un_k hun
    have gu : h (a.1 d 0) = some (.inr ((um_ci d), .int (nI (um_words d)) :: .ref (a.1 d 1) :: .int (nI (um_dur d)) :: .long (lN (S.1 d 4)) :: .int (nI (S.1 d 0)) :: .int (nI (S.1 d 1)) :: .int (nI (S.1 d 5)) :: um_tl a S d)) := hR.dev hk9
    refine lv_astore (lv' := [(4, .ref (a.1 d 0)), (0, .ref (a.1 20 0)), (1, .int u), (2, .int b), (3, .int i)]) hx hb dU_block_5 hl (by decide) rfl (fun ls hl => ?_)
    refine lv_aload hx hb dU_block_7 (lv_at hl 0 rfl) ?_
    rcases um_kinds hk9 with hkk | hkk | hkk | hkk
    · have gk : h (a.1 d 0) = some (.inr (3, [.int 100, .ref (a.1 d 1), .int (nI (um_dur d)), .long (lN (S.1 d 4)), .int (nI (S.1 d 0)), .int (nI (S.1 d 1)), .int (nI (S.1 d 5)), .int (nI (S.1 d 2)), .ref (a.1 d 2)])) := (um_R.dev hR hk9).trans (by rw [um_devT hkk])
      have gl : h (a.1 d 2) = some (.inl (E.1 3, 64, .inr (.inr (.inr (.inr (um_rows a d)))))) := (um_R.two hR hk9).trans (by rw [um_twoB (by omega)])
      refine va_instY (C := "UnitRoom$Tape") hx hb hown (hts _ mw566) (hK.2.1.2.2.1 ("UnitRoom$Tape", "UnitRoom$BlockDevice") (by decide +kernel)) (va_recv hV (ur_one hI.1 gk) (ci := 3) (q0 := 0) rfl rfl) dU_block_9 ?_
      refine lv_if_eq (tgt := 30) hx hb dU_block_12 (by decide) (fun c3 => absurd c3 (by decide)) (fun c3 => ?_)
      refine lv_aload hx hb dU_block_15 (lv_at hl 0 rfl) ?_
      refine va_castY (C := "UnitRoom$Tape") hx hb hown (hts _ mw566) (hK.2.1.2.2.1 ("UnitRoom$Tape", "UnitRoom$BlockDevice") (by decide +kernel)) (va_recv hV (ur_one hI.1 gk) (ci := 3) (q0 := 0) rfl rfl) dU_block_17 ?_
      refine lv_astore (lv' := [(5, .ref (a.1 d 0)), (4, .ref (a.1 d 0)), (0, .ref (a.1 20 0)), (1, .int u), (2, .int b), (3, .int i)]) hx hb dU_block_20 hl (by decide) rfl (fun ls hl => ?_)
      refine lv_aload hx hb dU_block_22 (lv_at hl 0 rfl) ?_
      refine lv_iload_n hx hb dU_block_24 rfl (lv_at hl 4 rfl) ?_
      refine lv_iload_n hx hb dU_block_25 rfl (lv_at hl 5 rfl) ?_
      refine ur_xi (va_runU (As := [.int b, .int i]) (rest := []) ⟨hx, hb, hml, hown, hts⟩ (kB_wordAt_T l D E h (a.1 d 0) (a.1 d 1) (a.1 d 2) (nI (um_dur d)) (nI (S.1 d 0)) (nI (S.1 d 1)) (nI (S.1 d 5)) (nI (S.1 d 2)) (lN (S.1 d 4)) (um_rows a d) (fun b => S.2 d (3 + b)) b i gk gl (um_R.rowsAt hR (by omega)) H.size) (va_cwU (owner := "UnitRoom$BlockDevice") 2 hts (ur_gU mw567 mw322 mw324 mw321 mw7 mw325) rfl rfl rfl rfl (by decide +kernel) ⟨(Nat.le_of_ble_eq_true rfl), (Nat.le_of_ble_eq_true rfl)⟩) ⟨ur_blind, va_recv hV (ur_one hI.1 gk) (ci := 3) (q0 := 0) rfl rfl, ur_pre hI hO hK (fun _ _ q => q)⟩ rfl rfl hl.1 rfl (lv_room (Nat.le_of_ble_eq_true rfl)) dU_block_26 ⟨Nat.le_of_ble_eq_true rfl, Nat.le_of_ble_eq_true rfl⟩) hI (fun r4 h4 H locs p4 hI => ?_)
      obtain ⟨er4, eh4⟩ := p4
      replace eh4 := eh4.symm; subst eh4
      replace er4 := er4.symm; subst er4
      exact ur_ri hx hb hr hlocks hI hQ ⟨(by unfold um_blck; rw [hun]; show _ = (if um_kind d ≤ 1 then _ else _); rw [if_pos (by omega)]), rfl⟩ dU_block_29
    · have gk : h (a.1 d 0) = some (.inr (4, [.int 100, .ref (a.1 d 1), .int (nI (um_dur d)), .long (lN (S.1 d 4)), .int (nI (S.1 d 0)), .int (nI (S.1 d 1)), .int (nI (S.1 d 5)), .ref (a.1 d 2)])) := (um_R.dev hR hk9).trans (by rw [um_devK hkk])
      have gl : h (a.1 d 2) = some (.inl (E.1 3, 64, .inr (.inr (.inr (.inr (um_rows a d)))))) := (um_R.two hR hk9).trans (by rw [um_twoB (by omega)])
      refine va_instY (C := "UnitRoom$Disk") hx hb hown (hts _ mw566) (hK.2.1.2.2.1 ("UnitRoom$Disk", "UnitRoom$BlockDevice") (by decide +kernel)) (va_recv hV (ur_one hI.1 gk) (ci := 4) (q0 := 0) rfl rfl) dU_block_9 ?_
      refine lv_if_eq (tgt := 30) hx hb dU_block_12 (by decide) (fun c5 => absurd c5 (by decide)) (fun c5 => ?_)
      refine lv_aload hx hb dU_block_15 (lv_at hl 0 rfl) ?_
      refine va_castY (C := "UnitRoom$Disk") hx hb hown (hts _ mw566) (hK.2.1.2.2.1 ("UnitRoom$Disk", "UnitRoom$BlockDevice") (by decide +kernel)) (va_recv hV (ur_one hI.1 gk) (ci := 4) (q0 := 0) rfl rfl) dU_block_17 ?_
      refine lv_astore (lv' := [(5, .ref (a.1 d 0)), (4, .ref (a.1 d 0)), (0, .ref (a.1 20 0)), (1, .int u), (2, .int b), (3, .int i)]) hx hb dU_block_20 hl (by decide) rfl (fun ls hl => ?_)
      refine lv_aload hx hb dU_block_22 (lv_at hl 0 rfl) ?_
      refine lv_iload_n hx hb dU_block_24 rfl (lv_at hl 4 rfl) ?_
      refine lv_iload_n hx hb dU_block_25 rfl (lv_at hl 5 rfl) ?_
      refine ur_xi (va_runU (As := [.int b, .int i]) (rest := []) ⟨hx, hb, hml, hown, hts⟩ (kB_wordAt_K l D E h (a.1 d 0) (a.1 d 1) (a.1 d 2) (nI (um_dur d)) (nI (S.1 d 0)) (nI (S.1 d 1)) (nI (S.1 d 5)) (lN (S.1 d 4)) (um_rows a d) (fun b => S.2 d (3 + b)) b i gk gl (um_R.rowsAt hR (by omega)) H.size) (va_cwU (owner := "UnitRoom$BlockDevice") 2 hts (ur_gU mw567 mw322 mw323 mw321 mw7 mw325) rfl rfl rfl rfl (by decide +kernel) ⟨(Nat.le_of_ble_eq_true rfl), (Nat.le_of_ble_eq_true rfl)⟩) ⟨ur_blind, va_recv hV (ur_one hI.1 gk) (ci := 4) (q0 := 0) rfl rfl, ur_pre hI hO hK (fun _ _ q => q)⟩ rfl rfl hl.1 rfl (lv_room (Nat.le_of_ble_eq_true rfl)) dU_block_26 ⟨Nat.le_of_ble_eq_true rfl, Nat.le_of_ble_eq_true rfl⟩) hI (fun r6 h6 H locs p6 hI => ?_)
      obtain ⟨er6, eh6⟩ := p6
      replace eh6 := eh6.symm; subst eh6
      replace er6 := er6.symm; subst er6
      exact ur_ri hx hb hr hlocks hI hQ ⟨(by unfold um_blck; rw [hun]; show _ = (if um_kind d ≤ 1 then _ else _); rw [if_pos (by omega)]), rfl⟩ dU_block_29
    · have gk : h (a.1 d 0) = some (.inr (5, [.int 16, .ref (a.1 d 1), .int (nI (um_dur d)), .long (lN (S.1 d 4)), .int (nI (S.1 d 0)), .int (nI (S.1 d 1)), .int (nI (S.1 d 5)), .ref (a.1 d 2), .int (nI (S.1 d 2)), .int (nI (S.1 d 3))])) := (um_R.dev hR hk9).trans (by rw [um_devR hkk])
      refine va_instNo (C := "UnitRoom$Reader") hx hb hown (hts _ mw566) (hK.2.1.2.2.2.1 ("UnitRoom$Reader", "UnitRoom$BlockDevice") (by decide +kernel)) (va_recv hV (ur_one hI.1 gk) (ci := 5) (q0 := 0) rfl rfl) dU_block_9 ?_
      refine lv_if_eq (tgt := 30) hx hb dU_block_12 (by decide) (fun c7 => ?_) (fun c7 => absurd c7 (by decide))
      refine lv_ldc (v := 2147483647) hx hb hown (hts _ mw568) dU_block_30 ?_
      exact ur_ri hx hb hr hlocks hI hQ ⟨(by unfold um_blck; rw [hun]; show _ = (if um_kind d ≤ 1 then _ else _); rw [if_neg (by omega)]), rfl⟩ dU_block_32
    · have gk : h (a.1 d 0) = some (.inr (6, [.int (nI (um_words d)), .ref (a.1 d 1), .int (nI (um_dur d)), .long (lN (S.1 d 4)), .int (nI (S.1 d 0)), .int (nI (S.1 d 1)), .int (nI (S.1 d 5)), .ref (a.1 d 2), .int (if d = 18 then 1 else 0), .int (nI (S.1 d 2))])) := (um_R.dev hR hk9).trans (by rw [um_devW hkk])
      refine va_instNo (C := "UnitRoom$Writer") hx hb hown (hts _ mw566) (hK.2.1.2.2.2.1 ("UnitRoom$Writer", "UnitRoom$BlockDevice") (by decide +kernel)) (va_recv hV (ur_one hI.1 gk) (ci := 6) (q0 := 0) rfl rfl) dU_block_9 ?_
      refine lv_if_eq (tgt := 30) hx hb dU_block_12 (by decide) (fun c8 => ?_) (fun c8 => absurd c8 (by decide))
      refine lv_ldc (v := 2147483647) hx hb hown (hts _ mw568) dU_block_30 ?_
      exact ur_ri hx hb hr hlocks hI hQ ⟨(by unfold um_blck; rw [hun]; show _ = (if um_kind d ≤ 1 then _ else _); rw [if_neg (by omega)]), rfl⟩ dU_block_32
theorem dU_faultOf_0 : decode cU_faultOf 0 = .ok (.iload_n 2, 1) := by decide +kernel
theorem dU_faultOf_1 : decode cU_faultOf 1 = .ok (.ifCond .lt 8, 3) := by decide +kernel
theorem dU_faultOf_4 : decode cU_faultOf 4 = .ok (.iload_n 2, 1) := by decide +kernel
theorem dU_faultOf_5 : decode cU_faultOf 5 = .ok (.iconst 2, 1) := by decide +kernel
theorem dU_faultOf_6 : decode cU_faultOf 6 = .ok (.if_icmp .le 5, 3) := by decide +kernel
theorem dU_faultOf_9 : decode cU_faultOf 9 = .ok (.iconst 1, 1) := by decide +kernel
theorem dU_faultOf_10 : decode cU_faultOf 10 = .ok (.ireturn, 1) := by decide +kernel
theorem dU_faultOf_11 : decode cU_faultOf 11 = .ok (.aload_n 1, 1) := by decide +kernel
theorem dU_faultOf_12 : decode cU_faultOf 12 = .ok (.ifnonnull 7, 3) := by decide +kernel
theorem dU_faultOf_15 : decode cU_faultOf 15 = .ok (.iconst 1, 1) := by decide +kernel
theorem dU_faultOf_16 : decode cU_faultOf 16 = .ok (.goto 7, 3) := by decide +kernel
theorem dU_faultOf_19 : decode cU_faultOf 19 = .ok (.aload_n 1, 1) := by decide +kernel
theorem dU_faultOf_20 : decode cU_faultOf 20 = .ok (.getfield 137, 3) := by decide +kernel
theorem dU_faultOf_23 : decode cU_faultOf 23 = .ok (.istore 5, 2) := by decide +kernel
theorem dU_faultOf_25 : decode cU_faultOf 25 = .ok (.iload_n 2, 1) := by decide +kernel
theorem dU_faultOf_26 : decode cU_faultOf 26 = .ok (.ifCond .eq 18, 3) := by decide +kernel
theorem dU_faultOf_29 : decode cU_faultOf 29 = .ok (.aload_n 0, 1) := by decide +kernel
theorem dU_faultOf_30 : decode cU_faultOf 30 = .ok (.getfield 10, 3) := by decide +kernel
theorem dU_faultOf_33 : decode cU_faultOf 33 = .ok (.iload_n 3, 1) := by decide +kernel
theorem dU_faultOf_34 : decode cU_faultOf 34 = .ok (.iload 5, 2) := by decide +kernel
theorem dU_faultOf_36 : decode cU_faultOf 36 = .ok (.invokevirtual 67, 3) := by decide +kernel
theorem dU_faultOf_39 : decode cU_faultOf 39 = .ok (.ifCond .ne 5, 3) := by decide +kernel
theorem dU_faultOf_42 : decode cU_faultOf 42 = .ok (.iconst 2, 1) := by decide +kernel
theorem dU_faultOf_43 : decode cU_faultOf 43 = .ok (.ireturn, 1) := by decide +kernel
theorem dU_faultOf_44 : decode cU_faultOf 44 = .ok (.aload_n 1, 1) := by decide +kernel
theorem dU_faultOf_45 : decode cU_faultOf 45 = .ok (.ifnonnull 7, 3) := by decide +kernel
theorem dU_faultOf_48 : decode cU_faultOf 48 = .ok (.iconst 5, 1) := by decide +kernel
theorem dU_faultOf_49 : decode cU_faultOf 49 = .ok (.goto 11, 3) := by decide +kernel
theorem dU_faultOf_52 : decode cU_faultOf 52 = .ok (.aload_n 1, 1) := by decide +kernel
theorem dU_faultOf_53 : decode cU_faultOf 53 = .ok (.iload_n 2, 1) := by decide +kernel
theorem dU_faultOf_54 : decode cU_faultOf 54 = .ok (.iload_n 3, 1) := by decide +kernel
theorem dU_faultOf_55 : decode cU_faultOf 55 = .ok (.iload 4, 2) := by decide +kernel
theorem dU_faultOf_57 : decode cU_faultOf 57 = .ok (.invokevirtual 140, 3) := by decide +kernel
theorem dU_faultOf_60 : decode cU_faultOf 60 = .ok (.ireturn, 1) := by decide +kernel
abbrev rmkU_fltN : Room := { frames := 1, cells := 0, slots := 0, locals := 22 }
set_option maxHeartbeats 4000000 in
set_option maxRecDepth 100000 in
theorem kU_fltN (l : Launch) (D : va_G) (E : ur_Ev) (h : ur_M) (a : um_Ad) (S : um_S) (op : Int32) (mv : Int32) (x : Int32)  (hR : um_R E a S h) (hB : um_Bd S) : ur_Mi l yU_faultOf wsU_faultOf rmkU_fltN D vwCl (ur_v E) [.ref (a.1 20 0), .null, .int op, .int mv, .int x] h (fun r h2 => r = um_fltN op mv ∧ h2 = h) 0 0 := by
  intro sz
  refine ur_of (cc := cU_faultOf) (maxL := 6) (ret := (some .int)) (by decide) rfl (Nat.le_of_ble_eq_true rfl) ?_
  intro p e s m args below meth c ls Q hsz hx hb hml hr hlocks hnm hown hts hO hK hI hQ hl
  subst hsz
  have hV := hK.1
  have hts : ∀ w ∈ ur_G, w.before args s = true := fun w hw => hts w (List.mem_cons_of_mem _ hw)
  have hZ : ur_Z E (ur_A h s.heap.size) s s.heap := hO.1
  have hown : s.vm.findClass "UnitRoom" = some m.cls := hown
  have hl : lv_has ls 6 [(0, .ref (a.1 20 0)), (1, .null), (2, .int op), (3, .int mv), (4, .int x)] := hl
  have g0 : h (a.1 20 0) = some (.inr (0, [.ref (a.1 20 1), .ref (a.1 20 3), .ref (a.1 16 0), .ref (a.1 20 5), .long (lN (S.1 20 2)), .int (nI (S.1 20 0))])) := hR.core rfl
  have gm : h (a.1 20 1) = some (.inr (1, [.ref (a.1 20 2)])) := hR.core rfl
  have gc : h (a.1 20 2) = some (.inl (E.1 0, 4000, .inl (S.2 20 2))) := hR.core rfl
  refine lv_iload_n hx hb dU_faultOf_0 rfl (lv_at hl 2 rfl) ?_
  refine lv_if_lt (tgt := 9) hx hb dU_faultOf_1 (by decide) (fun c1 => ?_) (fun c1 => ?_)
  · refine lv_iconst (v := 1) hx hb dU_faultOf_9 (by decide) ?_
    exact ur_ri hx hb hr hlocks hI hQ ⟨(by first | (simp only [um_fltN, c1, ↓reduceIte]; done) | (simp only [um_fltN, c1, ↓reduceIte]; rfl) | rfl), rfl⟩ dU_faultOf_10
  · refine lv_iload_n hx hb dU_faultOf_4 rfl (lv_at hl 2 rfl) ?_
    refine lv_iconst (v := 2) hx hb dU_faultOf_5 (by decide) ?_
    refine lv_icmp_le (tgt := 11) hx hb dU_faultOf_6 (by decide) (fun c2 => ?_) (fun c2 => ?_)
    · refine lv_aload_nN hx hb dU_faultOf_11 rfl (lv_at hl 1 rfl) ?_
      refine lv_ifnonnullN hx hb dU_faultOf_12 ?_
      refine lv_iconst (v := 1) hx hb dU_faultOf_15 (by decide) ?_
      refine lv_goto (tgt := 23) hx hb dU_faultOf_16 (by decide) ?_
      refine lv_istore (lv' := [(5, .int 1), (0, .ref (a.1 20 0)), (1, .null), (2, .int op), (3, .int mv), (4, .int x)]) hx hb dU_faultOf_23 hl (by decide) rfl (fun ls hl => ?_)
      refine lv_iload_n hx hb dU_faultOf_25 rfl (lv_at hl 3 rfl) ?_
      refine lv_if_eq (tgt := 44) hx hb dU_faultOf_26 (by decide) (fun c3 => ?_) (fun c3 => ?_)
      · refine lv_aload_nN hx hb dU_faultOf_44 rfl (lv_at hl 2 rfl) ?_
        refine lv_ifnonnullN hx hb dU_faultOf_45 ?_
        refine lv_iconst (v := 5) hx hb dU_faultOf_48 (by decide) ?_
        refine lv_goto (tgt := 60) hx hb dU_faultOf_49 (by decide) ?_
        exact ur_ri hx hb hr hlocks hI hQ ⟨(by first | (simp only [um_fltN, c1, c2, c3, ↓reduceIte]; done) | (simp only [um_fltN, c1, c2, c3, ↓reduceIte]; rfl) | rfl), rfl⟩ dU_faultOf_60
      · refine lv_aload_n hx hb dU_faultOf_29 rfl (lv_at hl 1 rfl) ?_
        refine va_get (D := D) (ci := 0) (v := .ref (a.1 20 1)) (C := "UnitRoom") (T := TU) (N := 6) hx hb hts inU hown hV (ur_one hI.1 g0) 0 rfl rfl 0 (by decide) (hts _ mw170) (fun _ h9 => h9) rfl dU_faultOf_30 ?_
        refine lv_iload_n hx hb dU_faultOf_33 rfl (lv_at hl 4 rfl) ?_
        refine lv_iload hx hb dU_faultOf_34 (lv_at hl 0 rfl) ?_
        refine ur_xi (va_runV (As := [.int mv, .int 1]) (rest := []) ⟨hx, hb, hml, hown, hts⟩ (kM_h l D E h (a.1 20 1) (a.1 20 2) (S.2 20 2) mv 1 gm gc s.heap.size) (cwV 2 hts (ur_gV mw213 mw214 mw215 mw2 mw216) rfl rfl rfl (by decide +kernel) ⟨(Nat.le_of_ble_eq_true rfl), (Nat.le_of_ble_eq_true rfl)⟩) ⟨ur_blind, va_recv hV (ur_one hI.1 gm) (ci := 1) (q0 := 0) rfl rfl, ur_pre hI hO hK (fun _ _ q => q)⟩ rfl rfl hl.1 rfl (lv_room (Nat.le_of_ble_eq_true rfl)) dU_faultOf_36 ⟨Nat.le_of_ble_eq_true rfl, Nat.le_of_ble_eq_true rfl⟩) hI (fun r4 h4 H locs p4 hI => ?_)
        obtain ⟨er4, eh4⟩ := p4
        replace eh4 := eh4.symm; subst eh4
        refine lv_if_ne (tgt := 44) hx hb dU_faultOf_39 (by decide) (fun c5 => ?_) (fun c5 => ?_)
        · have k6 : (um_holds mv 1) = true := um_b1 er4 c5
          refine lv_aload_nN hx hb dU_faultOf_44 rfl (lv_at hl 2 rfl) ?_
          refine lv_ifnonnullN hx hb dU_faultOf_45 ?_
          refine lv_iconst (v := 5) hx hb dU_faultOf_48 (by decide) ?_
          refine lv_goto (tgt := 60) hx hb dU_faultOf_49 (by decide) ?_
          exact ur_ri hx hb hr hlocks hI hQ ⟨(by first | (simp only [um_fltN, c1, c2, c3, k6, ↓reduceIte]; done) | (simp only [um_fltN, c1, c2, c3, k6, ↓reduceIte]; rfl) | rfl), rfl⟩ dU_faultOf_60
        · have k7 : (um_holds mv 1) = false := um_b0 er4 c5
          refine lv_iconst (v := 2) hx hb dU_faultOf_42 (by decide) ?_
          exact ur_ri hx hb hr hlocks hI hQ ⟨(by first | (simp only [um_fltN, c1, c2, c3, k7, ↓reduceIte]; done) | (simp only [um_fltN, c1, c2, c3, k7, ↓reduceIte]; rfl) | rfl), rfl⟩ dU_faultOf_43
    · refine lv_iconst (v := 1) hx hb dU_faultOf_9 (by decide) ?_
      exact ur_ri hx hb hr hlocks hI hQ ⟨(by first | (simp only [um_fltN, c1, c2, ↓reduceIte]; done) | (simp only [um_fltN, c1, c2, ↓reduceIte]; rfl) | rfl), rfl⟩ dU_faultOf_10
abbrev rmkU_flt : Room := { frames := 1, cells := 0, slots := 0, locals := 24 }
set_option maxHeartbeats 4000000 in
set_option maxRecDepth 100000 in
theorem kU_flt (l : Launch) (D : va_G) (E : ur_Ev) (h : ur_M) (a : um_Ad) (S : um_S) (d : Nat) (op : Int32) (mv : Int32) (x : Int32)  (hR : um_R E a S h) (hB : um_Bd S) (hk9 : um_kind d ≠ 4) : ur_Mi l yU_faultOf wsU_faultOf rmkU_flt D vwCl (ur_v E) [.ref (a.1 20 0), .ref (a.1 d 0), .int op, .int mv, .int x] h (fun r h2 => r = um_flt S d op mv x ∧ h2 = h) 0 0 := by
  intro sz
  refine ur_of (cc := cU_faultOf) (maxL := 6) (ret := (some .int)) (by decide) rfl (Nat.le_of_ble_eq_true rfl) ?_
  intro p e s m args below meth c ls Q hsz hx hb hml hr hlocks hnm hown hts hO hK hI hQ hl
  subst hsz
  have hV := hK.1
  have hts : ∀ w ∈ ur_G, w.before args s = true := fun w hw => hts w (List.mem_cons_of_mem _ hw)
  have hZ : ur_Z E (ur_A h s.heap.size) s s.heap := hO.1
  have hown : s.vm.findClass "UnitRoom" = some m.cls := hown
  have hl : lv_has ls 6 [(0, .ref (a.1 20 0)), (1, .ref (a.1 d 0)), (2, .int op), (3, .int mv), (4, .int x)] := hl
  have g0 : h (a.1 20 0) = some (.inr (0, [.ref (a.1 20 1), .ref (a.1 20 3), .ref (a.1 16 0), .ref (a.1 20 5), .long (lN (S.1 20 2)), .int (nI (S.1 20 0))])) := hR.core rfl
  have gm : h (a.1 20 1) = some (.inr (1, [.ref (a.1 20 2)])) := hR.core rfl
  have gc : h (a.1 20 2) = some (.inl (E.1 0, 4000, .inl (S.2 20 2))) := hR.core rfl
  have gu : h (a.1 d 0) = some (.inr ((um_ci d), .int (nI (um_words d)) :: .ref (a.1 d 1) :: .int (nI (um_dur d)) :: .long (lN (S.1 d 4)) :: .int (nI (S.1 d 0)) :: .int (nI (S.1 d 1)) :: .int (nI (S.1 d 5)) :: um_tl a S d)) := hR.dev hk9
  refine lv_iload_n hx hb dU_faultOf_0 rfl (lv_at hl 2 rfl) ?_
  refine lv_if_lt (tgt := 9) hx hb dU_faultOf_1 (by decide) (fun c1 => ?_) (fun c1 => ?_)
  · refine lv_iconst (v := 1) hx hb dU_faultOf_9 (by decide) ?_
    exact ur_ri hx hb hr hlocks hI hQ ⟨(by simp only [um_flt, c1, ↓reduceIte]), rfl⟩ dU_faultOf_10
  · refine lv_iload_n hx hb dU_faultOf_4 rfl (lv_at hl 2 rfl) ?_
    refine lv_iconst (v := 2) hx hb dU_faultOf_5 (by decide) ?_
    refine lv_icmp_le (tgt := 11) hx hb dU_faultOf_6 (by decide) (fun c2 => ?_) (fun c2 => ?_)
    · refine lv_aload_n hx hb dU_faultOf_11 rfl (lv_at hl 1 rfl) ?_
      refine lv_ifnonnull (tgt := 19) hx hb dU_faultOf_12 (by decide) ?_
      refine lv_aload_n hx hb dU_faultOf_19 rfl (lv_at hl 1 rfl) ?_
      refine ur_gD0 hx hb hts hown hV hI (um_ci_D d) gu (hts _ mw69) (fun _ h9 => h9) dU_faultOf_20 ?_
      refine lv_istore (lv' := [(5, .int (nI (um_words d))), (0, .ref (a.1 20 0)), (1, .ref (a.1 d 0)), (2, .int op), (3, .int mv), (4, .int x)]) hx hb dU_faultOf_23 hl (by decide) rfl (fun ls hl => ?_)
      refine lv_iload_n hx hb dU_faultOf_25 rfl (lv_at hl 3 rfl) ?_
      refine lv_if_eq (tgt := 44) hx hb dU_faultOf_26 (by decide) (fun c3 => ?_) (fun c3 => ?_)
      · refine lv_aload_n hx hb dU_faultOf_44 rfl (lv_at hl 2 rfl) ?_
        refine lv_ifnonnull (tgt := 52) hx hb dU_faultOf_45 (by decide) ?_
        refine lv_aload_n hx hb dU_faultOf_52 rfl (lv_at hl 2 rfl) ?_
        refine lv_iload_n hx hb dU_faultOf_53 rfl (lv_at hl 3 rfl) ?_
        refine lv_iload_n hx hb dU_faultOf_54 rfl (lv_at hl 4 rfl) ?_
        refine lv_iload hx hb dU_faultOf_55 (lv_at hl 5 rfl) ?_
        rcases um_kinds hk9 with hkk | hkk | hkk | hkk
        · have gk : h (a.1 d 0) = some (.inr (3, [.int 100, .ref (a.1 d 1), .int (nI (um_dur d)), .long (lN (S.1 d 4)), .int (nI (S.1 d 0)), .int (nI (S.1 d 1)), .int (nI (S.1 d 5)), .int (nI (S.1 d 2)), .ref (a.1 d 2)])) := (um_R.dev hR hk9).trans (by rw [um_devT hkk])
          refine ur_xi (va_runU (As := [.int op, .int mv, .int x]) (rest := []) ⟨hx, hb, hml, hown, hts⟩ (kT_fault l D E h (a.1 d 0) (a.1 d 1) (a.1 d 2) (nI (um_dur d)) (nI (S.1 d 0)) (nI (S.1 d 1)) (nI (S.1 d 5)) (nI (S.1 d 2)) (lN (S.1 d 4)) op mv x gk s.heap.size) (va_cwA (owner := "UnitRoom$Device") 3 hts (ur_gU mw251 mw253 mw260 mw261 mw8 mw262) rfl rfl rfl (hK.2.1.2.1 ⟨"UnitRoom$Device", "faultOf", "(III)I"⟩ (by decide +kernel)) (by decide +kernel) ⟨(Nat.le_of_ble_eq_true rfl), (Nat.le_of_ble_eq_true rfl)⟩) ⟨ur_blind, va_recv hV (ur_one hI.1 gk) (ci := 3) (q0 := 0) rfl rfl, ur_pre hI hO hK (fun _ _ q => q)⟩ rfl rfl hl.1 rfl (lv_room (Nat.le_of_ble_eq_true rfl)) dU_faultOf_57 ⟨Nat.le_of_ble_eq_true rfl, Nat.le_of_ble_eq_true rfl⟩) hI (fun r4 h4 H locs p4 hI => ?_)
          obtain ⟨er4, eh4⟩ := p4
          replace eh4 := eh4.symm; subst eh4
          replace er4 := er4.symm; subst er4
          exact ur_ri hx hb hr hlocks hI hQ ⟨(by unfold um_flt; rw [if_neg c1, if_pos c2, if_pos c3]; show _ = um_df S d op mv x; unfold um_df; rw [if_pos hkk]), rfl⟩ dU_faultOf_60
        · have gk : h (a.1 d 0) = some (.inr (4, [.int 100, .ref (a.1 d 1), .int (nI (um_dur d)), .long (lN (S.1 d 4)), .int (nI (S.1 d 0)), .int (nI (S.1 d 1)), .int (nI (S.1 d 5)), .ref (a.1 d 2)])) := (um_R.dev hR hk9).trans (by rw [um_devK hkk])
          refine ur_xi (va_runU (As := [.int op, .int mv, .int x]) (rest := []) ⟨hx, hb, hml, hown, hts⟩ (kK_fault l D E h (a.1 d 0) (a.1 d 1) (a.1 d 2) (nI (um_dur d)) (nI (S.1 d 0)) (nI (S.1 d 1)) (nI (S.1 d 5)) (lN (S.1 d 4)) op mv x gk s.heap.size) (va_cwA (owner := "UnitRoom$Device") 3 hts (ur_gU mw251 mw253 mw254 mw255 mw9 mw256) rfl rfl rfl (hK.2.1.2.1 ⟨"UnitRoom$Device", "faultOf", "(III)I"⟩ (by decide +kernel)) (by decide +kernel) ⟨(Nat.le_of_ble_eq_true rfl), (Nat.le_of_ble_eq_true rfl)⟩) ⟨ur_blind, va_recv hV (ur_one hI.1 gk) (ci := 4) (q0 := 0) rfl rfl, ur_pre hI hO hK (fun _ _ q => q)⟩ rfl rfl hl.1 rfl (lv_room (Nat.le_of_ble_eq_true rfl)) dU_faultOf_57 ⟨Nat.le_of_ble_eq_true rfl, Nat.le_of_ble_eq_true rfl⟩) hI (fun r5 h5 H locs p5 hI => ?_)
          obtain ⟨er5, eh5⟩ := p5
          replace eh5 := eh5.symm; subst eh5
          replace er5 := er5.symm; subst er5
          exact ur_ri hx hb hr hlocks hI hQ ⟨(by unfold um_flt; rw [if_neg c1, if_pos c2, if_pos c3]; show _ = um_df S d op mv x; unfold um_df; rw [if_neg (show ¬ um_kind d = 0 by omega), if_pos hkk]), rfl⟩ dU_faultOf_60
        · have gk : h (a.1 d 0) = some (.inr (5, [.int 16, .ref (a.1 d 1), .int (nI (um_dur d)), .long (lN (S.1 d 4)), .int (nI (S.1 d 0)), .int (nI (S.1 d 1)), .int (nI (S.1 d 5)), .ref (a.1 d 2), .int (nI (S.1 d 2)), .int (nI (S.1 d 3))])) := (um_R.dev hR hk9).trans (by rw [um_devR hkk])
          refine ur_xi (va_runU (As := [.int op, .int mv, .int x]) (rest := []) ⟨hx, hb, hml, hown, hts⟩ (kR_fault l D E h (a.1 d 0) (a.1 d 1) (a.1 d 2) (S.1 d 2) (S.1 d 3) (nI (um_dur d)) (nI (S.1 d 0)) (nI (S.1 d 1)) (nI (S.1 d 5)) (lN (S.1 d 4)) op mv x gk s.heap.size) (va_cwA (owner := "UnitRoom$Device") 3 hts (ur_gU mw251 mw253 mw257 mw258 mw5 mw259) rfl rfl rfl (hK.2.1.2.1 ⟨"UnitRoom$Device", "faultOf", "(III)I"⟩ (by decide +kernel)) (by decide +kernel) ⟨(Nat.le_of_ble_eq_true rfl), (Nat.le_of_ble_eq_true rfl)⟩) ⟨ur_blind, va_recv hV (ur_one hI.1 gk) (ci := 5) (q0 := 0) rfl rfl, ur_pre hI hO hK (fun _ _ q => q)⟩ rfl rfl hl.1 rfl (lv_room (Nat.le_of_ble_eq_true rfl)) dU_faultOf_57 ⟨Nat.le_of_ble_eq_true rfl, Nat.le_of_ble_eq_true rfl⟩) hI (fun r6 h6 H locs p6 hI => ?_)
          obtain ⟨er6, eh6⟩ := p6
          replace eh6 := eh6.symm; subst eh6
          replace er6 := er6.symm; subst er6
          exact ur_ri hx hb hr hlocks hI hQ ⟨(by unfold um_flt; rw [if_neg c1, if_pos c2, if_pos c3]; show _ = um_df S d op mv x; unfold um_df; rw [if_neg (show ¬ um_kind d = 0 by omega), if_neg (show ¬ um_kind d = 1 by omega), if_pos hkk]), rfl⟩ dU_faultOf_60
        · have gk : h (a.1 d 0) = some (.inr (6, [.int (nI (um_words d)), .ref (a.1 d 1), .int (nI (um_dur d)), .long (lN (S.1 d 4)), .int (nI (S.1 d 0)), .int (nI (S.1 d 1)), .int (nI (S.1 d 5)), .ref (a.1 d 2), .int (if d = 18 then 1 else 0), .int (nI (S.1 d 2))])) := (um_R.dev hR hk9).trans (by rw [um_devW hkk])
          refine ur_xi (va_runU (As := [.int op, .int mv, .int x]) (rest := []) ⟨hx, hb, hml, hown, hts⟩ (kW_fault l D E h (a.1 d 0) (a.1 d 1) (a.1 d 2) (um_words d) (S.1 d 2) (nI (um_dur d)) (nI (S.1 d 0)) (nI (S.1 d 1)) (nI (S.1 d 5)) (if d = 18 then 1 else 0) (lN (S.1 d 4)) op mv x gk s.heap.size) (va_cwA (owner := "UnitRoom$Device") 3 hts (ur_gU mw251 mw253 mw263 mw264 mw10 mw265) rfl rfl rfl (hK.2.1.2.1 ⟨"UnitRoom$Device", "faultOf", "(III)I"⟩ (by decide +kernel)) (by decide +kernel) ⟨(Nat.le_of_ble_eq_true rfl), (Nat.le_of_ble_eq_true rfl)⟩) ⟨ur_blind, va_recv hV (ur_one hI.1 gk) (ci := 6) (q0 := 0) rfl rfl, ur_pre hI hO hK (fun _ _ q => q)⟩ rfl rfl hl.1 rfl (lv_room (Nat.le_of_ble_eq_true rfl)) dU_faultOf_57 ⟨Nat.le_of_ble_eq_true rfl, Nat.le_of_ble_eq_true rfl⟩) hI (fun r7 h7 H locs p7 hI => ?_)
          obtain ⟨er7, eh7⟩ := p7
          replace eh7 := eh7.symm; subst eh7
          replace er7 := er7.symm; subst er7
          exact ur_ri hx hb hr hlocks hI hQ ⟨(by unfold um_flt; rw [if_neg c1, if_pos c2, if_pos c3]; show _ = um_df S d op mv x; unfold um_df; rw [if_neg (show ¬ um_kind d = 0 by omega), if_neg (show ¬ um_kind d = 1 by omega), if_neg (show ¬ um_kind d = 2 by omega)]), rfl⟩ dU_faultOf_60
      · refine lv_aload_n hx hb dU_faultOf_29 rfl (lv_at hl 1 rfl) ?_
        refine va_get (D := D) (ci := 0) (v := .ref (a.1 20 1)) (C := "UnitRoom") (T := TU) (N := 6) hx hb hts inU hown hV (ur_one hI.1 g0) 0 rfl rfl 0 (by decide) (hts _ mw170) (fun _ h9 => h9) rfl dU_faultOf_30 ?_
        refine lv_iload_n hx hb dU_faultOf_33 rfl (lv_at hl 4 rfl) ?_
        refine lv_iload hx hb dU_faultOf_34 (lv_at hl 0 rfl) ?_
        refine ur_xi (va_runV (As := [.int mv, .int (nI (um_words d))]) (rest := []) ⟨hx, hb, hml, hown, hts⟩ (kM_h l D E h (a.1 20 1) (a.1 20 2) (S.2 20 2) mv (nI (um_words d)) gm gc s.heap.size) (cwV 2 hts (ur_gV mw213 mw214 mw215 mw2 mw216) rfl rfl rfl (by decide +kernel) ⟨(Nat.le_of_ble_eq_true rfl), (Nat.le_of_ble_eq_true rfl)⟩) ⟨ur_blind, va_recv hV (ur_one hI.1 gm) (ci := 1) (q0 := 0) rfl rfl, ur_pre hI hO hK (fun _ _ q => q)⟩ rfl rfl hl.1 rfl (lv_room (Nat.le_of_ble_eq_true rfl)) dU_faultOf_36 ⟨Nat.le_of_ble_eq_true rfl, Nat.le_of_ble_eq_true rfl⟩) hI (fun r8 h8 H locs p8 hI => ?_)
        obtain ⟨er8, eh8⟩ := p8
        replace eh8 := eh8.symm; subst eh8
        refine lv_if_ne (tgt := 44) hx hb dU_faultOf_39 (by decide) (fun c9 => ?_) (fun c9 => ?_)
        · have k10 : (um_holds mv (nI (um_words d))) = true := um_b1 er8 c9
          refine lv_aload_n hx hb dU_faultOf_44 rfl (lv_at hl 2 rfl) ?_
          refine lv_ifnonnull (tgt := 52) hx hb dU_faultOf_45 (by decide) ?_
          refine lv_aload_n hx hb dU_faultOf_52 rfl (lv_at hl 2 rfl) ?_
          refine lv_iload_n hx hb dU_faultOf_53 rfl (lv_at hl 3 rfl) ?_
          refine lv_iload_n hx hb dU_faultOf_54 rfl (lv_at hl 4 rfl) ?_
          refine lv_iload hx hb dU_faultOf_55 (lv_at hl 5 rfl) ?_
          rcases um_kinds hk9 with hkk | hkk | hkk | hkk
          · have gk : h (a.1 d 0) = some (.inr (3, [.int 100, .ref (a.1 d 1), .int (nI (um_dur d)), .long (lN (S.1 d 4)), .int (nI (S.1 d 0)), .int (nI (S.1 d 1)), .int (nI (S.1 d 5)), .int (nI (S.1 d 2)), .ref (a.1 d 2)])) := (um_R.dev hR hk9).trans (by rw [um_devT hkk])
            refine ur_xi (va_runU (As := [.int op, .int mv, .int x]) (rest := []) ⟨hx, hb, hml, hown, hts⟩ (kT_fault l D E h (a.1 d 0) (a.1 d 1) (a.1 d 2) (nI (um_dur d)) (nI (S.1 d 0)) (nI (S.1 d 1)) (nI (S.1 d 5)) (nI (S.1 d 2)) (lN (S.1 d 4)) op mv x gk H.size) (va_cwA (owner := "UnitRoom$Device") 3 hts (ur_gU mw251 mw253 mw260 mw261 mw8 mw262) rfl rfl rfl (hK.2.1.2.1 ⟨"UnitRoom$Device", "faultOf", "(III)I"⟩ (by decide +kernel)) (by decide +kernel) ⟨(Nat.le_of_ble_eq_true rfl), (Nat.le_of_ble_eq_true rfl)⟩) ⟨ur_blind, va_recv hV (ur_one hI.1 gk) (ci := 3) (q0 := 0) rfl rfl, ur_pre hI hO hK (fun _ _ q => q)⟩ rfl rfl hl.1 rfl (lv_room (Nat.le_of_ble_eq_true rfl)) dU_faultOf_57 ⟨Nat.le_of_ble_eq_true rfl, Nat.le_of_ble_eq_true rfl⟩) hI (fun r11 h11 H locs p11 hI => ?_)
            obtain ⟨er11, eh11⟩ := p11
            replace eh11 := eh11.symm; subst eh11
            replace er11 := er11.symm; subst er11
            exact ur_ri hx hb hr hlocks hI hQ ⟨(by unfold um_flt; rw [if_neg c1, if_pos c2, if_neg c3, if_pos k10]; show _ = um_df S d op mv x; unfold um_df; rw [if_pos hkk]), rfl⟩ dU_faultOf_60
          · have gk : h (a.1 d 0) = some (.inr (4, [.int 100, .ref (a.1 d 1), .int (nI (um_dur d)), .long (lN (S.1 d 4)), .int (nI (S.1 d 0)), .int (nI (S.1 d 1)), .int (nI (S.1 d 5)), .ref (a.1 d 2)])) := (um_R.dev hR hk9).trans (by rw [um_devK hkk])
            refine ur_xi (va_runU (As := [.int op, .int mv, .int x]) (rest := []) ⟨hx, hb, hml, hown, hts⟩ (kK_fault l D E h (a.1 d 0) (a.1 d 1) (a.1 d 2) (nI (um_dur d)) (nI (S.1 d 0)) (nI (S.1 d 1)) (nI (S.1 d 5)) (lN (S.1 d 4)) op mv x gk H.size) (va_cwA (owner := "UnitRoom$Device") 3 hts (ur_gU mw251 mw253 mw254 mw255 mw9 mw256) rfl rfl rfl (hK.2.1.2.1 ⟨"UnitRoom$Device", "faultOf", "(III)I"⟩ (by decide +kernel)) (by decide +kernel) ⟨(Nat.le_of_ble_eq_true rfl), (Nat.le_of_ble_eq_true rfl)⟩) ⟨ur_blind, va_recv hV (ur_one hI.1 gk) (ci := 4) (q0 := 0) rfl rfl, ur_pre hI hO hK (fun _ _ q => q)⟩ rfl rfl hl.1 rfl (lv_room (Nat.le_of_ble_eq_true rfl)) dU_faultOf_57 ⟨Nat.le_of_ble_eq_true rfl, Nat.le_of_ble_eq_true rfl⟩) hI (fun r12 h12 H locs p12 hI => ?_)
            obtain ⟨er12, eh12⟩ := p12
            replace eh12 := eh12.symm; subst eh12
            replace er12 := er12.symm; subst er12
            exact ur_ri hx hb hr hlocks hI hQ ⟨(by unfold um_flt; rw [if_neg c1, if_pos c2, if_neg c3, if_pos k10]; show _ = um_df S d op mv x; unfold um_df; rw [if_neg (show ¬ um_kind d = 0 by omega), if_pos hkk]), rfl⟩ dU_faultOf_60
          · have gk : h (a.1 d 0) = some (.inr (5, [.int 16, .ref (a.1 d 1), .int (nI (um_dur d)), .long (lN (S.1 d 4)), .int (nI (S.1 d 0)), .int (nI (S.1 d 1)), .int (nI (S.1 d 5)), .ref (a.1 d 2), .int (nI (S.1 d 2)), .int (nI (S.1 d 3))])) := (um_R.dev hR hk9).trans (by rw [um_devR hkk])
            refine ur_xi (va_runU (As := [.int op, .int mv, .int x]) (rest := []) ⟨hx, hb, hml, hown, hts⟩ (kR_fault l D E h (a.1 d 0) (a.1 d 1) (a.1 d 2) (S.1 d 2) (S.1 d 3) (nI (um_dur d)) (nI (S.1 d 0)) (nI (S.1 d 1)) (nI (S.1 d 5)) (lN (S.1 d 4)) op mv x gk H.size) (va_cwA (owner := "UnitRoom$Device") 3 hts (ur_gU mw251 mw253 mw257 mw258 mw5 mw259) rfl rfl rfl (hK.2.1.2.1 ⟨"UnitRoom$Device", "faultOf", "(III)I"⟩ (by decide +kernel)) (by decide +kernel) ⟨(Nat.le_of_ble_eq_true rfl), (Nat.le_of_ble_eq_true rfl)⟩) ⟨ur_blind, va_recv hV (ur_one hI.1 gk) (ci := 5) (q0 := 0) rfl rfl, ur_pre hI hO hK (fun _ _ q => q)⟩ rfl rfl hl.1 rfl (lv_room (Nat.le_of_ble_eq_true rfl)) dU_faultOf_57 ⟨Nat.le_of_ble_eq_true rfl, Nat.le_of_ble_eq_true rfl⟩) hI (fun r13 h13 H locs p13 hI => ?_)
            obtain ⟨er13, eh13⟩ := p13
            replace eh13 := eh13.symm; subst eh13
            replace er13 := er13.symm; subst er13
            exact ur_ri hx hb hr hlocks hI hQ ⟨(by unfold um_flt; rw [if_neg c1, if_pos c2, if_neg c3, if_pos k10]; show _ = um_df S d op mv x; unfold um_df; rw [if_neg (show ¬ um_kind d = 0 by omega), if_neg (show ¬ um_kind d = 1 by omega), if_pos hkk]), rfl⟩ dU_faultOf_60
          · have gk : h (a.1 d 0) = some (.inr (6, [.int (nI (um_words d)), .ref (a.1 d 1), .int (nI (um_dur d)), .long (lN (S.1 d 4)), .int (nI (S.1 d 0)), .int (nI (S.1 d 1)), .int (nI (S.1 d 5)), .ref (a.1 d 2), .int (if d = 18 then 1 else 0), .int (nI (S.1 d 2))])) := (um_R.dev hR hk9).trans (by rw [um_devW hkk])
            refine ur_xi (va_runU (As := [.int op, .int mv, .int x]) (rest := []) ⟨hx, hb, hml, hown, hts⟩ (kW_fault l D E h (a.1 d 0) (a.1 d 1) (a.1 d 2) (um_words d) (S.1 d 2) (nI (um_dur d)) (nI (S.1 d 0)) (nI (S.1 d 1)) (nI (S.1 d 5)) (if d = 18 then 1 else 0) (lN (S.1 d 4)) op mv x gk H.size) (va_cwA (owner := "UnitRoom$Device") 3 hts (ur_gU mw251 mw253 mw263 mw264 mw10 mw265) rfl rfl rfl (hK.2.1.2.1 ⟨"UnitRoom$Device", "faultOf", "(III)I"⟩ (by decide +kernel)) (by decide +kernel) ⟨(Nat.le_of_ble_eq_true rfl), (Nat.le_of_ble_eq_true rfl)⟩) ⟨ur_blind, va_recv hV (ur_one hI.1 gk) (ci := 6) (q0 := 0) rfl rfl, ur_pre hI hO hK (fun _ _ q => q)⟩ rfl rfl hl.1 rfl (lv_room (Nat.le_of_ble_eq_true rfl)) dU_faultOf_57 ⟨Nat.le_of_ble_eq_true rfl, Nat.le_of_ble_eq_true rfl⟩) hI (fun r14 h14 H locs p14 hI => ?_)
            obtain ⟨er14, eh14⟩ := p14
            replace eh14 := eh14.symm; subst eh14
            replace er14 := er14.symm; subst er14
            exact ur_ri hx hb hr hlocks hI hQ ⟨(by unfold um_flt; rw [if_neg c1, if_pos c2, if_neg c3, if_pos k10]; show _ = um_df S d op mv x; unfold um_df; rw [if_neg (show ¬ um_kind d = 0 by omega), if_neg (show ¬ um_kind d = 1 by omega), if_neg (show ¬ um_kind d = 2 by omega)]), rfl⟩ dU_faultOf_60
        · have k15 : (um_holds mv (nI (um_words d))) = false := um_b0 er8 c9
          refine lv_iconst (v := 2) hx hb dU_faultOf_42 (by decide) ?_
          exact ur_ri hx hb hr hlocks hI hQ ⟨(by unfold um_flt; rw [if_neg c1, if_pos c2, if_neg c3, if_neg (by rw [k15]; decide)]), rfl⟩ dU_faultOf_43
    · refine lv_iconst (v := 1) hx hb dU_faultOf_9 (by decide) ?_
      exact ur_ri hx hb hr hlocks hI hQ ⟨(by simp only [um_flt, c1, c2, ↓reduceIte]), rfl⟩ dU_faultOf_10
end
section
/-! the state behind an operation -/
section UMW
variable {E : ur_Ev} {a : um_Ad} {S S' : um_S} {h : ur_M}
/-- numbers of one unit change its object alone -/
theorem um_ct_obj {d : Nat} (hd : d ≠ 20) (hA : ∀ x y, ¬ (x = d ∧ y < 6) → S'.1 x y = S.1 x y) (hF : S'.2 = S.2) (d' j' : Nat) (hn : ¬ (d' = d ∧ j' = 0)) : um_ct E a S' d' j' = um_ct E a S d' j' := by
  unfold um_ct
  by_cases h20 : d' = 20
  · rw [if_pos h20, if_pos h20]
    unfold um_core
    have e : ∀ y, S'.1 20 y = S.1 20 y := fun y => hA 20 y (fun z => hd z.1.symm)
    simp only [e, hF]
  · rw [if_neg h20, if_neg h20]
    by_cases h4 : um_kind d' = 4
    · rw [if_pos h4, if_pos h4]
    · rw [if_neg h4, if_neg h4]
      match j', hn with
      | 0, hn =>
        have e : ∀ y, S'.1 d' y = S.1 d' y := fun y => hA d' y (fun z => hn ⟨z.1, rfl⟩)
        show some (um_dev a S' d') = some (um_dev a S d')
        unfold um_dev um_tl
        simp only [e]
      | 1, _ => show some _ = some _; rw [hF]
      | 2, _ =>
        show some (um_two E a S' d') = some (um_two E a S d')
        unfold um_two
        rw [hF]
      | b + 3, _ =>
        show (if a.2 d' b = true then some (um_row E S' d' b) else none) = (if a.2 d' b = true then some (um_row E S d' b) else none)
        unfold um_row
        rw [hA d' (6 + b) (fun z => by omega), hF]
theorem um_R.obj (hR : um_R E a S h) {d : Nat} (hd : um_kind d ≠ 4) (hA : ∀ x y, ¬ (x = d ∧ y < 6) → S'.1 x y = S.1 x y) (hF : S'.2 = S.2) (h4 : um_kind d = 3 → ∀ b, b < S'.1 d 2 → a.2 d b = true ∧ S'.1 d (6 + b) ≤ 120) {e : va_E} (he : um_dev a S' d = e) : um_R E a S' (va_up h (a.1 d 0) (some e)) :=
  hR.put d 0 (um_ct_dev hd) ((um_ct_dev hd).trans (by rw [he])) (um_ct_obj (um_d20 hd) hA hF) (fun d' b q1 q2 => by rw [hF]; exact hR.2.2.1 d' b q1 q2) (fun d' b q1 q2 => by
    by_cases z : d' = d
    · subst z; exact h4 q1 b q2
    · rw [hA d' 2 (fun y => z y.1)] at q2
      rw [hA d' (6 + b) (fun y => z y.1)]
      exact hR.2.2.2 d' b q1 q2)
/-- the content of a row that is there -/
theorem um_R.rowput (hR : um_R E a S h) {d b : Nat} (hd : um_kind d ≤ 1) (hb : a.2 d b = true) (f : Nat → Int32) : um_R E a (um_sF S d (3 + b) f) (va_up h (a.1 d (3 + b)) (some (.inl (E.1 0, 100, .inl f)))) := by
  refine hR.put d (3 + b) (e0 := um_row E S d b) ?_ ?_ um_ct_sF (fun d' b' q1 q2 => ?_) hR.2.2.2
  · rw [um_ct_row (by omega), if_pos hb]
  · rw [um_ct_row (by omega), if_pos hb]
    unfold um_row
    rw [if_neg (by omega), um_sF_1]
  · by_cases z : d' = d ∧ 3 + b' = 3 + b
    · have e1 := z.1
      have e2 : b' = b := by omega
      subst e1
      subst e2
      rw [hb] at q2
      cases q2
    · rw [um_sF_n S z]
      exact hR.2.2.1 d' b' q1 q2
def um_aw (a : um_Ad) (d b x : Nat) : um_Ad := (fun p q => if p = d ∧ q = 3 + b then x else a.1 p q, fun p q => if p = d ∧ q = b then true else a.2 p q)
theorem um_aw_1 {d b x p q : Nat} (h : ¬ (p = d ∧ q = 3 + b)) : (um_aw a d b x).1 p q = a.1 p q := if_neg h
theorem um_aw_x {d b x : Nat} : (um_aw a d b x).1 d (3 + b) = x := if_pos ⟨rfl, rfl⟩
theorem um_aw_2 {d b x p q : Nat} (h : ¬ (p = d ∧ q = b)) : (um_aw a d b x).2 p q = a.2 p q := if_neg h
theorem um_aw_t {d b x : Nat} : (um_aw a d b x).2 d b = true := if_pos ⟨rfl, rfl⟩
theorem um_aw_rows {d b x : Nat} : um_rows (um_aw a d b x) d = va_up (um_rows a d) b (some x) := by
  funext q
  by_cases z : q = b
  · subst z
    rw [va_up_self]
    unfold um_rows
    rw [um_aw_t, if_pos rfl, um_aw_x]
  · rw [va_up_ne _ _ z]
    unfold um_rows
    rw [um_aw_2 (fun y => z y.2), um_aw_1 (fun y => z (by omega))]
/-- a new row -/
theorem um_R.row (hR : um_R E a S h) {d b x : Nat} (hd : um_kind d = 0 ∨ um_kind d = 1 ∨ um_kind d = 3) (hx : h x = none) (hb : a.2 d b = false) (hA : ∀ p q, ¬ (p = d ∧ q = 6 + b) → S'.1 p q = S.1 p q) (hF : ∀ p q, ¬ (p = d ∧ q = 3 + b) → S'.2 p q = S.2 p q) : um_R E (um_aw a d b x) S' (va_up (va_up h x (some (um_row E S' d b))) (a.1 d 2) (some (um_two E (um_aw a d b x) S' d))) := by
  have hk : um_kind d ≠ 4 := by omega
  have hd20 := um_d20 hk
  have old : ∀ d' j', ¬ (d' = d ∧ j' = 3 + b) → ¬ (d' = d ∧ j' = 2) → um_ct E (um_aw a d b x) S' d' j' = um_ct E a S d' j' := by
    intro d' j' n1 n2
    unfold um_ct
    by_cases h20 : d' = 20
    · rw [if_pos h20, if_pos h20]
      unfold um_core
      have e : ∀ y, S'.1 20 y = S.1 20 y := fun y => hA 20 y (fun z => hd20 z.1.symm)
      have e2 : ∀ y, S'.2 20 y = S.2 20 y := fun y => hF 20 y (fun z => hd20 z.1.symm)
      have e3 : ∀ y, (um_aw a d b x).1 20 y = a.1 20 y := fun y => um_aw_1 (fun z => hd20 z.1.symm)
      have e4 : (um_aw a d b x).1 16 0 = a.1 16 0 := um_aw_1 (fun z => by omega)
      have e5 : um_devs (um_aw a d b x) = um_devs a := by
        funext u
        unfold um_devs
        rw [um_aw_1 (fun z => by omega)]
      simp only [e, e2, e3, e4, e5]
    · rw [if_neg h20, if_neg h20]
      by_cases h4 : um_kind d' = 4
      · rw [if_pos h4, if_pos h4]
      · rw [if_neg h4, if_neg h4]
        match j', n1, n2 with
        | 0, _, _ =>
          show some (um_dev (um_aw a d b x) S' d') = some (um_dev a S d')
          unfold um_dev um_tl
          rw [um_aw_1 (show ¬ (d' = d ∧ 1 = 3 + b) by omega), um_aw_1 (show ¬ (d' = d ∧ 2 = 3 + b) by omega), hA d' 4 (by omega), hA d' 0 (by omega), hA d' 1 (by omega), hA d' 5 (by omega), hA d' 2 (by omega), hA d' 3 (by omega)]
        | 1, _, _ => show some _ = some _; rw [hF d' 1 (by omega)]
        | 2, _, n2 =>
          have n : d' ≠ d := fun z => n2 ⟨z, rfl⟩
          show some (um_two E (um_aw a d b x) S' d') = some (um_two E a S d')
          have er : um_rows (um_aw a d b x) d' = um_rows a d' := by
            funext q
            unfold um_rows
            rw [um_aw_2 (fun z => n z.1), um_aw_1 (fun z => n z.1)]
          unfold um_two
          rw [er, hF d' 2 (by omega)]
        | c + 3, n1, _ =>
          have n : ¬ (d' = d ∧ c = b) := fun z => n1 ⟨z.1, by omega⟩
          show (if (um_aw a d b x).2 d' c = true then some (um_row E S' d' c) else none) = (if a.2 d' c = true then some (um_row E S d' c) else none)
          unfold um_row
          rw [um_aw_2 n, hA d' (6 + c) (fun z => n ⟨z.1, by omega⟩), hF d' (3 + c) (fun z => n ⟨z.1, by omega⟩)]
  have hrow : um_ct E (um_aw a d b x) S' d (3 + b) = some (um_row E S' d b) := by rw [um_ct_row hk, um_aw_t, if_pos rfl]
  have htwo : um_ct E (um_aw a d b x) S' d 2 = some (um_two E (um_aw a d b x) S' d) := um_ct_two hk
  have hox : ∀ d' j' e, um_ct E a S d' j' = some e → a.1 d' j' ≠ x := fun d' j' e q => ur_fresh (hR.1 d' j' e q) hx
  have hnr : um_ct E a S d (3 + b) = none := by rw [um_ct_row hk, hb]; rfl
  have ad : ∀ d' j' e, um_ct E (um_aw a d b x) S' d' j' = some e → (d' = d ∧ j' = 3 + b) ∨ (∃ e0, um_ct E a S d' j' = some e0 ∧ (um_aw a d b x).1 d' j' = a.1 d' j') := by
    intro d' j' e q
    by_cases n1 : d' = d ∧ j' = 3 + b
    · exact Or.inl n1
    · refine Or.inr ?_
      by_cases n2 : d' = d ∧ j' = 2
      · exact ⟨um_two E a S d, by rw [n2.1, n2.2]; exact um_ct_two hk, um_aw_1 n1⟩
      · exact ⟨e, (old d' j' n1 n2).symm.trans q, um_aw_1 n1⟩
  have h2x : a.1 d 2 ≠ x := hox d 2 _ (um_ct_two hk)
  refine ⟨fun d' j' e q => ?_, fun d1 j1 d2 j2 e1 e2 q1 q2 z => ?_, fun d' b' q1 q2 => ?_, fun d' b' q1 q2 => ?_⟩
  · by_cases n1 : d' = d ∧ j' = 3 + b
    · rw [n1.1, n1.2] at q ⊢
      rw [hrow] at q
      cases q
      rw [um_aw_x]
      exact (va_up_ne _ _ (Ne.symm h2x)).trans (va_up_self _ _ _)
    · by_cases n2 : d' = d ∧ j' = 2
      · rw [n2.1, n2.2] at q ⊢
        rw [htwo] at q
        cases q
        rw [um_aw_1 (by omega)]
        exact va_up_self _ _ _
      · rw [old d' j' n1 n2] at q
        rw [um_aw_1 n1]
        exact (va_up_ne _ _ (hR.apart q (um_ct_two hk) n2)).trans ((va_up_ne _ _ (hox d' j' e q)).trans (hR.1 d' j' e q))
  · rcases ad d1 j1 e1 q1 with n1 | ⟨x1, y1, w1⟩
    · rcases ad d2 j2 e2 q2 with n2 | ⟨x2, y2, w2⟩
      · exact ⟨n1.1.trans n2.1.symm, n1.2.trans n2.2.symm⟩
      · rw [n1.1, n1.2, um_aw_x, w2] at z
        exact absurd z.symm (hox d2 j2 x2 y2)
    · rcases ad d2 j2 e2 q2 with n2 | ⟨x2, y2, w2⟩
      · rw [n2.1, n2.2, um_aw_x, w1] at z
        exact absurd z (hox d1 j1 x1 y1)
      · rw [w1, w2] at z
        exact hR.2.1 d1 j1 d2 j2 x1 x2 y1 y2 z
  · by_cases n : d' = d ∧ b' = b
    · rw [n.1, n.2, um_aw_t] at q2
      cases q2
    · rw [um_aw_2 n] at q2
      rw [hF d' (3 + b') (fun z => n ⟨z.1, by omega⟩)]
      exact hR.2.2.1 d' b' q1 q2
  · rw [hA d' 2 (by omega)] at q2
    obtain ⟨r1, r2⟩ := hR.2.2.2 d' b' q1 q2
    have n : ¬ (d' = d ∧ b' = b) := fun z => by rw [z.1, z.2, hb] at r1; cases r1
    rw [um_aw_2 n, hA d' (6 + b') (fun z => n ⟨z.1, by omega⟩)]
    exact ⟨r1, r2⟩
end UMW
end
section
/-! what an operation does -/
def um_posN (p : Nat) (m : Int32) : Nat := (um_posT (nI p) m).toNatClampNeg
def um_wT (T : um_S) (d : Nat) (op m : Int32) : um_S := if op = 0 then um_sA T d 2 (um_posN (T.1 d 2) m) else if op = 1 then um_sA (um_sA (um_sA (um_sF T d 1 (um_bring (fun b => T.2 d (3 + b)) (nI (T.1 d 2)) (T.2 d 1) 100)) d 0 1) d 5 m.toNatClampNeg) d 2 (T.1 d 2 + 1) else um_sA (um_sF T d (3 + T.1 d 2) (um_cin (T.2 20 2) (T.2 d (3 + T.1 d 2)) m 100)) d 2 (T.1 d 2 + 1)
def um_wK (T : um_S) (d : Nat) (op m x : Int32) : um_S := if op = 0 then T else if op = 1 then um_sA (um_sA (um_sF T d 1 (um_bring (fun b => T.2 d (3 + b)) x (T.2 d 1) 100)) d 0 1) d 5 m.toNatClampNeg else um_sF T d (3 + x.toNatClampNeg) (um_cin (T.2 20 2) (T.2 d (3 + x.toNatClampNeg)) m 100)
def um_wR (T : um_S) (d : Nat) (m : Int32) : um_S := um_sA (um_sA (um_sA (um_sA (um_sF T d 1 (um_rd (T.2 d 2) (T.2 d 1) (T.1 d 2 * 16) 16)) d 0 1) d 5 m.toNatClampNeg) d 2 ((T.1 d 2 + 1) % 100)) d 3 (T.1 d 3 - 1)
def um_wW (T : um_S) (d : Nat) (op m : Int32) : um_S := if T.1 d 2 = 300 then T else if op = 0 then um_sA (um_sA (um_sF T d (3 + T.1 d 2) um_ff) d (6 + T.1 d 2) 1) d 2 (T.1 d 2 + 1) else um_sA (um_sA (um_sF T d (3 + T.1 d 2) (um_line (T.2 20 2) m (um_len (T.2 20 2) m (um_words d * 5)))) d (6 + T.1 d 2) (um_len (T.2 20 2) m (um_words d * 5))) d 2 (T.1 d 2 + 1)
def um_wk (T : um_S) (d : Nat) (op m x : Int32) : um_S := if um_kind d = 0 then um_wT T d op m else if um_kind d = 1 then um_wK T d op m x else if um_kind d = 2 then um_wR T d m else um_wW T d op m
def um_bgn (S : um_S) (d : Nat) : um_S := um_sA (um_sA (um_sA (um_goTo S (max (S.1 20 2) (S.1 d 4))) 20 0 (S.1 20 0 + 1)) d 4 (max (S.1 20 2) (S.1 d 4) + um_dur d)) d 1 (S.1 20 0 + 1)
def um_opr (S : um_S) (u op m x : Int32) : Int32 := match um_un u with
  | none => um_fltN op m
  | some d => um_flt S d op m x
def um_opS (S : um_S) (u op m x : Int32) : um_S := match um_un u with
  | none => S
  | some d => if um_flt S d op m x = 0 then um_wk (um_bgn S d) d op m x else S
/-- of a writer those rows are there that it has written -/
def um_A (a : um_Ad) (S : um_S) : Prop := ∀ d b, um_kind d = 3 → a.2 d b = true → b < S.1 d 2
theorem um_A_same {a a' : um_Ad} {S S' : um_S} (hA : um_A a S) (h2 : ∀ p q, um_kind p = 3 → a'.2 p q = a.2 p q) (hS : ∀ p, um_kind p = 3 → S'.1 p 2 = S.1 p 2) : um_A a' S' := fun d b hk hb => by
  rw [h2 d b hk] at hb
  rw [hS d hk]
  exact hA d b hk hb
theorem um_nn {m : Int32} (h : ¬ m < 0) : nI m.toNatClampNeg = m := by
  obtain ⟨j, hj, rfl⟩ := nI_of h
  rw [nI_clamp hj]
theorem um_pos_e {p : Nat} (hp : p ≤ 64) (m : Int32) : um_posT (nI p) m = nI (um_posN p m) ∧ um_posN p m ≤ 64 := by
  unfold um_posN um_posT um_pos
  by_cases h0 : m = 0
  · rw [if_pos h0]; exact ⟨rfl, by decide⟩
  · rw [if_neg h0]
    generalize (nI p).toInt64 + m.toInt64 = s
    by_cases h1 : s < 64
    · rw [if_pos h1]
      by_cases h2 : s < 0
      · rw [if_pos h2]; exact ⟨rfl, by decide⟩
      · rw [if_neg h2]
        obtain ⟨k, hk, rfl⟩ := pk_lOf h2
        have hk64 : k < 64 := (pk_lLT (b := 64) hk (by decide)).mp h1
        rw [lN_i, nI_clamp (by omega)]
        exact ⟨rfl, by omega⟩
    · rw [if_neg h1, if_neg (by decide)]; exact ⟨rfl, by decide⟩
section UMK
variable {E : ur_Ev} {a : um_Ad} {T : um_S} {h h2 h3 : ur_M} {d : Nat} {m x : Int32}
theorem um_R.T0 (hR : um_R E a T h) (hk : um_kind d = 0) (hp : T.1 d 2 ≤ 64) (e : h2 = va_up h (a.1 d 0) (some (.inr (3, [.int 100, .ref (a.1 d 1), .int (nI (um_dur d)), .long (lN (T.1 d 4)), .int (nI (T.1 d 0)), .int (nI (T.1 d 1)), .int (nI (T.1 d 5)), .int (um_posT (nI (T.1 d 2)) m), .ref (a.1 d 2)])))) : um_R E a (um_wk T d 0 m x) h2 := by
  unfold um_wk um_wT
  rw [if_pos hk, if_pos rfl, e]
  refine hR.obj (by omega) (fun p q n => um_sA_n T (fun z => n ⟨z.1, by omega⟩)) rfl (fun q => by omega) ?_
  rw [um_devT hk, (um_pos_e hp m).1]
  simp [um_sA]
theorem um_R.T1 (hR : um_R E a T h) (hk : um_kind d = 0) (hm : nI m.toNatClampNeg = m) (e : h2 = va_up (va_up h (a.1 d 1) (some (.inl (E.1 0, 100, .inl (um_bring (fun b => T.2 d (3 + b)) (nI (T.1 d 2)) (T.2 d 1) 100))))) (a.1 d 0) (some (.inr (3, [.int 100, .ref (a.1 d 1), .int (nI (um_dur d)), .long (lN (T.1 d 4)), .int 1, .int (nI (T.1 d 1)), .int m, .int (nI (T.1 d 2) + 1), .ref (a.1 d 2)])))) : um_R E a (um_wk T d 1 m x) h2 := by
  unfold um_wk um_wT
  rw [if_pos hk, if_neg (by decide), if_pos rfl, e]
  have hF := um_R.arr (f := um_bring (fun b => T.2 d (3 + b)) (nI (T.1 d 2)) (T.2 d 1) 100) hR (Or.inl (by decide)) (um_ct_br (d := d) (by omega)) (e := .inl (E.1 0, 100, .inl (um_bring (fun b => T.2 d (3 + b)) (nI (T.1 d 2)) (T.2 d 1) 100))) (by rw [um_ct_br (by omega), um_sF_1, (um_kd d (um_k20' (by omega))).1 hk])
  refine um_R.obj (d := d) hF (by omega) (fun p q n => ?_) ?_ (fun q => by omega) ?_
  · rw [um_sA_n _ (fun z => n ⟨z.1, by omega⟩), um_sA_n _ (fun z => n ⟨z.1, by omega⟩), um_sA_n _ (fun z => n ⟨z.1, by omega⟩)]
  · rfl
  · rw [um_devT hk]
    simp [um_sA, um_sF, hm, nI_succ]
    rfl
theorem um_wrote.R (hR : um_R E a T h) (hk : um_kind d ≤ 1) {b : Nat} {r : Nat → Int32} (hw : um_wrote E h (a.1 d 2) (um_rows a d) b r h3) : ∃ a' : um_Ad, (∀ p q, q < 3 → a'.1 p q = a.1 p q) ∧ (∀ p q, um_kind p = 3 → a'.2 p q = a.2 p q) ∧ um_R E a' (um_sF T d (3 + b) r) h3 := by
  rcases hw with ⟨y, hy, rfl⟩ | ⟨hy, y, hz, rfl⟩
  · obtain ⟨h1, rfl⟩ := um_rows_some hy
    exact ⟨a, fun _ _ _ => rfl, fun _ _ _ => rfl, hR.rowput hk h1 r⟩
  · refine ⟨um_aw a d b y, fun p q hq => um_aw_1 (by omega), fun p q hp => um_aw_2 (fun z => by rw [z.1] at hp; omega), ?_⟩
    have q := um_R.row (S' := um_sF T d (3 + b) r) hR (by omega) hz (um_rows_none hy) (fun _ _ _ => rfl) (fun p q n => um_sF_n T n)
    have e1 : um_row E (um_sF T d (3 + b) r) d b = .inl (E.1 0, 100, .inl r) := by
      unfold um_row
      rw [if_neg (by omega), um_sF_1]
    have e2 : um_two E (um_aw a d b y) (um_sF T d (3 + b) r) d = .inl (E.1 3, 64, .inr (.inr (.inr (.inr (va_up (um_rows a d) b (some y)))))) := by
      rw [um_twoB hk, um_aw_rows]
    rw [e1, e2] at q
    exact q
theorem um_R.T2 (hR : um_R E a T h) (hk : um_kind d = 0) (hp : T.1 d 2 < 64) (hw : um_wrote E h (a.1 d 2) (um_rows a d) (nI (T.1 d 2)).toNatClampNeg (um_cin (T.2 20 2) (T.2 d (3 + (nI (T.1 d 2)).toNatClampNeg)) m 100) h3) (e : h2 = va_up h3 (a.1 d 0) (some (.inr (3, [.int 100, .ref (a.1 d 1), .int (nI (um_dur d)), .long (lN (T.1 d 4)), .int (nI (T.1 d 0)), .int (nI (T.1 d 1)), .int (nI (T.1 d 5)), .int (nI (T.1 d 2) + 1), .ref (a.1 d 2)])))) : ∃ a' : um_Ad, a'.1 20 0 = a.1 20 0 ∧ (∀ p q, um_kind p = 3 → a'.2 p q = a.2 p q) ∧ um_R E a' (um_wk T d 2 m x) h2 := by
  rw [nI_clamp (by omega)] at hw
  obtain ⟨a', ha, ha2, h9⟩ := um_wrote.R hR (by omega) hw
  refine ⟨a', ha 20 0 (by decide), ha2, ?_⟩
  unfold um_wk um_wT
  rw [if_pos hk, if_neg (by decide), if_neg (by decide), e, ← ha d 0 (by decide)]
  refine h9.obj (by omega) (fun p q n => um_sA_n _ (fun z => n ⟨z.1, by omega⟩)) rfl (fun q => by omega) ?_
  rw [um_devT hk, ha d 1 (by decide), ha d 2 (by decide)]
  simp [um_sA, um_sF, nI_succ]
theorem um_R.K1 (hR : um_R E a T h) (hk : um_kind d = 1) (hm : nI m.toNatClampNeg = m) (e : h2 = va_up (va_up h (a.1 d 1) (some (.inl (E.1 0, 100, .inl (um_bring (fun b => T.2 d (3 + b)) x (T.2 d 1) 100))))) (a.1 d 0) (some (.inr (4, [.int 100, .ref (a.1 d 1), .int (nI (um_dur d)), .long (lN (T.1 d 4)), .int 1, .int (nI (T.1 d 1)), .int m, .ref (a.1 d 2)])))) : um_R E a (um_wk T d 1 m x) h2 := by
  unfold um_wk um_wK
  rw [if_neg (show ¬ um_kind d = 0 by omega), if_pos hk, if_neg (by decide), if_pos rfl, e]
  have hF := um_R.arr (f := um_bring (fun b => T.2 d (3 + b)) x (T.2 d 1) 100) hR (Or.inl (by decide)) (um_ct_br (d := d) (by omega)) (e := .inl (E.1 0, 100, .inl (um_bring (fun b => T.2 d (3 + b)) x (T.2 d 1) 100))) (by rw [um_ct_br (by omega), um_sF_1, (um_kd d (um_k20' (by omega))).2.1 hk])
  refine um_R.obj (d := d) hF (by omega) (fun p q n => ?_) ?_ (fun q => by omega) ?_
  · rw [um_sA_n _ (fun z => n ⟨z.1, by omega⟩), um_sA_n _ (fun z => n ⟨z.1, by omega⟩)]
  · rfl
  · rw [um_devK hk]
    simp [um_sA, um_sF, hm]
    rfl
theorem um_R.K2 (hR : um_R E a T h) (hk : um_kind d = 1) (hw : um_wrote E h (a.1 d 2) (um_rows a d) x.toNatClampNeg (um_cin (T.2 20 2) (T.2 d (3 + x.toNatClampNeg)) m 100) h2) : ∃ a' : um_Ad, a'.1 20 0 = a.1 20 0 ∧ (∀ p q, um_kind p = 3 → a'.2 p q = a.2 p q) ∧ um_R E a' (um_wk T d 2 m x) h2 := by
  obtain ⟨a', ha, ha2, h9⟩ := um_wrote.R hR (by omega) hw
  refine ⟨a', ha 20 0 (by decide), ha2, ?_⟩
  unfold um_wk um_wK
  rw [if_neg (show ¬ um_kind d = 0 by omega), if_pos hk, if_neg (by decide), if_neg (by decide)]
  exact h9
theorem um_R.R1 (hR : um_R E a T h) (hk : um_kind d = 2) {op : Int32} (hm : nI m.toNatClampNeg = m) (e : h2 = va_up (va_up h (a.1 d 1) (some (.inl (E.1 0, 16, .inl (um_rd (T.2 d 2) (T.2 d 1) (T.1 d 2 * 16) 16))))) (a.1 d 0) (some (.inr (5, [.int 16, .ref (a.1 d 1), .int (nI (um_dur d)), .long (lN (T.1 d 4)), .int 1, .int (nI (T.1 d 1)), .int m, .ref (a.1 d 2), .int (nI ((T.1 d 2 + 1) % 100)), .int (nI (T.1 d 3 - 1))])))) : um_R E a (um_wk T d op m x) h2 := by
  unfold um_wk um_wR
  rw [if_neg (show ¬ um_kind d = 0 by omega), if_neg (show ¬ um_kind d = 1 by omega), if_pos hk, e]
  have hF := um_R.arr (f := um_rd (T.2 d 2) (T.2 d 1) (T.1 d 2 * 16) 16) hR (Or.inl (by decide)) (um_ct_br (d := d) (by omega)) (e := .inl (E.1 0, 16, .inl (um_rd (T.2 d 2) (T.2 d 1) (T.1 d 2 * 16) 16))) (by rw [um_ct_br (by omega), um_sF_1, show um_words d = 16 by rw [(um_kd d (um_k20' (by omega))).2.2.1 hk]; rfl])
  refine um_R.obj (d := d) hF (by omega) (fun p q n => ?_) ?_ (fun q => by omega) ?_
  · rw [um_sA_n _ (fun z => n ⟨z.1, by omega⟩), um_sA_n _ (fun z => n ⟨z.1, by omega⟩), um_sA_n _ (fun z => n ⟨z.1, by omega⟩), um_sA_n _ (fun z => n ⟨z.1, by omega⟩)]
  · rfl
  · rw [um_devR hk]
    simp [um_sA, um_sF, hm]
    rfl
/-- a line more -/
theorem um_R.line (hR : um_R E a T h) (hk : um_kind d = 3) {y n : Nat} {r : Nat → Int32} (hy : h y = none) (hA : um_A a T) (hn : n ≤ 120) (e : h2 = va_up (va_up (va_up h y (some (.inl (E.1 1, n, .inl r)))) (a.1 d 2) (some (.inl (E.1 4, 300, .inr (.inr (.inr (.inr (va_up (um_rows a d) (T.1 d 2) (some y))))))))) (a.1 d 0) (some (.inr (6, [.int (nI (um_words d)), .ref (a.1 d 1), .int (nI (um_dur d)), .long (lN (T.1 d 4)), .int (nI (T.1 d 0)), .int (nI (T.1 d 1)), .int (nI (T.1 d 5)), .ref (a.1 d 2), .int (if d = 18 then 1 else 0), .int (nI (T.1 d 2 + 1))])))) : ∃ a' : um_Ad, a'.1 20 0 = a.1 20 0 ∧ um_A a' (um_sA (um_sA (um_sF T d (3 + T.1 d 2) r) d (6 + T.1 d 2) n) d 2 (T.1 d 2 + 1)) ∧ um_R E a' (um_sA (um_sA (um_sF T d (3 + T.1 d 2) r) d (6 + T.1 d 2) n) d 2 (T.1 d 2 + 1)) h2 := by
  refine ⟨um_aw a d (T.1 d 2) y, um_aw_1 (by omega), fun p b hp hb => ?_, ?_⟩
  · by_cases z : p = d
    · subst z
      rw [um_sA_1]
      by_cases zb : b = T.1 p 2
      · omega
      · rw [um_aw_2 (fun w => zb w.2)] at hb
        exact Nat.lt_succ_of_lt (hA p b hp hb)
    · rw [um_aw_2 (fun w => z w.1)] at hb
      rw [um_sA_n _ (fun w => z w.1), um_sA_n _ (fun w => z w.1)]
      exact hA p b hp hb
  have q := um_R.row (S' := um_sA (um_sF T d (3 + T.1 d 2) r) d (6 + T.1 d 2) n) hR (Or.inr (Or.inr hk)) hy (Bool.eq_false_iff.mpr (fun z => Nat.lt_irrefl _ (hA d _ hk z))) (fun p q z => um_sA_n _ z) (fun p q z => um_sF_n T z)
  have e1 : um_row E (um_sA (um_sF T d (3 + T.1 d 2) r) d (6 + T.1 d 2) n) d (T.1 d 2) = .inl (E.1 1, n, .inl r) := by
    unfold um_row
    rw [if_pos hk, um_sA_1]
    show Sum.inl (E.1 1, n, Sum.inl ((um_sF T d (3 + T.1 d 2) r).2 d (3 + T.1 d 2))) = _
    rw [um_sF_1]
  have e2 : um_two E (um_aw a d (T.1 d 2) y) (um_sA (um_sF T d (3 + T.1 d 2) r) d (6 + T.1 d 2) n) d = .inl (E.1 4, 300, .inr (.inr (.inr (.inr (va_up (um_rows a d) (T.1 d 2) (some y)))))) := by
    rw [um_twoW hk, um_aw_rows]
  rw [e1, e2] at q
  have e3 : (um_aw a d (T.1 d 2) y).1 d 0 = a.1 d 0 := um_aw_1 (by omega)
  rw [e, ← e3]
  refine q.obj (by omega) (fun p q n => um_sA_n _ (fun z => n ⟨z.1, by omega⟩)) rfl (fun _ b hb => ?_) ?_
  · rw [um_sA_1] at hb
    rw [um_sA_n _ (show ¬ (d = d ∧ 6 + b = 2) by omega)]
    by_cases z : b = T.1 d 2
    · rw [z, um_aw_t, um_sA_1]; exact ⟨rfl, hn⟩
    · obtain ⟨r1, r2⟩ := hR.2.2.2 d b hk (by omega)
      rw [um_aw_2 (fun y => z y.2), um_sA_n _ (show ¬ (d = d ∧ 6 + b = 6 + T.1 d 2) by omega)]
      exact ⟨r1, r2⟩
  · rw [um_devW hk, um_aw_1 (show ¬ (d = d ∧ 1 = 3 + T.1 d 2) by omega), um_aw_1 (show ¬ (d = d ∧ 2 = 3 + T.1 d 2) by omega)]
    simp [um_sA, um_sF]
    exact ⟨by rw [if_neg (by omega)], by rw [if_neg (by omega)], by rw [if_neg (by omega)], by rw [if_neg (by omega)]⟩
end UMK
end
section
/-! an operation without fault -/
def um_Ok (S : um_S) : Prop := (∀ d, um_kind d = 0 → S.1 d 2 ≤ 64) ∧ (∀ d, um_kind d = 3 → S.1 d 2 ≤ 300) ∧ S.1 16 2 < 100 ∧ S.1 16 3 ≤ 100 ∧ S.1 20 1 ≤ 400 ∧ ∀ d, S.1 d 0 ≤ 1
theorem um_go_A : ∀ (n : Nat) (S : um_S) (d k : Nat), k ≠ 0 → (um_go n S).1 d k = S.1 d k := by
  intro n
  induction n with
  | zero => intro S d k _; rfl
  | succ n ih =>
    intro S d k hk
    rcases h : um_nd S 20 with _ | u
    · rw [um_go_none h]
    · rw [um_go_some h, ih _ _ _ hk]
      exact um_sA_n _ (fun z => hk z.2)
theorem um_go_F : ∀ (n : Nat) (S : um_S) (d k : Nat), ¬ (d = 20 ∧ k = 2) → (um_go n S).2 d k = S.2 d k := by
  intro n
  induction n with
  | zero => intro S d k _; rfl
  | succ n ih =>
    intro S d k hk
    rcases h : um_nd S 20 with _ | u
    · rw [um_go_none h]
    · rw [um_go_some h, ih _ _ _ hk]
      exact um_sF_n S hk
theorem um_bgn_k {S : um_S} {d k : Nat} (hd : d ≠ 20) (hk : k ≠ 0 ∧ k ≠ 1 ∧ k ≠ 4) : (um_bgn S d).1 d k = S.1 d k := by
  unfold um_bgn
  rw [um_sA_n _ (fun z => hk.2.1 z.2), um_sA_n _ (fun z => hk.2.2 z.2), um_sA_n _ (fun z => hd z.1)]
  unfold um_goTo
  rw [um_go_A _ _ _ _ hk.1]
  exact um_sA_n S (fun z => hd z.1)
theorem um_bgn_2 {S : um_S} {d p : Nat} (hp : p ≠ 20) : (um_bgn S d).1 p 2 = S.1 p 2 := by
  unfold um_bgn
  rw [um_sA_n _ (by omega), um_sA_n _ (by omega), um_sA_n _ (by omega)]
  unfold um_goTo
  rw [um_go_A _ _ _ _ (by decide)]
  exact um_sA_n S (by omega)
theorem um_bgn_A {a : um_Ad} {S : um_S} {d : Nat} (hA : um_A a S) : um_A a (um_bgn S d) := um_A_same hA (fun _ _ _ => rfl) (fun p hp => um_bgn_2 (um_d20 (by omega)))
theorem um_wk_2 {T : um_S} {d : Nat} {op m x : Int32} (hd : um_kind d ≠ 3) (hd4 : um_kind d ≠ 4) (p : Nat) (hp : um_kind p = 3) : (um_wk T d op m x).1 p 2 = T.1 p 2 := by
  have n : p ≠ d := fun z => hd (by rw [← z]; exact hp)
  have e : ∀ (S : um_S) (k v : Nat), (um_sA S d k v).1 p 2 = S.1 p 2 := fun S k v => um_sA_n S (fun z => n z.1)
  unfold um_wk
  rcases um_kinds hd4 with q | q | q | q
  · rw [if_pos q]
    unfold um_wT
    by_cases h0 : op = 0
    · rw [if_pos h0, e]
    · rw [if_neg h0]
      by_cases h1 : op = 1
      · rw [if_pos h1, e, e, e]; rfl
      · rw [if_neg h1, e]; rfl
  · rw [if_neg (show ¬ um_kind d = 0 by omega), if_pos q]
    unfold um_wK
    by_cases h0 : op = 0
    · rw [if_pos h0]
    · rw [if_neg h0]
      by_cases h1 : op = 1
      · rw [if_pos h1, e, e]; rfl
      · rw [if_neg h1]; rfl
  · rw [if_neg (show ¬ um_kind d = 0 by omega), if_neg (show ¬ um_kind d = 1 by omega), if_pos q]
    unfold um_wR
    rw [e, e, e, e]
    rfl
  · exact absurd q hd
theorem um_max {x y : Nat} (hx : x < 2 ^ 31) (hy : y < 2 ^ 31) : (if lN y < lN x then lN x else lN y) = lN (max x y) := by
  by_cases h : y < x
  · rw [if_pos ((lN_lt hy hx).mpr h), Nat.max_eq_left (Nat.le_of_lt h)]
  · rw [if_neg (fun z => h ((lN_lt hy hx).mp z)), Nat.max_eq_right (Nat.not_lt.mp h)]
theorem um_op3 {op : Int32} (h0 : ¬ op < 0) (h2 : op ≤ 2) : op = 0 ∨ op = 1 ∨ op = 2 := by
  obtain ⟨j, hj, rfl⟩ := nI_of h0
  have : j ≤ 2 := (nI_leI (b := 2) hj (by decide)).mp h2
  rcases (show j = 0 ∨ j = 1 ∨ j = 2 by omega) with rfl | rfl | rfl
  · exact Or.inl rfl
  · exact Or.inr (Or.inl rfl)
  · exact Or.inr (Or.inr rfl)
theorem um_flt_0 {S : um_S} {d : Nat} {op m x : Int32} (h : um_flt S d op m x = 0) : (op = 0 ∨ op = 1 ∨ op = 2) ∧ (op ≠ 0 → um_holds m (nI (um_words d)) = true) ∧ um_df S d op m x = 0 := by
  unfold um_flt at h
  by_cases h0 : op < 0
  · rw [if_pos h0] at h; exact absurd h (by decide)
  · rw [if_neg h0] at h
    by_cases h2 : op ≤ 2
    · rw [if_pos h2] at h
      by_cases h3 : op = 0
      · rw [if_pos h3] at h; exact ⟨um_op3 h0 h2, fun z => absurd h3 z, h⟩
      · rw [if_neg h3] at h
        by_cases h4 : um_holds m (nI (um_words d)) = true
        · rw [if_pos h4] at h; exact ⟨um_op3 h0 h2, fun _ => h4, h⟩
        · rw [if_neg h4] at h; exact absurd h (by decide)
    · rw [if_neg h2] at h; exact absurd h (by decide)
theorem um_df_T {S : um_S} {d : Nat} {op m x : Int32} (hk : um_kind d = 0) (h : um_df S d op m x = 0) (ho : op ≠ 0) (hp : S.1 d 2 ≤ 64) : S.1 d 2 < 64 := by
  unfold um_df um_fT at h
  rw [if_pos hk, if_neg ho] at h
  by_cases q : nI (S.1 d 2) < 64
  · exact (nI_ltI (b := 64) (by omega) (by decide)).mp q
  · rw [if_neg q] at h; exact absurd h (by decide)
theorem um_df_K {S : um_S} {d : Nat} {op m x : Int32} (hk : um_kind d = 1) (h : um_df S d op m x = 0) : ¬ x < 0 ∧ x < 64 := by
  unfold um_df um_fK at h
  rw [if_neg (show ¬ um_kind d = 0 by omega), if_pos hk] at h
  have key : (if x < 0 then (6 : Int32) else if x < 64 then 0 else 6) = 0 → ¬ x < 0 ∧ x < 64 := by
    intro q
    by_cases h0 : x < 0
    · rw [if_pos h0] at q; exact absurd q (by decide)
    · rw [if_neg h0] at q
      by_cases h1 : x < 64
      · exact ⟨h0, h1⟩
      · rw [if_neg h1] at q; exact absurd q (by decide)
  by_cases ho : op = 0
  · rw [if_pos ho] at h
    by_cases hm : m = 0
    · rw [if_pos hm] at h; exact key h
    · rw [if_neg hm] at h; exact absurd h (by decide)
  · rw [if_neg ho] at h; exact key h
theorem um_df_R {S : um_S} {d : Nat} {op m x : Int32} (hk : um_kind d = 2) (h : um_df S d op m x = 0) : op = 1 ∧ 0 < S.1 d 3 := by
  unfold um_df um_fR at h
  rw [if_neg (show ¬ um_kind d = 0 by omega), if_neg (show ¬ um_kind d = 1 by omega), if_pos hk] at h
  by_cases ho : op = 1
  · rw [if_pos ho] at h
    by_cases h3 : nI (S.1 d 3) = 0
    · rw [if_pos h3] at h; exact absurd h (by decide)
    · exact ⟨ho, Nat.pos_of_ne_zero (fun z => h3 (by rw [z]; rfl))⟩
  · rw [if_neg ho] at h; exact absurd h (by decide)
theorem um_df_W {S : um_S} {d : Nat} {op m x : Int32} (hk : um_kind d = 3) (h : um_df S d op m x = 0) : op = 2 ∨ (op = 0 ∧ d = 18 ∧ m = 0) := by
  unfold um_df um_fW at h
  rw [if_neg (show ¬ um_kind d = 0 by omega), if_neg (show ¬ um_kind d = 1 by omega), if_neg (show ¬ um_kind d = 2 by omega)] at h
  by_cases h2 : op = 2
  · exact Or.inl h2
  · rw [if_neg h2] at h
    by_cases h0 : op = 0
    · rw [if_pos h0] at h
      by_cases h18 : d = 18
      · rw [if_pos h18, if_neg (by decide)] at h
        by_cases hm : m = 0
        · exact Or.inr ⟨h0, h18, hm⟩
        · rw [if_neg hm] at h; exact absurd h (by decide)
      · rw [if_neg h18, if_pos rfl] at h; exact absurd h (by decide)
    · rw [if_neg h0] at h; exact absurd h (by decide)
theorem um_opS_some {S : um_S} {u op m x : Int32} {d : Nat} (h : um_un u = some d) : um_opS S u op m x = if um_flt S d op m x = 0 then um_wk (um_bgn S d) d op m x else S := by
  unfold um_opS
  rw [h]
theorem um_opS_none {S : um_S} {u op m x : Int32} (h : um_un u = none) : um_opS S u op m x = S := by
  unfold um_opS
  rw [h]
theorem um_opr_some {S : um_S} {u op m x : Int32} {d : Nat} (h : um_un u = some d) : um_opr S u op m x = um_flt S d op m x := by
  unfold um_opr
  rw [h]
theorem um_opr_none {S : um_S} {u op m x : Int32} (h : um_un u = none) : um_opr S u op m x = um_fltN op m := by
  unfold um_opr
  rw [h]
section UMO
variable {E : ur_Ev} {a : um_Ad} {S T : um_S} {h h2 : ur_M} {d : Nat}
theorem um_R.begin (hR : um_R E a (um_sA T 20 0 (T.1 20 0 + 1)) h) (hk : um_kind d ≠ 4) (hT : um_goTo S (max (S.1 20 2) (S.1 d 4)) = T) (e : h2 = va_up h (a.1 d 0) (some (.inr (um_ci d, .int (nI (um_words d)) :: .ref (a.1 d 1) :: .int (nI (um_dur d)) :: .long (lN ((um_sA T 20 0 (T.1 20 0 + 1)).1 20 2) + (nI (um_dur d)).toInt64) :: .int (nI ((um_sA T 20 0 (T.1 20 0 + 1)).1 d 0)) :: .int (nI ((um_sA T 20 0 (T.1 20 0 + 1)).1 20 0)) :: .int (nI ((um_sA T 20 0 (T.1 20 0 + 1)).1 d 5)) :: um_tl a (um_sA T 20 0 (T.1 20 0 + 1)) d)))) : um_R E a (um_bgn S d) h2 := by
  have hd := um_d20 hk
  have e0 : T.1 20 0 = S.1 20 0 := by
    rw [← hT]
    unfold um_goTo
    rw [um_go_core]
    exact um_sA_n S (by decide)
  have e2 : T.1 20 2 = max (S.1 20 2) (S.1 d 4) := by rw [← hT, um_goTo_now]
  have hdur : um_dur d < 2 ^ 31 := by
    unfold um_dur
    repeat' split
    all_goals decide
  unfold um_bgn
  rw [hT, ← e0, ← e2, e]
  refine um_R.obj (d := d) hR hk (fun p q n => ?_) ?_ (fun q3 b hb => ?_) ?_
  · rw [um_sA_n _ (fun z => n ⟨z.1, by omega⟩), um_sA_n _ (fun z => n ⟨z.1, by omega⟩)]
  · rfl
  · rw [um_sA_n _ (by omega), um_sA_n _ (by omega)] at hb
    rw [um_sA_n _ (by omega), um_sA_n _ (by omega)]
    exact hR.2.2.2 d b q3 hb
  · rw [nI_l hdur, lN_add]
    unfold um_dev um_tl
    simp [um_sA]
end UMO
end
section
theorem dU_operate_0 : decode cU_operate 0 = .ok (.aload_n 0, 1) := by decide +kernel
theorem dU_operate_1 : decode cU_operate 1 = .ok (.iload_n 1, 1) := by decide +kernel
theorem dU_operate_2 : decode cU_operate 2 = .ok (.invokevirtual 83, 3) := by decide +kernel
theorem dU_operate_5 : decode cU_operate 5 = .ok (.astore 5, 2) := by decide +kernel
theorem dU_operate_7 : decode cU_operate 7 = .ok (.aload_n 0, 1) := by decide +kernel
theorem dU_operate_8 : decode cU_operate 8 = .ok (.aload 5, 2) := by decide +kernel
theorem dU_operate_10 : decode cU_operate 10 = .ok (.iload_n 2, 1) := by decide +kernel
theorem dU_operate_11 : decode cU_operate 11 = .ok (.iload_n 3, 1) := by decide +kernel
theorem dU_operate_12 : decode cU_operate 12 = .ok (.iload 4, 2) := by decide +kernel
theorem dU_operate_14 : decode cU_operate 14 = .ok (.invokevirtual 87, 3) := by decide +kernel
theorem dU_operate_17 : decode cU_operate 17 = .ok (.istore 6, 2) := by decide +kernel
theorem dU_operate_19 : decode cU_operate 19 = .ok (.iload 6, 2) := by decide +kernel
theorem dU_operate_21 : decode cU_operate 21 = .ok (.ifCond .ne 8, 3) := by decide +kernel
theorem dU_operate_24 : decode cU_operate 24 = .ok (.aload 5, 2) := by decide +kernel
theorem dU_operate_26 : decode cU_operate 26 = .ok (.ifnonnull 6, 3) := by decide +kernel
theorem dU_operate_29 : decode cU_operate 29 = .ok (.iload 6, 2) := by decide +kernel
theorem dU_operate_31 : decode cU_operate 31 = .ok (.ireturn, 1) := by decide +kernel
theorem dU_operate_32 : decode cU_operate 32 = .ok (.aload_n 0, 1) := by decide +kernel
theorem dU_operate_33 : decode cU_operate 33 = .ok (.aload_n 0, 1) := by decide +kernel
theorem dU_operate_34 : decode cU_operate 34 = .ok (.getfield 47, 3) := by decide +kernel
theorem dU_operate_37 : decode cU_operate 37 = .ok (.aload 5, 2) := by decide +kernel
theorem dU_operate_39 : decode cU_operate 39 = .ok (.getfield 91, 3) := by decide +kernel
theorem dU_operate_42 : decode cU_operate 42 = .ok (.invokestatic 94, 3) := by decide +kernel
theorem dU_operate_45 : decode cU_operate 45 = .ok (.invokevirtual 100, 3) := by decide +kernel
theorem dU_operate_48 : decode cU_operate 48 = .ok (.aload_n 0, 1) := by decide +kernel
theorem dU_operate_49 : decode cU_operate 49 = .ok (.dup, 1) := by decide +kernel
theorem dU_operate_50 : decode cU_operate 50 = .ok (.getfield 51, 3) := by decide +kernel
theorem dU_operate_53 : decode cU_operate 53 = .ok (.iconst 1, 1) := by decide +kernel
theorem dU_operate_54 : decode cU_operate 54 = .ok (.iadd, 1) := by decide +kernel
theorem dU_operate_55 : decode cU_operate 55 = .ok (.putfield 51, 3) := by decide +kernel
theorem dU_operate_58 : decode cU_operate 58 = .ok (.aload 5, 2) := by decide +kernel
theorem dU_operate_60 : decode cU_operate 60 = .ok (.aload_n 0, 1) := by decide +kernel
theorem dU_operate_61 : decode cU_operate 61 = .ok (.getfield 47, 3) := by decide +kernel
theorem dU_operate_64 : decode cU_operate 64 = .ok (.aload_n 0, 1) := by decide +kernel
theorem dU_operate_65 : decode cU_operate 65 = .ok (.getfield 51, 3) := by decide +kernel
theorem dU_operate_68 : decode cU_operate 68 = .ok (.invokevirtual 104, 3) := by decide +kernel
theorem dU_operate_71 : decode cU_operate 71 = .ok (.aload 5, 2) := by decide +kernel
theorem dU_operate_73 : decode cU_operate 73 = .ok (.iload_n 2, 1) := by decide +kernel
theorem dU_operate_74 : decode cU_operate 74 = .ok (.iload_n 3, 1) := by decide +kernel
theorem dU_operate_75 : decode cU_operate 75 = .ok (.iload 4, 2) := by decide +kernel
theorem dU_operate_77 : decode cU_operate 77 = .ok (.aload_n 0, 1) := by decide +kernel
theorem dU_operate_78 : decode cU_operate 78 = .ok (.getfield 10, 3) := by decide +kernel
theorem dU_operate_81 : decode cU_operate 81 = .ok (.invokevirtual 108, 3) := by decide +kernel
theorem dU_operate_84 : decode cU_operate 84 = .ok (.iconst 0, 1) := by decide +kernel
theorem dU_operate_85 : decode cU_operate 85 = .ok (.ireturn, 1) := by decide +kernel
abbrev rmkU_op : Room := { frames := 7, cells := 1, slots := 120, locals := 153 }
set_option maxHeartbeats 4000000 in
set_option maxRecDepth 100000 in
theorem kU_op (l : Launch) (D : va_G) (E : ur_Ev) (h : ur_M) (a : um_Ad) (S : um_S) (u : Int32) (op : Int32) (mv : Int32) (x : Int32)  (hR : um_R E a S h) (hB : um_Bd S) (hA : um_A a S) (hOk : um_Ok S) (hnow : ∀ d, S.1 d 4 < 2 ^ 30) (hnow2 : S.1 20 2 < 2 ^ 30) : ur_Mi l yU_operate wsU_operate rmkU_op D vwCl (ur_v E) [.ref (a.1 20 0), .int u, .int op, .int mv, .int x] h (fun r h2 => r = um_opr S u op mv x ∧ ∃ a' : um_Ad, a'.1 20 0 = a.1 20 0 ∧ um_A a' (um_opS S u op mv x) ∧ um_R E a' (um_opS S u op mv x) h2) 1 120 := by
  intro sz
  refine ur_of (cc := cU_operate) (maxL := 7) (ret := (some .int)) (by decide) rfl (Nat.le_of_ble_eq_true rfl) ?_
  intro p e s m args below meth c ls Q hsz hx hb hml hr hlocks hnm hown hts hO hK hI hQ hl
  subst hsz
  have hV := hK.1
  have hts : ∀ w ∈ ur_G, w.before args s = true := fun w hw => hts w (List.mem_cons_of_mem _ hw)
  have hZ : ur_Z E (ur_A h s.heap.size) s s.heap := hO.1
  have hown : s.vm.findClass "UnitRoom" = some m.cls := hown
  have hl : lv_has ls 7 [(0, .ref (a.1 20 0)), (1, .int u), (2, .int op), (3, .int mv), (4, .int x)] := hl
  have g0 : h (a.1 20 0) = some (.inr (0, [.ref (a.1 20 1), .ref (a.1 20 3), .ref (a.1 16 0), .ref (a.1 20 5), .long (lN (S.1 20 2)), .int (nI (S.1 20 0))])) := hR.core rfl
  have g5 : h (a.1 20 5) = some (.inl (E.1 2, 20, .inr (.inr (.inr (.inr (um_devs a)))))) := hR.core rfl
  refine lv_aload_n hx hb dU_operate_0 rfl (lv_at hl 0 rfl) ?_
  refine lv_iload_n hx hb dU_operate_1 rfl (lv_at hl 1 rfl) ?_
  refine ur_xq (va_runV (As := [.int u]) (rest := []) ⟨hx, hb, hml, hown, hts⟩ (kU_dev l D E h (a.1 20 0) (a.1 20 1) (a.1 20 3) (a.1 16 0) (a.1 20 5) (lN (S.1 20 2)) (nI (S.1 20 0)) (um_devs a) u g0 g5 s.heap.size) (cwV 1 hts (ur_gV mw243 mw245 ms0 mw1 mw246) rfl rfl rfl (by decide +kernel) ⟨(Nat.le_of_ble_eq_true rfl), (Nat.le_of_ble_eq_true rfl)⟩) ⟨ur_blind, va_recv hV (ur_one hI.1 g0) (ci := 0) (q0 := 0) rfl rfl, ur_pre hI hO hK (fun _ _ q => q)⟩ rfl rfl hl.1 rfl (lv_room (Nat.le_of_ble_eq_true rfl)) dU_operate_2 ⟨Nat.le_of_ble_eq_true rfl, Nat.le_of_ble_eq_true rfl⟩) hI (fun r1 h1 H locs p1 hI => ?_)
  obtain ⟨er1, eh1⟩ := p1
  replace eh1 := eh1.symm; subst eh1
  replace er1 := er1.symm; subst er1
  rw [um_dvo_un]
  rcases hun : um_un u with _ | d
  · refine lv_astoreN (lv' := [(5, .null), (0, .ref (a.1 20 0)), (1, .int u), (2, .int op), (3, .int mv), (4, .int x)]) hx hb dU_operate_5 hl (by decide) rfl (fun ls hl => ?_)
    refine lv_aload_n hx hb dU_operate_7 rfl (lv_at hl 1 rfl) ?_
    refine lv_aloadN hx hb dU_operate_8 (lv_at hl 0 rfl) ?_
    refine lv_iload_n hx hb dU_operate_10 rfl (lv_at hl 3 rfl) ?_
    refine lv_iload_n hx hb dU_operate_11 rfl (lv_at hl 4 rfl) ?_
    refine lv_iload hx hb dU_operate_12 (lv_at hl 5 rfl) ?_
    refine ur_xi (va_runV (As := [.null, .int op, .int mv, .int x]) (rest := []) ⟨hx, hb, hml, hown, hts⟩ (kU_fltN l D E h a S op mv x (by first | assumption | omega | decide) (by first | assumption | omega | decide) H.size) (cwV 4 hts (ur_gV mw247 mw249 ms1 mw1 mw250) rfl rfl rfl (by decide +kernel) ⟨(Nat.le_of_ble_eq_true rfl), (Nat.le_of_ble_eq_true rfl)⟩) ⟨ur_blind, va_recv hV (ur_one hI.1 g0) (ci := 0) (q0 := 0) rfl rfl, ur_pre hI hO hK (fun _ _ q => q)⟩ rfl rfl hl.1 rfl (lv_room (Nat.le_of_ble_eq_true rfl)) dU_operate_14 ⟨Nat.le_of_ble_eq_true rfl, Nat.le_of_ble_eq_true rfl⟩) hI (fun r2 h2 H locs p2 hI => ?_)
    obtain ⟨er2, eh2⟩ := p2
    replace eh2 := eh2.symm; subst eh2
    replace er2 := er2.symm; subst er2
    refine lv_istore (lv' := [(6, .int (um_fltN op mv)), (5, .null), (0, .ref (a.1 20 0)), (1, .int u), (2, .int op), (3, .int mv), (4, .int x)]) hx hb dU_operate_17 hl (by decide) rfl (fun ls hl => ?_)
    refine lv_iload hx hb dU_operate_19 (lv_at hl 0 rfl) ?_
    refine lv_if_ne (tgt := 29) hx hb dU_operate_21 (by decide) (fun c3 => ?_) (fun c3 => ?_)
    · refine lv_iload hx hb dU_operate_29 (lv_at hl 0 rfl) ?_
      refine W.widen (k := 1) (n := 120) (by omega) (by omega) ?_
      exact ur_ri hx hb hr hlocks hI hQ ⟨(um_opr_none hun).symm, a, rfl, (by rw [um_opS_none hun]; exact ⟨hA, hR⟩)⟩ dU_operate_31
    · refine lv_aloadN hx hb dU_operate_24 (lv_at hl 1 rfl) ?_
      refine lv_ifnonnullN hx hb dU_operate_26 ?_
      refine lv_iload hx hb dU_operate_29 (lv_at hl 0 rfl) ?_
      refine W.widen (k := 1) (n := 120) (by omega) (by omega) ?_
      exact ur_ri hx hb hr hlocks hI hQ ⟨(um_opr_none hun).symm, a, rfl, (by rw [um_opS_none hun]; exact ⟨hA, hR⟩)⟩ dU_operate_31
  · obtain ⟨hk9, hu9⟩ := um_un_k hun
    have gu : h (a.1 d 0) = some (.inr ((um_ci d), .int (nI (um_words d)) :: .ref (a.1 d 1) :: .int (nI (um_dur d)) :: .long (lN (S.1 d 4)) :: .int (nI (S.1 d 0)) :: .int (nI (S.1 d 1)) :: .int (nI (S.1 d 5)) :: um_tl a S d)) := hR.dev hk9
    refine lv_astore (lv' := [(5, .ref (a.1 d 0)), (0, .ref (a.1 20 0)), (1, .int u), (2, .int op), (3, .int mv), (4, .int x)]) hx hb dU_operate_5 hl (by decide) rfl (fun ls hl => ?_)
    refine lv_aload_n hx hb dU_operate_7 rfl (lv_at hl 1 rfl) ?_
    refine lv_aload hx hb dU_operate_8 (lv_at hl 0 rfl) ?_
    refine lv_iload_n hx hb dU_operate_10 rfl (lv_at hl 3 rfl) ?_
    refine lv_iload_n hx hb dU_operate_11 rfl (lv_at hl 4 rfl) ?_
    refine lv_iload hx hb dU_operate_12 (lv_at hl 5 rfl) ?_
    refine ur_xi (va_runV (As := [.ref (a.1 d 0), .int op, .int mv, .int x]) (rest := []) ⟨hx, hb, hml, hown, hts⟩ (kU_flt l D E h a S d op mv x (by first | assumption | omega | decide) (by first | assumption | omega | decide) hk9 H.size) (cwV 4 hts (ur_gV mw247 mw249 ms1 mw1 mw250) rfl rfl rfl (by decide +kernel) ⟨(Nat.le_of_ble_eq_true rfl), (Nat.le_of_ble_eq_true rfl)⟩) ⟨ur_blind, va_recv hV (ur_one hI.1 g0) (ci := 0) (q0 := 0) rfl rfl, ur_pre hI hO hK (fun _ _ q => q)⟩ rfl rfl hl.1 rfl (lv_room (Nat.le_of_ble_eq_true rfl)) dU_operate_14 ⟨Nat.le_of_ble_eq_true rfl, Nat.le_of_ble_eq_true rfl⟩) hI (fun r4 h4 H locs p4 hI => ?_)
    obtain ⟨er4, eh4⟩ := p4
    replace eh4 := eh4.symm; subst eh4
    replace er4 := er4.symm; subst er4
    refine lv_istore (lv' := [(6, .int (um_flt S d op mv x)), (5, .ref (a.1 d 0)), (0, .ref (a.1 20 0)), (1, .int u), (2, .int op), (3, .int mv), (4, .int x)]) hx hb dU_operate_17 hl (by decide) rfl (fun ls hl => ?_)
    refine lv_iload hx hb dU_operate_19 (lv_at hl 0 rfl) ?_
    refine lv_if_ne (tgt := 29) hx hb dU_operate_21 (by decide) (fun c5 => ?_) (fun c5 => ?_)
    · refine lv_iload hx hb dU_operate_29 (lv_at hl 0 rfl) ?_
      refine W.widen (k := 1) (n := 120) (by omega) (by omega) ?_
      exact ur_ri hx hb hr hlocks hI hQ ⟨(um_opr_some hun).symm, a, rfl, (by rw [um_opS_some hun, if_neg c5]; exact ⟨hA, hR⟩)⟩ dU_operate_31
    · refine lv_aload hx hb dU_operate_24 (lv_at hl 1 rfl) ?_
      refine lv_ifnonnull (tgt := 32) hx hb dU_operate_26 (by decide) ?_
      have hf0 := c5
      obtain ⟨hop, hho, hdf⟩ := um_flt_0 hf0
      refine lv_aload_n hx hb dU_operate_32 rfl (lv_at hl 2 rfl) ?_
      refine lv_aload_n hx hb dU_operate_33 rfl (lv_at hl 2 rfl) ?_
      refine va_get (D := D) (ci := 0) (v := .long (lN (S.1 20 2))) (C := "UnitRoom") (T := TU) (N := 6) hx hb hts inU hown hV (ur_one hI.1 g0) 0 rfl rfl 4 (by decide) (hts _ mw174) (fun _ h9 => h9) rfl dU_operate_34 ?_
      refine lv_aload hx hb dU_operate_37 (lv_at hl 1 rfl) ?_
      refine ur_gD3 hx hb hts hown hV hI (um_ci_D d) gu (hts _ mw77) (fun _ h9 => h9) dU_operate_39 ?_
      refine va_mmax_long hx hb (hml.trans hl.1.symm) hown (hts _ mw266) (hts _ mw267) (hts _ mw6) (hts _ mw268) (Nat.le_of_ble_eq_true rfl) (Nat.le_of_ble_eq_true rfl) (Nat.le_of_ble_eq_true rfl) (Nat.le_of_ble_eq_true rfl) dU_operate_42 ?_
      rw [um_max (hB 20 2) (hB d 4)]
      have hmx : max (S.1 20 2) (S.1 d 4) < 2 ^ 30 := Nat.max_lt.mpr ⟨hnow2, hnow d⟩
      refine ur_xv (va_runV (As := [.long (lN (max (S.1 20 2) (S.1 d 4)))]) (rest := []) ⟨hx, hb, hml, hown, hts⟩ (kU_go l D E h a S (max (S.1 20 2) (S.1 d 4)) (by first | assumption | omega | decide) (by first | assumption | omega | decide) (by omega) H.size) (cwV 1 hts (ur_gV mw269 mw271 ms2 mw1 mw272) rfl rfl rfl (by decide +kernel) ⟨(Nat.le_of_ble_eq_true rfl), (Nat.le_of_ble_eq_true rfl)⟩) ⟨ur_blind, va_recv hV (ur_one hI.1 g0) (ci := 0) (q0 := 0) rfl rfl, ur_pre hI hO hK (fun _ _ q => q)⟩ rfl rfl hl.1 rfl (lv_room (Nat.le_of_ble_eq_true rfl)) dU_operate_45 ⟨Nat.le_of_ble_eq_true rfl, Nat.le_of_ble_eq_true rfl⟩) hI (fun h6 H locs p6 hI => ?_)
      have hT : um_R E a (um_goTo S (max (S.1 20 2) (S.1 d 4))) h6 := p6
      generalize hTe : um_goTo S (max (S.1 20 2) (S.1 d 4)) = T at hT
      have g0 : h6 (a.1 20 0) = some (.inr (0, [.ref (a.1 20 1), .ref (a.1 20 3), .ref (a.1 16 0), .ref (a.1 20 5), .long (lN (T.1 20 2)), .int (nI (T.1 20 0))])) := hT.core rfl
      refine lv_aload_n hx hb dU_operate_48 rfl (lv_at hl 2 rfl) ?_
      refine lv_dup hx hb dU_operate_49 rfl ?_
      refine va_get (D := D) (ci := 0) (v := .int (nI (T.1 20 0))) (C := "UnitRoom") (T := TU) (N := 6) hx hb hts inU hown hV (ur_one hI.1 g0) 0 rfl rfl 5 (by decide) (hts _ mw175) (fun _ h9 => h9) rfl dU_operate_50 ?_
      refine lv_iconst (v := 1) hx hb dU_operate_53 (by decide) ?_
      refine lv_iadd hx hb dU_operate_54 ?_
      refine ur_put (D := D) (ci := 0) (v := .int ((nI (T.1 20 0)) + 1)) (ty := .int) (C := "UnitRoom") (T := TU) (N := 6) hx hb hts inU tyU tyU_ok nmU hown hV hI g0 rfl 5 (by decide) (hts _ mw175) (fun _ h9 => h9) rfl (by decide +kernel) rfl rfl (Nat.le_of_ble_eq_true rfl) dU_operate_55 (fun H locs hI => ?_)
      obtain ⟨h7, eh7⟩ : ∃ z : ur_M, z = va_up h6 (a.1 20 0) (some (.inr (0, [.ref (a.1 20 1), .ref (a.1 20 3), .ref (a.1 16 0), .ref (a.1 20 5), .long (lN (T.1 20 2)), .int ((nI (T.1 20 0)) + 1)]))) := ⟨_, rfl⟩
      replace hI : ur_I D vwCl (ur_A h s.heap.size) s.heap h7 H locs := by rw [eh7]; exact hI
      have fq8 : h7 (a.1 20 0) = some (.inr (0, [.ref (a.1 20 1), .ref (a.1 20 3), .ref (a.1 16 0), .ref (a.1 20 5), .long (lN (T.1 20 2)), .int ((nI (T.1 20 0)) + 1)])) := by rw [eh7]; exact (va_up_self _ _ _)
      have hT2 : um_R E a (um_sA T 20 0 (T.1 20 0 + 1)) h7 := by rw [eh7]; exact hT.time (by decide) (by show some _ = some _; simp [um_sA, nI_succ])
      have g0 : h7 (a.1 20 0) = some (.inr (0, [.ref (a.1 20 1), .ref (a.1 20 3), .ref (a.1 16 0), .ref (a.1 20 5), .long (lN ((um_sA T 20 0 (T.1 20 0 + 1)).1 20 2)), .int (nI ((um_sA T 20 0 (T.1 20 0 + 1)).1 20 0))])) := hT2.core rfl
      have gu : h7 (a.1 d 0) = some (.inr ((um_ci d), .int (nI (um_words d)) :: .ref (a.1 d 1) :: .int (nI (um_dur d)) :: .long (lN ((um_sA T 20 0 (T.1 20 0 + 1)).1 d 4)) :: .int (nI ((um_sA T 20 0 (T.1 20 0 + 1)).1 d 0)) :: .int (nI ((um_sA T 20 0 (T.1 20 0 + 1)).1 d 1)) :: .int (nI ((um_sA T 20 0 (T.1 20 0 + 1)).1 d 5)) :: um_tl a (um_sA T 20 0 (T.1 20 0 + 1)) d)) := hT2.dev hk9
      refine lv_aload hx hb dU_operate_58 (lv_at hl 1 rfl) ?_
      refine lv_aload_n hx hb dU_operate_60 rfl (lv_at hl 2 rfl) ?_
      refine va_get (D := D) (ci := 0) (v := .long (lN ((um_sA T 20 0 (T.1 20 0 + 1)).1 20 2))) (C := "UnitRoom") (T := TU) (N := 6) hx hb hts inU hown hV (ur_one hI.1 g0) 0 rfl rfl 4 (by decide) (hts _ mw174) (fun _ h9 => h9) rfl dU_operate_61 ?_
      refine lv_aload_n hx hb dU_operate_64 rfl (lv_at hl 2 rfl) ?_
      refine va_get (D := D) (ci := 0) (v := .int (nI ((um_sA T 20 0 (T.1 20 0 + 1)).1 20 0))) (C := "UnitRoom") (T := TU) (N := 6) hx hb hts inU hown hV (ur_one hI.1 g0) 0 rfl rfl 5 (by decide) (hts _ mw175) (fun _ h9 => h9) rfl dU_operate_65 ?_
      obtain ⟨qc9, hqc9, hcw9⟩ := cu_begin (R := rmkU_op) hts (um_ci_D d) ⟨(Nat.le_of_ble_eq_true rfl), (Nat.le_of_ble_eq_true rfl)⟩
      refine ur_xv (va_runU (As := [.long (lN ((um_sA T 20 0 (T.1 20 0 + 1)).1 20 2)), .int (nI ((um_sA T 20 0 (T.1 20 0 + 1)).1 20 0))]) (rest := []) ⟨hx, hb, hml, hown, hts⟩ (kD_begin l D E h7 (a.1 d 0) (um_ci d) (a.1 d 1) (nI (um_words d)) (nI (um_dur d)) (nI ((um_sA T 20 0 (T.1 20 0 + 1)).1 d 0)) (nI ((um_sA T 20 0 (T.1 20 0 + 1)).1 d 1)) (nI ((um_sA T 20 0 (T.1 20 0 + 1)).1 d 5)) (lN ((um_sA T 20 0 (T.1 20 0 + 1)).1 d 4)) (um_tl a (um_sA T 20 0 (T.1 20 0 + 1)) d) (lN ((um_sA T 20 0 (T.1 20 0 + 1)).1 20 2)) (nI ((um_sA T 20 0 (T.1 20 0 + 1)).1 20 0)) gu (um_ci_D d) H.size) hcw9 ⟨ur_blind, va_recv hV (ur_one hI.1 gu) (q0 := 0) hqc9 rfl, ur_pre hI hO hK (fun _ _ q => q)⟩ rfl rfl hl.1 rfl (lv_room (Nat.le_of_ble_eq_true rfl)) dU_operate_68 ⟨Nat.le_of_ble_eq_true rfl, Nat.le_of_ble_eq_true rfl⟩) hI (fun h10 H locs p10 hI => ?_)
      have hG : um_R E a (um_bgn S d) h10 := um_R.begin hT2 hk9 hTe p10
      have g0 : h10 (a.1 20 0) = some (.inr (0, [.ref (a.1 20 1), .ref (a.1 20 3), .ref (a.1 16 0), .ref (a.1 20 5), .long (lN ((um_bgn S d).1 20 2)), .int (nI ((um_bgn S d).1 20 0))])) := hG.core rfl
      have gm : h10 (a.1 20 1) = some (.inr (1, [.ref (a.1 20 2)])) := hG.core rfl
      have gc : h10 (a.1 20 2) = some (.inl (E.1 0, 4000, .inl ((um_bgn S d).2 20 2))) := hG.core rfl
      have hAG : um_A a (um_bgn S d) := um_bgn_A hA
      have hq2 : (um_bgn S d).1 d 2 = S.1 d 2 := um_bgn_k (um_d20 hk9) (by decide)
      have hq3 : (um_bgn S d).1 d 3 = S.1 d 3 := um_bgn_k (um_d20 hk9) (by decide)
      refine lv_aload hx hb dU_operate_71 (lv_at hl 1 rfl) ?_
      refine lv_iload_n hx hb dU_operate_73 rfl (lv_at hl 4 rfl) ?_
      refine lv_iload_n hx hb dU_operate_74 rfl (lv_at hl 5 rfl) ?_
      refine lv_iload hx hb dU_operate_75 (lv_at hl 6 rfl) ?_
      refine lv_aload_n hx hb dU_operate_77 rfl (lv_at hl 2 rfl) ?_
      refine va_get (D := D) (ci := 0) (v := .ref (a.1 20 1)) (C := "UnitRoom") (T := TU) (N := 6) hx hb hts inU hown hV (ur_one hI.1 g0) 0 rfl rfl 0 (by decide) (hts _ mw170) (fun _ h9 => h9) rfl dU_operate_78 ?_
      rcases um_kinds hk9 with hkk | hkk | hkk | hkk
      · have gk : h10 (a.1 d 0) = some (.inr (3, [.int 100, .ref (a.1 d 1), .int (nI (um_dur d)), .long (lN ((um_bgn S d).1 d 4)), .int (nI ((um_bgn S d).1 d 0)), .int (nI ((um_bgn S d).1 d 1)), .int (nI ((um_bgn S d).1 d 5)), .int (nI ((um_bgn S d).1 d 2)), .ref (a.1 d 2)])) := (um_R.dev hG hk9).trans (by rw [um_devT hkk])
        have gl : h10 (a.1 d 2) = some (.inl (E.1 3, 64, .inr (.inr (.inr (.inr (um_rows a d)))))) := (um_R.two hG hk9).trans (by rw [um_twoB (by omega)])
        have gb : h10 (a.1 d 1) = some (.inl (E.1 0, 100, .inl ((um_bgn S d).2 d 1))) := (um_R.br hG hk9).trans (by rw [(um_kd d (um_k20' hk9)).1 hkk])
        have hrow := um_R.rowsAt hG (show um_kind d ≤ 1 by omega)
        have hrb : ∀ j, j < 64 → um_rows a d j ≠ some (a.1 d 1) := fun j _ z9 => by obtain ⟨z1, z2⟩ := um_rows_some z9; exact hG.apart (um_ct_br hk9) (by rw [um_ct_row hk9, if_pos z1]) (by omega) z2
        have hrq : ∀ j, j < 64 → um_rows a d j ≠ some (a.1 20 2) := fun j _ z9 => by obtain ⟨z1, z2⟩ := um_rows_some z9; exact hG.apart (um_ct_core 2) (by rw [um_ct_row hk9, if_pos z1]) (fun z3 => um_d20 hk9 z3.1.symm) z2
        have hp64 := hOk.1 d hkk
        rcases hop with rfl | rfl | rfl
        · refine ur_xv (va_runU (As := [.int 0, .int mv, .int x, .ref (a.1 20 1)]) (rest := []) ⟨hx, hb, hml, hown, hts⟩ (kT_work0 l D E h10 (a.1 d 0) (a.1 d 1) (a.1 d 2) (nI (um_dur d)) (nI ((um_bgn S d).1 d 0)) (nI ((um_bgn S d).1 d 1)) (nI ((um_bgn S d).1 d 5)) (nI ((um_bgn S d).1 d 2)) (lN ((um_bgn S d).1 d 4)) (a.1 20 1) mv x gk H.size) (va_cwA (owner := "UnitRoom$Device") 4 hts (ur_gU mw308 mw310 mw350 mw351 mw8 mw352) rfl rfl rfl (hK.2.1.2.1 ⟨"UnitRoom$Device", "work", "(IIILUnitRoom$Memory;)V"⟩ (by decide +kernel)) (by decide +kernel) ⟨(Nat.le_of_ble_eq_true rfl), (Nat.le_of_ble_eq_true rfl)⟩) ⟨ur_blind, va_recv hV (ur_one hI.1 gk) (ci := 3) (q0 := 0) rfl rfl, ur_pre hI hO hK (fun _ _ q => q)⟩ rfl rfl hl.1 rfl (lv_room (Nat.le_of_ble_eq_true rfl)) dU_operate_81 ⟨Nat.le_of_ble_eq_true rfl, Nat.le_of_ble_eq_true rfl⟩) hI (fun h11 H locs p11 hI => ?_)
          refine lv_iconst (v := 0) hx hb dU_operate_84 (by decide) ?_
          refine W.widen (k := 1) (n := 120) (by omega) (by omega) ?_
          exact ur_ri hx hb hr hlocks hI hQ ⟨(by rw [um_opr_some hun, hf0]), ⟨a, rfl, (by rw [um_opS_some hun, if_pos hf0]; exact ⟨um_A_same hAG (fun _ _ _ => rfl) (um_wk_2 (by omega) hk9), um_R.T0 hG hkk (by rw [hq2]; exact hp64) p11⟩)⟩⟩ dU_operate_85
        · refine ur_xv (va_runU (As := [.int 1, .int mv, .int x, .ref (a.1 20 1)]) (rest := []) ⟨hx, hb, hml, hown, hts⟩ (kT_work1 l D E h10 (a.1 d 0) (a.1 d 1) (a.1 d 2) (nI (um_dur d)) (nI ((um_bgn S d).1 d 0)) (nI ((um_bgn S d).1 d 1)) (nI ((um_bgn S d).1 d 5)) (nI ((um_bgn S d).1 d 2)) (lN ((um_bgn S d).1 d 4)) (a.1 20 1) (a.1 20 2) (um_rows a d) (fun b => (um_bgn S d).2 d (3 + b)) ((um_bgn S d).2 20 2) ((um_bgn S d).2 d 1) mv x gk gl gb gm gc hrow hrb H.size) (va_cwA (owner := "UnitRoom$Device") 4 hts (ur_gU mw308 mw310 mw350 mw351 mw8 mw352) rfl rfl rfl (hK.2.1.2.1 ⟨"UnitRoom$Device", "work", "(IIILUnitRoom$Memory;)V"⟩ (by decide +kernel)) (by decide +kernel) ⟨(Nat.le_of_ble_eq_true rfl), (Nat.le_of_ble_eq_true rfl)⟩) ⟨ur_blind, va_recv hV (ur_one hI.1 gk) (ci := 3) (q0 := 0) rfl rfl, ur_pre hI hO hK (fun _ _ q => q)⟩ rfl rfl hl.1 rfl (lv_room (Nat.le_of_ble_eq_true rfl)) dU_operate_81 ⟨Nat.le_of_ble_eq_true rfl, Nat.le_of_ble_eq_true rfl⟩) hI (fun h12 H locs p12 hI => ?_)
          refine lv_iconst (v := 0) hx hb dU_operate_84 (by decide) ?_
          refine W.widen (k := 1) (n := 120) (by omega) (by omega) ?_
          exact ur_ri hx hb hr hlocks hI hQ ⟨(by rw [um_opr_some hun, hf0]), ⟨a, rfl, (by rw [um_opS_some hun, if_pos hf0]; exact ⟨um_A_same hAG (fun _ _ _ => rfl) (um_wk_2 (by omega) hk9), um_R.T1 hG hkk (um_nn (um_holds_of (hho (by decide))).1) p12⟩)⟩⟩ dU_operate_85
        · refine ur_xv (va_runU (As := [.int 2, .int mv, .int x, .ref (a.1 20 1)]) (rest := []) ⟨hx, hb, hml, hown, hts⟩ (kT_work2 l D E h10 (a.1 d 0) (a.1 d 1) (a.1 d 2) (nI (um_dur d)) (nI ((um_bgn S d).1 d 0)) (nI ((um_bgn S d).1 d 1)) (nI ((um_bgn S d).1 d 5)) (nI ((um_bgn S d).1 d 2)) (lN ((um_bgn S d).1 d 4)) (a.1 20 1) (a.1 20 2) (um_rows a d) (fun b => (um_bgn S d).2 d (3 + b)) ((um_bgn S d).2 20 2) ((um_bgn S d).2 d 1) mv x gk gl gb gm gc hrow hrq (nI_pos (by omega)) (nI_lt (b := 64) (by rw [hq2]; exact um_df_T hkk hdf (by decide) hp64) (by decide)) H.size) (va_cwA (owner := "UnitRoom$Device") 4 hts (ur_gU mw308 mw310 mw350 mw351 mw8 mw352) rfl rfl rfl (hK.2.1.2.1 ⟨"UnitRoom$Device", "work", "(IIILUnitRoom$Memory;)V"⟩ (by decide +kernel)) (by decide +kernel) ⟨(Nat.le_of_ble_eq_true rfl), (Nat.le_of_ble_eq_true rfl)⟩) ⟨ur_blind, va_recv hV (ur_one hI.1 gk) (ci := 3) (q0 := 0) rfl rfl, ur_pre hI hO hK (fun _ _ q => q)⟩ rfl rfl hl.1 rfl (lv_room (Nat.le_of_ble_eq_true rfl)) dU_operate_81 ⟨Nat.le_of_ble_eq_true rfl, Nat.le_of_ble_eq_true rfl⟩) hI (fun h13 H locs p13 hI => ?_)
          obtain ⟨h39, hw9, e9⟩ := p13
          refine lv_iconst (v := 0) hx hb dU_operate_84 (by decide) ?_
          refine W.widen (k := 1) (n := 120) (by omega) (by omega) ?_
          exact ur_ri hx hb hr hlocks hI hQ ⟨(by rw [um_opr_some hun, hf0]), (by rw [um_opS_some hun, if_pos hf0]; obtain ⟨a9, ha9, hb9, hc9⟩ := um_R.T2 hG hkk (by rw [hq2]; exact um_df_T hkk hdf (by decide) hp64) hw9 e9; exact ⟨a9, ha9, um_A_same hAG hb9 (um_wk_2 (by omega) hk9), hc9⟩)⟩ dU_operate_85
      · have gk : h10 (a.1 d 0) = some (.inr (4, [.int 100, .ref (a.1 d 1), .int (nI (um_dur d)), .long (lN ((um_bgn S d).1 d 4)), .int (nI ((um_bgn S d).1 d 0)), .int (nI ((um_bgn S d).1 d 1)), .int (nI ((um_bgn S d).1 d 5)), .ref (a.1 d 2)])) := (um_R.dev hG hk9).trans (by rw [um_devK hkk])
        have gl : h10 (a.1 d 2) = some (.inl (E.1 3, 64, .inr (.inr (.inr (.inr (um_rows a d)))))) := (um_R.two hG hk9).trans (by rw [um_twoB (by omega)])
        have gb : h10 (a.1 d 1) = some (.inl (E.1 0, 100, .inl ((um_bgn S d).2 d 1))) := (um_R.br hG hk9).trans (by rw [(um_kd d (um_k20' hk9)).2.1 hkk])
        have hrow := um_R.rowsAt hG (show um_kind d ≤ 1 by omega)
        have hrb : ∀ j, j < 64 → um_rows a d j ≠ some (a.1 d 1) := fun j _ z9 => by obtain ⟨z1, z2⟩ := um_rows_some z9; exact hG.apart (um_ct_br hk9) (by rw [um_ct_row hk9, if_pos z1]) (by omega) z2
        have hrq : ∀ j, j < 64 → um_rows a d j ≠ some (a.1 20 2) := fun j _ z9 => by obtain ⟨z1, z2⟩ := um_rows_some z9; exact hG.apart (um_ct_core 2) (by rw [um_ct_row hk9, if_pos z1]) (fun z3 => um_d20 hk9 z3.1.symm) z2
        obtain ⟨hx0, hx1⟩ := um_df_K hkk hdf
        rcases hop with rfl | rfl | rfl
        · refine ur_xv (va_runU (As := [.int 0, .int mv, .int x, .ref (a.1 20 1)]) (rest := []) ⟨hx, hb, hml, hown, hts⟩ (kK_work0 l D E h10 (a.1 d 0) (a.1 d 1) (a.1 d 2) (nI (um_dur d)) (nI ((um_bgn S d).1 d 0)) (nI ((um_bgn S d).1 d 1)) (nI ((um_bgn S d).1 d 5)) (lN ((um_bgn S d).1 d 4)) (a.1 20 1) mv x gk H.size) (va_cwA (owner := "UnitRoom$Device") 4 hts (ur_gU mw308 mw310 mw311 mw312 mw9 mw313) rfl rfl rfl (hK.2.1.2.1 ⟨"UnitRoom$Device", "work", "(IIILUnitRoom$Memory;)V"⟩ (by decide +kernel)) (by decide +kernel) ⟨(Nat.le_of_ble_eq_true rfl), (Nat.le_of_ble_eq_true rfl)⟩) ⟨ur_blind, va_recv hV (ur_one hI.1 gk) (ci := 4) (q0 := 0) rfl rfl, ur_pre hI hO hK (fun _ _ q => q)⟩ rfl rfl hl.1 rfl (lv_room (Nat.le_of_ble_eq_true rfl)) dU_operate_81 ⟨Nat.le_of_ble_eq_true rfl, Nat.le_of_ble_eq_true rfl⟩) hI (fun h14 H locs p14 hI => ?_)
          refine lv_iconst (v := 0) hx hb dU_operate_84 (by decide) ?_
          refine W.widen (k := 1) (n := 120) (by omega) (by omega) ?_
          exact ur_ri hx hb hr hlocks hI hQ ⟨(by rw [um_opr_some hun, hf0]), ⟨a, rfl, (by rw [um_opS_some hun, if_pos hf0]; exact ⟨um_A_same hAG (fun _ _ _ => rfl) (um_wk_2 (by omega) hk9), (by rw [p14]; unfold um_wk um_wK; rw [if_neg (show ¬ um_kind d = 0 by omega), if_pos hkk, if_pos rfl]; exact hG)⟩)⟩⟩ dU_operate_85
        · refine ur_xv (va_runU (As := [.int 1, .int mv, .int x, .ref (a.1 20 1)]) (rest := []) ⟨hx, hb, hml, hown, hts⟩ (kK_work1 l D E h10 (a.1 d 0) (a.1 d 1) (a.1 d 2) (nI (um_dur d)) (nI ((um_bgn S d).1 d 0)) (nI ((um_bgn S d).1 d 1)) (nI ((um_bgn S d).1 d 5)) (lN ((um_bgn S d).1 d 4)) (a.1 20 1) (a.1 20 2) (um_rows a d) (fun b => (um_bgn S d).2 d (3 + b)) ((um_bgn S d).2 20 2) ((um_bgn S d).2 d 1) mv x gk gl gb gm gc hrow hrb H.size) (va_cwA (owner := "UnitRoom$Device") 4 hts (ur_gU mw308 mw310 mw311 mw312 mw9 mw313) rfl rfl rfl (hK.2.1.2.1 ⟨"UnitRoom$Device", "work", "(IIILUnitRoom$Memory;)V"⟩ (by decide +kernel)) (by decide +kernel) ⟨(Nat.le_of_ble_eq_true rfl), (Nat.le_of_ble_eq_true rfl)⟩) ⟨ur_blind, va_recv hV (ur_one hI.1 gk) (ci := 4) (q0 := 0) rfl rfl, ur_pre hI hO hK (fun _ _ q => q)⟩ rfl rfl hl.1 rfl (lv_room (Nat.le_of_ble_eq_true rfl)) dU_operate_81 ⟨Nat.le_of_ble_eq_true rfl, Nat.le_of_ble_eq_true rfl⟩) hI (fun h15 H locs p15 hI => ?_)
          refine lv_iconst (v := 0) hx hb dU_operate_84 (by decide) ?_
          refine W.widen (k := 1) (n := 120) (by omega) (by omega) ?_
          exact ur_ri hx hb hr hlocks hI hQ ⟨(by rw [um_opr_some hun, hf0]), ⟨a, rfl, (by rw [um_opS_some hun, if_pos hf0]; exact ⟨um_A_same hAG (fun _ _ _ => rfl) (um_wk_2 (by omega) hk9), um_R.K1 hG hkk (um_nn (um_holds_of (hho (by decide))).1) p15⟩)⟩⟩ dU_operate_85
        · refine ur_xv (va_runU (As := [.int 2, .int mv, .int x, .ref (a.1 20 1)]) (rest := []) ⟨hx, hb, hml, hown, hts⟩ (kK_work2 l D E h10 (a.1 d 0) (a.1 d 1) (a.1 d 2) (nI (um_dur d)) (nI ((um_bgn S d).1 d 0)) (nI ((um_bgn S d).1 d 1)) (nI ((um_bgn S d).1 d 5)) (lN ((um_bgn S d).1 d 4)) (a.1 20 1) (a.1 20 2) (um_rows a d) (fun b => (um_bgn S d).2 d (3 + b)) ((um_bgn S d).2 20 2) ((um_bgn S d).2 d 1) mv x gk gl gb gm gc hrow hrq hx0 hx1 H.size) (va_cwA (owner := "UnitRoom$Device") 4 hts (ur_gU mw308 mw310 mw311 mw312 mw9 mw313) rfl rfl rfl (hK.2.1.2.1 ⟨"UnitRoom$Device", "work", "(IIILUnitRoom$Memory;)V"⟩ (by decide +kernel)) (by decide +kernel) ⟨(Nat.le_of_ble_eq_true rfl), (Nat.le_of_ble_eq_true rfl)⟩) ⟨ur_blind, va_recv hV (ur_one hI.1 gk) (ci := 4) (q0 := 0) rfl rfl, ur_pre hI hO hK (fun _ _ q => q)⟩ rfl rfl hl.1 rfl (lv_room (Nat.le_of_ble_eq_true rfl)) dU_operate_81 ⟨Nat.le_of_ble_eq_true rfl, Nat.le_of_ble_eq_true rfl⟩) hI (fun h16 H locs p16 hI => ?_)
          refine lv_iconst (v := 0) hx hb dU_operate_84 (by decide) ?_
          refine W.widen (k := 1) (n := 120) (by omega) (by omega) ?_
          exact ur_ri hx hb hr hlocks hI hQ ⟨(by rw [um_opr_some hun, hf0]), (by rw [um_opS_some hun, if_pos hf0]; obtain ⟨a9, ha9, hb9, hc9⟩ := um_R.K2 hG hkk p16; exact ⟨a9, ha9, um_A_same hAG hb9 (um_wk_2 (by omega) hk9), hc9⟩)⟩ dU_operate_85
      · have gk : h10 (a.1 d 0) = some (.inr (5, [.int 16, .ref (a.1 d 1), .int (nI (um_dur d)), .long (lN ((um_bgn S d).1 d 4)), .int (nI ((um_bgn S d).1 d 0)), .int (nI ((um_bgn S d).1 d 1)), .int (nI ((um_bgn S d).1 d 5)), .ref (a.1 d 2), .int (nI ((um_bgn S d).1 d 2)), .int (nI ((um_bgn S d).1 d 3))])) := (um_R.dev hG hk9).trans (by rw [um_devR hkk])
        obtain ⟨rfl, hlf⟩ := um_df_R hkk hdf
        have hd16 : d = 16 := (um_kd d (um_k20' hk9)).2.2.1 hkk
        have gl : h10 (a.1 d 2) = some (.inl (E.1 0, 1600, .inl ((um_bgn S d).2 d 2))) := (um_R.two hG hk9).trans (by rw [um_twoR hkk])
        have gb : h10 (a.1 d 1) = some (.inl (E.1 0, 16, .inl ((um_bgn S d).2 d 1))) := (um_R.br hG hk9).trans (by rw [show um_words d = 16 by rw [hd16]; rfl])
        refine ur_xv (va_runU (As := [.int 1, .int mv, .int x, .ref (a.1 20 1)]) (rest := []) ⟨hx, hb, hml, hown, hts⟩ (kR_work l D E h10 (a.1 d 0) (a.1 d 1) (a.1 d 2) ((um_bgn S d).1 d 2) ((um_bgn S d).1 d 3) (nI (um_dur d)) (nI ((um_bgn S d).1 d 0)) (nI ((um_bgn S d).1 d 1)) (nI ((um_bgn S d).1 d 5)) (lN ((um_bgn S d).1 d 4)) (a.1 20 1) ((um_bgn S d).2 d 2) ((um_bgn S d).2 d 1) 1 mv x gk gl gb (by rw [hq2, hd16]; exact hOk.2.2.1) (by rw [hq3]; exact hlf) H.size) (va_cwA (owner := "UnitRoom$Device") 4 hts (ur_gU mw308 mw310 mw344 mw345 mw5 mw346) rfl rfl rfl (hK.2.1.2.1 ⟨"UnitRoom$Device", "work", "(IIILUnitRoom$Memory;)V"⟩ (by decide +kernel)) (by decide +kernel) ⟨(Nat.le_of_ble_eq_true rfl), (Nat.le_of_ble_eq_true rfl)⟩) ⟨ur_blind, va_recv hV (ur_one hI.1 gk) (ci := 5) (q0 := 0) rfl rfl, ur_pre hI hO hK (fun _ _ q => q)⟩ rfl rfl hl.1 rfl (lv_room (Nat.le_of_ble_eq_true rfl)) dU_operate_81 ⟨Nat.le_of_ble_eq_true rfl, Nat.le_of_ble_eq_true rfl⟩) hI (fun h17 H locs p17 hI => ?_)
        refine lv_iconst (v := 0) hx hb dU_operate_84 (by decide) ?_
        refine W.widen (k := 1) (n := 120) (by omega) (by omega) ?_
        exact ur_ri hx hb hr hlocks hI hQ ⟨(by rw [um_opr_some hun, hf0]), ⟨a, rfl, (by rw [um_opS_some hun, if_pos hf0]; exact ⟨um_A_same hAG (fun _ _ _ => rfl) (um_wk_2 (by omega) hk9), um_R.R1 hG hkk (um_nn (um_holds_of (hho (by decide))).1) p17⟩)⟩⟩ dU_operate_85
      · have gk : h10 (a.1 d 0) = some (.inr (6, [.int (nI (um_words d)), .ref (a.1 d 1), .int (nI (um_dur d)), .long (lN ((um_bgn S d).1 d 4)), .int (nI ((um_bgn S d).1 d 0)), .int (nI ((um_bgn S d).1 d 1)), .int (nI ((um_bgn S d).1 d 5)), .ref (a.1 d 2), .int (if d = 18 then 1 else 0), .int (nI ((um_bgn S d).1 d 2))])) := (um_R.dev hG hk9).trans (by rw [um_devW hkk])
        obtain ⟨-, hw0, hw1⟩ := (um_kd d (um_k20' hk9)).2.2.2 hkk
        have hw3 := hOk.2.1 d hkk
        have gl : h10 (a.1 d 2) = some (.inl (E.1 4, 300, .inr (.inr (.inr (.inr (um_rows a d)))))) := (um_R.two hG hk9).trans (by rw [um_twoW hkk])
        by_cases hfl : (um_bgn S d).1 d 2 = 300
        · refine ur_xv (va_runU (As := [.int op, .int mv, .int x, .ref (a.1 20 1)]) (rest := []) ⟨hx, hb, hml, hown, hts⟩ (kW_full l D E h10 (a.1 d 0) (a.1 d 1) (a.1 d 2) (um_words d) ((um_bgn S d).1 d 2) (nI (um_dur d)) (nI ((um_bgn S d).1 d 0)) (nI ((um_bgn S d).1 d 1)) (nI ((um_bgn S d).1 d 5)) (if d = 18 then 1 else 0) (lN ((um_bgn S d).1 d 4)) (um_rows a d) (a.1 20 1) op mv x gk gl hfl H.size) (va_cwA (owner := "UnitRoom$Device") 4 hts (ur_gU mw308 mw310 mw368 mw369 mw10 mw370) rfl rfl rfl (hK.2.1.2.1 ⟨"UnitRoom$Device", "work", "(IIILUnitRoom$Memory;)V"⟩ (by decide +kernel)) (by decide +kernel) ⟨(Nat.le_of_ble_eq_true rfl), (Nat.le_of_ble_eq_true rfl)⟩) ⟨ur_blind, va_recv hV (ur_one hI.1 gk) (ci := 6) (q0 := 0) rfl rfl, ur_pre hI hO hK (fun _ _ q => q)⟩ rfl rfl hl.1 rfl (lv_room (Nat.le_of_ble_eq_true rfl)) dU_operate_81 ⟨Nat.le_of_ble_eq_true rfl, Nat.le_of_ble_eq_true rfl⟩) hI (fun h18 H locs p18 hI => ?_)
          refine lv_iconst (v := 0) hx hb dU_operate_84 (by decide) ?_
          refine W.widen (k := 1) (n := 120) (by omega) (by omega) ?_
          exact ur_ri hx hb hr hlocks hI hQ ⟨(by rw [um_opr_some hun, hf0]), ⟨a, rfl, (by rw [um_opS_some hun, if_pos hf0]; exact ⟨(by unfold um_wk um_wW; rw [if_neg (show ¬ um_kind d = 0 by omega), if_neg (show ¬ um_kind d = 1 by omega), if_neg (show ¬ um_kind d = 2 by omega), if_pos hfl]; exact hAG), (by rw [p18]; unfold um_wk um_wW; rw [if_neg (show ¬ um_kind d = 0 by omega), if_neg (show ¬ um_kind d = 1 by omega), if_neg (show ¬ um_kind d = 2 by omega), if_pos hfl]; exact hG)⟩)⟩⟩ dU_operate_85
        · rcases um_df_W hkk hdf with rfl | ⟨rfl, -, rfl⟩
          · refine ur_xv (va_runU (As := [.int 2, .int mv, .int x, .ref (a.1 20 1)]) (rest := []) ⟨hx, hb, hml, hown, hts⟩ (kW_work2 l D E h10 (a.1 d 0) (a.1 d 1) (a.1 d 2) (um_words d) ((um_bgn S d).1 d 2) (nI (um_dur d)) (nI ((um_bgn S d).1 d 0)) (nI ((um_bgn S d).1 d 1)) (nI ((um_bgn S d).1 d 5)) (if d = 18 then 1 else 0) (lN ((um_bgn S d).1 d 4)) (a.1 20 1) (a.1 20 2) ((um_bgn S d).2 20 2) (um_rows a d) mv x gk gl gm gc (by omega) hw0 hw1 H.size) (va_cwA (owner := "UnitRoom$Device") 4 hts (ur_gU mw308 mw310 mw368 mw369 mw10 mw370) rfl rfl rfl (hK.2.1.2.1 ⟨"UnitRoom$Device", "work", "(IIILUnitRoom$Memory;)V"⟩ (by decide +kernel)) (by decide +kernel) ⟨(Nat.le_of_ble_eq_true rfl), (Nat.le_of_ble_eq_true rfl)⟩) ⟨ur_blind, va_recv hV (ur_one hI.1 gk) (ci := 6) (q0 := 0) rfl rfl, ur_pre hI hO hK (fun _ _ q => q)⟩ rfl rfl hl.1 rfl (lv_room (Nat.le_of_ble_eq_true rfl)) dU_operate_81 ⟨Nat.le_of_ble_eq_true rfl, Nat.le_of_ble_eq_true rfl⟩) hI (fun h19 H locs p19 hI => ?_)
            obtain ⟨y9, hy9, e9⟩ := p19
            refine lv_iconst (v := 0) hx hb dU_operate_84 (by decide) ?_
            exact ur_ri hx hb hr hlocks hI hQ ⟨(by rw [um_opr_some hun, hf0]), (by rw [um_opS_some hun, if_pos hf0]; exact (by unfold um_wk um_wW; rw [if_neg (show ¬ um_kind d = 0 by omega), if_neg (show ¬ um_kind d = 1 by omega), if_neg (show ¬ um_kind d = 2 by omega), if_neg hfl, if_neg (by decide)]; exact um_R.line hG hkk hy9 hAG (Nat.le_trans (um_len_le _ _ _) (by omega)) e9))⟩ dU_operate_85
          · refine ur_xv (va_runU (As := [.int 0, .int 0, .int x, .ref (a.1 20 1)]) (rest := []) ⟨hx, hb, hml, hown, hts⟩ (kW_work0 l D E h10 (a.1 d 0) (a.1 d 1) (a.1 d 2) (um_words d) ((um_bgn S d).1 d 2) (nI (um_dur d)) (nI ((um_bgn S d).1 d 0)) (nI ((um_bgn S d).1 d 1)) (nI ((um_bgn S d).1 d 5)) (if d = 18 then 1 else 0) (lN ((um_bgn S d).1 d 4)) (a.1 20 1) (a.1 20 2) ((um_bgn S d).2 20 2) (um_rows a d) 0 x gk gl gm gc (by omega) hw0 hw1 H.size) (va_cwA (owner := "UnitRoom$Device") 4 hts (ur_gU mw308 mw310 mw368 mw369 mw10 mw370) rfl rfl rfl (hK.2.1.2.1 ⟨"UnitRoom$Device", "work", "(IIILUnitRoom$Memory;)V"⟩ (by decide +kernel)) (by decide +kernel) ⟨(Nat.le_of_ble_eq_true rfl), (Nat.le_of_ble_eq_true rfl)⟩) ⟨ur_blind, va_recv hV (ur_one hI.1 gk) (ci := 6) (q0 := 0) rfl rfl, ur_pre hI hO hK (fun _ _ q => q)⟩ rfl rfl hl.1 rfl (lv_room (Nat.le_of_ble_eq_true rfl)) dU_operate_81 ⟨Nat.le_of_ble_eq_true rfl, Nat.le_of_ble_eq_true rfl⟩) hI (fun h20 H locs p20 hI => ?_)
            obtain ⟨y9, hy9, e9⟩ := p20
            refine lv_iconst (v := 0) hx hb dU_operate_84 (by decide) ?_
            exact ur_ri hx hb hr hlocks hI hQ ⟨(by rw [um_opr_some hun, hf0]), (by rw [um_opS_some hun, if_pos hf0]; exact (by unfold um_wk um_wW; rw [if_neg (show ¬ um_kind d = 0 by omega), if_neg (show ¬ um_kind d = 1 by omega), if_neg (show ¬ um_kind d = 2 by omega), if_neg hfl, if_pos rfl]; exact um_R.line hG hkk hy9 hAG (by decide) e9))⟩ dU_operate_85
end
section
theorem ur_zup {h : ur_M} {q w : Nat} {x : va_E} (z : va_up h q (some x) w = none) : h w = none ∧ w ≠ q := by
  by_cases e : w = q
  · subst e
    rw [va_up_self] at z
    cases z
  · rw [va_up_ne _ _ e] at z
    exact ⟨z, e⟩
theorem dM_init_0 : decode cM_init 0 = .ok (.aload_n 0, 1) := by decide +kernel
theorem dM_init_1 : decode cM_init 1 = .ok (.invokespecial 3, 3) := by decide +kernel
theorem dM_init_4 : decode cM_init 4 = .ok (.aload_n 0, 1) := by decide +kernel
theorem dM_init_5 : decode cM_init 5 = .ok (.sipush 4000, 3) := by decide +kernel
theorem dM_init_8 : decode cM_init 8 = .ok (.newarray .int, 2) := by decide +kernel
theorem dM_init_10 : decode cM_init 10 = .ok (.putfield 9, 3) := by decide +kernel
theorem dM_init_13 : decode cM_init 13 = .ok (.return_, 1) := by decide +kernel
abbrev rmkM_init : Room := { frames := 1, cells := 1, slots := 4000, locals := 20 }
set_option maxHeartbeats 4000000 in
set_option maxRecDepth 100000 in
theorem kM_init (l : Launch) (D : va_G) (E : ur_Ev) (h : ur_M) (q : Nat) (f0 : h q = some (.inr (1, [.null])))  : ur_Mv l yM_init wsM_init rmkM_init D vwCl (ur_v E) [.ref q] h (fun h2 => ∃ w, h w = none ∧ h2 = va_up (va_up h w (some (.inl (E.1 0, 4000, .inl (fun _ => 0))))) q (some (.inr (1, [.ref w])))) 1 4000 := by
  intro sz
  refine ur_of (cc := cM_init) (maxL := 1) (ret := none) (by decide) rfl (Nat.le_of_ble_eq_true rfl) ?_
  intro p e s m args below meth c ls Q hsz hx hb hml hr hlocks hnm hown hts hO hK hI hQ hl
  subst hsz
  have hV := hK.1
  have hts : ∀ w ∈ ur_G, w.before args s = true := fun w hw => hts w (List.mem_cons_of_mem _ hw)
  have hZ : ur_Z E (ur_A h s.heap.size) s s.heap := hO.1
  have hown : s.vm.findClass "UnitRoom$Memory" = some m.cls := hown
  have hin : meth.name = "<init>" := hnm
  have hl : lv_has ls 1 [(0, .ref q)] := hl
  refine lv_aload_n hx hb dM_init_0 rfl (lv_at hl 0 rfl) ?_
  refine W.objInit hx hb hown (hts _ mw31) (hts _ mw24) (hts _ mw25) rfl (hl.1.trans hml.symm) rfl dM_init_1 (Nat.le_of_ble_eq_true rfl) (Nat.le_of_ble_eq_true rfl) ?_
  refine lv_aload_n hx hb dM_init_4 rfl (lv_at hl 0 rfl) ?_
  refine lv_sipush (v := 4000) hx hb dM_init_5 (by decide) ?_
  refine ur_newa (atype := .int) (a0 := (4000, (.inl (fun _ => 0)))) hx hb (hts _ mw36) rfl 0 hV rfl rfl hI (n := 4000) (N' := 4000) (fun _ => by rfl) (by decide) rfl (by decide) (Nat.le_of_ble_eq_true rfl) (Nat.le_of_ble_eq_true rfl) dM_init_8 (fun w1 H zw1 hI => ?_)
  obtain ⟨h2, eh2⟩ : ∃ z : ur_M, z = va_up h w1 (some (.inl (E.1 0, 4000, .inl (fun _ => 0)))) := ⟨_, rfl⟩
  replace hI : ur_I D vwCl (ur_A h s.heap.size) s.heap h2 H [] := by rw [eh2]; exact hI
  have n4 : q ≠ w1 := ur_fresh f0 zw1
  have fq3 : h2 q = some (.inr (1, [.null])) := by rw [eh2]; exact (va_up_ne _ _ n4).trans f0
  have fq5 : h2 w1 = some (.inl (E.1 0, 4000, .inl (fun _ => 0))) := by rw [eh2]; exact va_up_self _ _ _
  refine ur_putF (D := D) (ci := 1) (v := .ref w1) (ty := (.array .int)) (C := "UnitRoom$Memory") (T := TM) (N := 1) hx hb hts inM tyM tyM_ok nmM hown hV hI fq3 rfl 0 (by decide) (hts _ mw32) (fun _ h9 => h9) rfl hin rfl (by decide +kernel) rfl rfl (Nat.le_of_ble_eq_true rfl) dM_init_10 (fun H locs hI => ?_)
  obtain ⟨h6, eh6⟩ : ∃ z : ur_M, z = va_up h2 q (some (.inr (1, [.ref w1]))) := ⟨_, rfl⟩
  replace hI : ur_I D vwCl (ur_A h s.heap.size) s.heap h6 H locs := by rw [eh6]; exact hI
  have fq7 : h6 q = some (.inr (1, [.ref w1])) := by rw [eh6]; exact (va_up_self _ _ _)
  have fq8 : h6 w1 = some (.inl (E.1 0, 4000, .inl (fun _ => 0))) := by rw [eh6]; exact ((va_up_ne _ _ (Ne.symm n4)).trans fq5)
  exact ur_rv hx hb hr hlocks hI hQ ⟨_, zw1, (by rw [eh6, eh2])⟩ dM_init_13
theorem dN_init_0 : decode cN_init 0 = .ok (.aload_n 0, 1) := by decide +kernel
theorem dN_init_1 : decode cN_init 1 = .ok (.invokespecial 1, 3) := by decide +kernel
theorem dN_init_4 : decode cN_init 4 = .ok (.aload_n 0, 1) := by decide +kernel
theorem dN_init_5 : decode cN_init 5 = .ok (.sipush 400, 3) := by decide +kernel
theorem dN_init_8 : decode cN_init 8 = .ok (.newarray .byte, 2) := by decide +kernel
theorem dN_init_10 : decode cN_init 10 = .ok (.putfield 7, 3) := by decide +kernel
theorem dN_init_13 : decode cN_init 13 = .ok (.aload_n 0, 1) := by decide +kernel
theorem dN_init_14 : decode cN_init 14 = .ok (.iconst 0, 1) := by decide +kernel
theorem dN_init_15 : decode cN_init 15 = .ok (.putfield 13, 3) := by decide +kernel
theorem dN_init_18 : decode cN_init 18 = .ok (.return_, 1) := by decide +kernel
abbrev rmkN_init : Room := { frames := 1, cells := 1, slots := 400, locals := 20 }
set_option maxHeartbeats 4000000 in
set_option maxRecDepth 100000 in
theorem kN_init (l : Launch) (D : va_G) (E : ur_Ev) (h : ur_M) (q : Nat) (f0 : h q = some (.inr (2, [.null, .int 0])))  : ur_Mv l yN_init wsN_init rmkN_init D vwCl (ur_v E) [.ref q] h (fun h2 => ∃ w, h w = none ∧ h2 = va_up (va_up h w (some (.inl (E.1 1, 400, .inl (fun _ => 0))))) q (some (.inr (2, [.ref w, .int 0])))) 1 400 := by
  intro sz
  refine ur_of (cc := cN_init) (maxL := 1) (ret := none) (by decide) rfl (Nat.le_of_ble_eq_true rfl) ?_
  intro p e s m args below meth c ls Q hsz hx hb hml hr hlocks hnm hown hts hO hK hI hQ hl
  subst hsz
  have hV := hK.1
  have hts : ∀ w ∈ ur_G, w.before args s = true := fun w hw => hts w (List.mem_cons_of_mem _ hw)
  have hZ : ur_Z E (ur_A h s.heap.size) s s.heap := hO.1
  have hown : s.vm.findClass "UnitRoom$InputTape" = some m.cls := hown
  have hin : meth.name = "<init>" := hnm
  have hl : lv_has ls 1 [(0, .ref q)] := hl
  refine lv_aload_n hx hb dN_init_0 rfl (lv_at hl 0 rfl) ?_
  refine W.objInit hx hb hown (hts _ mw42) (hts _ mw24) (hts _ mw25) rfl (hl.1.trans hml.symm) rfl dN_init_1 (Nat.le_of_ble_eq_true rfl) (Nat.le_of_ble_eq_true rfl) ?_
  refine lv_aload_n hx hb dN_init_4 rfl (lv_at hl 0 rfl) ?_
  refine lv_sipush (v := 400) hx hb dN_init_5 (by decide) ?_
  refine ur_newa (atype := .byte) (a0 := (400, (.inl (fun _ => 0)))) hx hb (hts _ mw50) rfl 1 hV rfl rfl hI (n := 400) (N' := 400) (fun _ => by rfl) (by decide) rfl (by decide) (Nat.le_of_ble_eq_true rfl) (Nat.le_of_ble_eq_true rfl) dN_init_8 (fun w1 H zw1 hI => ?_)
  obtain ⟨h2, eh2⟩ : ∃ z : ur_M, z = va_up h w1 (some (.inl (E.1 1, 400, .inl (fun _ => 0)))) := ⟨_, rfl⟩
  replace hI : ur_I D vwCl (ur_A h s.heap.size) s.heap h2 H [] := by rw [eh2]; exact hI
  have n4 : q ≠ w1 := ur_fresh f0 zw1
  have fq3 : h2 q = some (.inr (2, [.null, .int 0])) := by rw [eh2]; exact (va_up_ne _ _ n4).trans f0
  have fq5 : h2 w1 = some (.inl (E.1 1, 400, .inl (fun _ => 0))) := by rw [eh2]; exact va_up_self _ _ _
  refine ur_putF (D := D) (ci := 2) (v := .ref w1) (ty := (.array .byte)) (C := "UnitRoom$InputTape") (T := TN) (N := 2) hx hb hts inN tyN tyN_ok nmN hown hV hI fq3 rfl 0 (by decide) (hts _ mw43) (fun _ h9 => h9) rfl hin rfl (by decide +kernel) rfl rfl (Nat.le_of_ble_eq_true rfl) dN_init_10 (fun H locs hI => ?_)
  obtain ⟨h6, eh6⟩ : ∃ z : ur_M, z = va_up h2 q (some (.inr (2, [.ref w1, .int 0]))) := ⟨_, rfl⟩
  replace hI : ur_I D vwCl (ur_A h s.heap.size) s.heap h6 H locs := by rw [eh6]; exact hI
  have fq7 : h6 q = some (.inr (2, [.ref w1, .int 0])) := by rw [eh6]; exact (va_up_self _ _ _)
  have fq8 : h6 w1 = some (.inl (E.1 1, 400, .inl (fun _ => 0))) := by rw [eh6]; exact ((va_up_ne _ _ (Ne.symm n4)).trans fq5)
  refine lv_aload_n hx hb dN_init_13 rfl (lv_at hl 0 rfl) ?_
  refine lv_iconst (v := 0) hx hb dN_init_14 (by decide) ?_
  refine ur_put (D := D) (ci := 2) (v := .int 0) (ty := .int) (C := "UnitRoom$InputTape") (T := TN) (N := 2) hx hb hts inN tyN tyN_ok nmN hown hV hI fq7 rfl 1 (by decide) (hts _ mw44) (fun _ h9 => h9) rfl (by decide +kernel) rfl rfl (Nat.le_of_ble_eq_true rfl) dN_init_15 (fun H locs hI => ?_)
  obtain ⟨h9, eh9⟩ : ∃ z : ur_M, z = va_up h6 q (some (.inr (2, [.ref w1, .int 0]))) := ⟨_, rfl⟩
  replace hI : ur_I D vwCl (ur_A h s.heap.size) s.heap h9 H locs := by rw [eh9]; exact hI
  have fq10 : h9 q = some (.inr (2, [.ref w1, .int 0])) := by rw [eh9]; exact (va_up_self _ _ _)
  have fq11 : h9 w1 = some (.inl (E.1 1, 400, .inl (fun _ => 0))) := by rw [eh9]; exact ((va_up_ne _ _ (Ne.symm n4)).trans fq8)
  exact ur_rv hx hb hr hlocks hI hQ ⟨_, zw1, (by rw [eh9, eh6, eh2, bx_uu])⟩ dN_init_18
theorem dD_init_0 : decode cD_init 0 = .ok (.aload_n 0, 1) := by decide +kernel
theorem dD_init_1 : decode cD_init 1 = .ok (.invokespecial 1, 3) := by decide +kernel
theorem dD_init_4 : decode cD_init 4 = .ok (.aload_n 0, 1) := by decide +kernel
theorem dD_init_5 : decode cD_init 5 = .ok (.lconst 0, 1) := by decide +kernel
theorem dD_init_6 : decode cD_init 6 = .ok (.putfield 7, 3) := by decide +kernel
theorem dD_init_9 : decode cD_init 9 = .ok (.aload_n 0, 1) := by decide +kernel
theorem dD_init_10 : decode cD_init 10 = .ok (.iconst 0, 1) := by decide +kernel
theorem dD_init_11 : decode cD_init 11 = .ok (.putfield 13, 3) := by decide +kernel
theorem dD_init_14 : decode cD_init 14 = .ok (.aload_n 0, 1) := by decide +kernel
theorem dD_init_15 : decode cD_init 15 = .ok (.iconst 0, 1) := by decide +kernel
theorem dD_init_16 : decode cD_init 16 = .ok (.putfield 17, 3) := by decide +kernel
theorem dD_init_19 : decode cD_init 19 = .ok (.aload_n 0, 1) := by decide +kernel
theorem dD_init_20 : decode cD_init 20 = .ok (.iconst 0, 1) := by decide +kernel
theorem dD_init_21 : decode cD_init 21 = .ok (.putfield 21, 3) := by decide +kernel
theorem dD_init_24 : decode cD_init 24 = .ok (.aload_n 0, 1) := by decide +kernel
theorem dD_init_25 : decode cD_init 25 = .ok (.iload_n 1, 1) := by decide +kernel
theorem dD_init_26 : decode cD_init 26 = .ok (.putfield 24, 3) := by decide +kernel
theorem dD_init_29 : decode cD_init 29 = .ok (.aload_n 0, 1) := by decide +kernel
theorem dD_init_30 : decode cD_init 30 = .ok (.iload_n 2, 1) := by decide +kernel
theorem dD_init_31 : decode cD_init 31 = .ok (.putfield 27, 3) := by decide +kernel
theorem dD_init_34 : decode cD_init 34 = .ok (.aload_n 0, 1) := by decide +kernel
theorem dD_init_35 : decode cD_init 35 = .ok (.iconst 0, 1) := by decide +kernel
theorem dD_init_36 : decode cD_init 36 = .ok (.iload_n 1, 1) := by decide +kernel
theorem dD_init_37 : decode cD_init 37 = .ok (.invokestatic 30, 3) := by decide +kernel
theorem dD_init_40 : decode cD_init 40 = .ok (.newarray .int, 2) := by decide +kernel
theorem dD_init_42 : decode cD_init 42 = .ok (.putfield 36, 3) := by decide +kernel
theorem dD_init_45 : decode cD_init 45 = .ok (.return_, 1) := by decide +kernel
abbrev rmkD_init_T : Room := { frames := 1, cells := 1, slots := 100, locals := 21 }
set_option maxHeartbeats 4000000 in
set_option maxRecDepth 100000 in
theorem kD_init_T (l : Launch) (D : va_G) (E : ur_Ev) (h : ur_M) (q : Nat) (nw : Nat) (du : Int32) (f0 : h q = some (.inr (3, [.int 0, .null, .int 0, .long 0, .int 0, .int 0, .int 0, .int 0, .null]))) (hw0 : 0 < nw) (hw1 : nw ≤ 100) : ur_Mv l yD_init wsD_init rmkD_init_T D vwCl (ur_v E) [.ref q, .int (nI nw), .int du] h (fun h2 => ∃ w, h w = none ∧ h2 = va_up (va_up h w (some (.inl (E.1 0, nw, .inl (fun _ => 0))))) q (some (.inr (3, [.int (nI nw), .ref w, .int du, .long 0, .int 0, .int 0, .int 0, .int 0, .null])))) 1 100 := by
  intro sz
  refine ur_of (cc := cD_init) (maxL := 3) (ret := none) (by decide) rfl (Nat.le_of_ble_eq_true rfl) ?_
  intro p e s m args below meth c ls Q hsz hx hb hml hr hlocks hnm hown hts hO hK hI hQ hl
  subst hsz
  have hV := hK.1
  have hts : ∀ w ∈ ur_G, w.before args s = true := fun w hw => hts w (List.mem_cons_of_mem _ hw)
  have hZ : ur_Z E (ur_A h s.heap.size) s s.heap := hO.1
  have hown : s.vm.findClass "UnitRoom$Device" = some m.cls := hown
  have hin : meth.name = "<init>" := hnm
  have hl : lv_has ls 3 [(0, .ref q), (1, .int (nI nw)), (2, .int du)] := hl
  refine lv_aload_n hx hb dD_init_0 rfl (lv_at hl 0 rfl) ?_
  refine W.objInit hx hb hown (hts _ mw59) (hts _ mw24) (hts _ mw25) rfl (hl.1.trans hml.symm) rfl dD_init_1 (Nat.le_of_ble_eq_true rfl) (Nat.le_of_ble_eq_true rfl) ?_
  refine lv_aload_n hx hb dD_init_4 rfl (lv_at hl 0 rfl) ?_
  refine lv_lconst (v := 0) hx hb dD_init_5 (by decide) ?_
  refine ur_put (D := D) (ci := 3) (v := .long 0) (ty := .long) (C := "UnitRoom$Tape") (T := TT) (N := 9) hx hb hts inT tyT tyT_ok nmT hown hV hI f0 rfl 3 (by decide) (hts _ mw76) (fun _ h9 => h9) rfl (by decide +kernel) rfl rfl (Nat.le_of_ble_eq_true rfl) dD_init_6 (fun H locs hI => ?_)
  obtain ⟨h1, eh1⟩ : ∃ z : ur_M, z = va_up h q (some (.inr (3, [.int 0, .null, .int 0, .long 0, .int 0, .int 0, .int 0, .int 0, .null]))) := ⟨_, rfl⟩
  replace hI : ur_I D vwCl (ur_A h s.heap.size) s.heap h1 H locs := by rw [eh1]; exact hI
  have fq2 : h1 q = some (.inr (3, [.int 0, .null, .int 0, .long 0, .int 0, .int 0, .int 0, .int 0, .null])) := by rw [eh1]; exact (va_up_self _ _ _)
  refine lv_aload_n hx hb dD_init_9 rfl (lv_at hl 0 rfl) ?_
  refine lv_iconst (v := 0) hx hb dD_init_10 (by decide) ?_
  refine ur_put (D := D) (ci := 3) (v := .int 0) (ty := .boolean) (C := "UnitRoom$Tape") (T := TT) (N := 9) hx hb hts inT tyT tyT_ok nmT hown hV hI fq2 rfl 4 (by decide) (hts _ mw78) (fun _ h9 => h9) rfl (by decide +kernel) rfl rfl (Nat.le_of_ble_eq_true rfl) dD_init_11 (fun H locs hI => ?_)
  obtain ⟨h3, eh3⟩ : ∃ z : ur_M, z = va_up h1 q (some (.inr (3, [.int 0, .null, .int 0, .long 0, .int 0, .int 0, .int 0, .int 0, .null]))) := ⟨_, rfl⟩
  replace hI : ur_I D vwCl (ur_A h s.heap.size) s.heap h3 H locs := by rw [eh3]; exact hI
  have fq4 : h3 q = some (.inr (3, [.int 0, .null, .int 0, .long 0, .int 0, .int 0, .int 0, .int 0, .null])) := by rw [eh3]; exact (va_up_self _ _ _)
  refine lv_aload_n hx hb dD_init_14 rfl (lv_at hl 0 rfl) ?_
  refine lv_iconst (v := 0) hx hb dD_init_15 (by decide) ?_
  refine ur_put (D := D) (ci := 3) (v := .int 0) (ty := .int) (C := "UnitRoom$Tape") (T := TT) (N := 9) hx hb hts inT tyT tyT_ok nmT hown hV hI fq4 rfl 5 (by decide) (hts _ mw80) (fun _ h9 => h9) rfl (by decide +kernel) rfl rfl (Nat.le_of_ble_eq_true rfl) dD_init_16 (fun H locs hI => ?_)
  obtain ⟨h5, eh5⟩ : ∃ z : ur_M, z = va_up h3 q (some (.inr (3, [.int 0, .null, .int 0, .long 0, .int 0, .int 0, .int 0, .int 0, .null]))) := ⟨_, rfl⟩
  replace hI : ur_I D vwCl (ur_A h s.heap.size) s.heap h5 H locs := by rw [eh5]; exact hI
  have fq6 : h5 q = some (.inr (3, [.int 0, .null, .int 0, .long 0, .int 0, .int 0, .int 0, .int 0, .null])) := by rw [eh5]; exact (va_up_self _ _ _)
  refine lv_aload_n hx hb dD_init_19 rfl (lv_at hl 0 rfl) ?_
  refine lv_iconst (v := 0) hx hb dD_init_20 (by decide) ?_
  refine ur_put (D := D) (ci := 3) (v := .int 0) (ty := .int) (C := "UnitRoom$Tape") (T := TT) (N := 9) hx hb hts inT tyT tyT_ok nmT hown hV hI fq6 rfl 6 (by decide) (hts _ mw81) (fun _ h9 => h9) rfl (by decide +kernel) rfl rfl (Nat.le_of_ble_eq_true rfl) dD_init_21 (fun H locs hI => ?_)
  obtain ⟨h7, eh7⟩ : ∃ z : ur_M, z = va_up h5 q (some (.inr (3, [.int 0, .null, .int 0, .long 0, .int 0, .int 0, .int 0, .int 0, .null]))) := ⟨_, rfl⟩
  replace hI : ur_I D vwCl (ur_A h s.heap.size) s.heap h7 H locs := by rw [eh7]; exact hI
  have fq8 : h7 q = some (.inr (3, [.int 0, .null, .int 0, .long 0, .int 0, .int 0, .int 0, .int 0, .null])) := by rw [eh7]; exact (va_up_self _ _ _)
  refine lv_aload_n hx hb dD_init_24 rfl (lv_at hl 0 rfl) ?_
  refine lv_iload_n hx hb dD_init_25 rfl (lv_at hl 1 rfl) ?_
  refine ur_putF (D := D) (ci := 3) (v := .int (nI nw)) (ty := .int) (C := "UnitRoom$Tape") (T := TT) (N := 9) hx hb hts inT tyT tyT_ok nmT hown hV hI fq8 rfl 0 (by decide) (hts _ mw66) (fun _ h9 => h9) rfl hin rfl (by decide +kernel) rfl rfl (Nat.le_of_ble_eq_true rfl) dD_init_26 (fun H locs hI => ?_)
  obtain ⟨h9, eh9⟩ : ∃ z : ur_M, z = va_up h7 q (some (.inr (3, [.int (nI nw), .null, .int 0, .long 0, .int 0, .int 0, .int 0, .int 0, .null]))) := ⟨_, rfl⟩
  replace hI : ur_I D vwCl (ur_A h s.heap.size) s.heap h9 H locs := by rw [eh9]; exact hI
  have fq10 : h9 q = some (.inr (3, [.int (nI nw), .null, .int 0, .long 0, .int 0, .int 0, .int 0, .int 0, .null])) := by rw [eh9]; exact (va_up_self _ _ _)
  refine lv_aload_n hx hb dD_init_29 rfl (lv_at hl 0 rfl) ?_
  refine lv_iload_n hx hb dD_init_30 rfl (lv_at hl 2 rfl) ?_
  refine ur_putF (D := D) (ci := 3) (v := .int du) (ty := .int) (C := "UnitRoom$Tape") (T := TT) (N := 9) hx hb hts inT tyT tyT_ok nmT hown hV hI fq10 rfl 2 (by decide) (hts _ mw75) (fun _ h9 => h9) rfl hin rfl (by decide +kernel) rfl rfl (Nat.le_of_ble_eq_true rfl) dD_init_31 (fun H locs hI => ?_)
  obtain ⟨h11, eh11⟩ : ∃ z : ur_M, z = va_up h9 q (some (.inr (3, [.int (nI nw), .null, .int du, .long 0, .int 0, .int 0, .int 0, .int 0, .null]))) := ⟨_, rfl⟩
  replace hI : ur_I D vwCl (ur_A h s.heap.size) s.heap h11 H locs := by rw [eh11]; exact hI
  have fq12 : h11 q = some (.inr (3, [.int (nI nw), .null, .int du, .long 0, .int 0, .int 0, .int 0, .int 0, .null])) := by rw [eh11]; exact (va_up_self _ _ _)
  refine lv_aload_n hx hb dD_init_34 rfl (lv_at hl 0 rfl) ?_
  refine lv_iconst (v := 0) hx hb dD_init_35 (by decide) ?_
  refine lv_iload_n hx hb dD_init_36 rfl (lv_at hl 1 rfl) ?_
  refine va_mmax hx hb (hml.trans hl.1.symm) hown (hts _ mw60) (hts _ mw61) (hts _ mw6) (hts _ mw62) (Nat.le_of_ble_eq_true rfl) (Nat.le_of_ble_eq_true rfl) (Nat.le_of_ble_eq_true rfl) (Nat.le_of_ble_eq_true rfl) dD_init_37 ?_
  rw [if_pos (show (0 : Int32) < nI nw from nI_lt (a := 0) hw0 (by omega))]
  refine ur_newa (atype := .int) (a0 := (nw, (.inl (fun _ => 0)))) hx hb (hts _ mw36) rfl 0 hV rfl rfl hI (n := (nI nw)) (N' := nw) (fun _ => by rfl) (nI_pos (by omega)) (nI_clamp (by omega)) (by show nw * 4 ≤ _; omega) (Nat.le_of_ble_eq_true rfl) (by show 0 + nw ≤ 100; omega) dD_init_40 (fun w13 H zw13 hI => ?_)
  obtain ⟨h14, eh14⟩ : ∃ z : ur_M, z = va_up h11 w13 (some (.inl (E.1 0, nw, .inl (fun _ => 0)))) := ⟨_, rfl⟩
  replace hI : ur_I D vwCl (ur_A h s.heap.size) s.heap h14 H locs := by rw [eh14]; exact hI
  have n16 : q ≠ w13 := ur_fresh fq12 zw13
  have fq15 : h14 q = some (.inr (3, [.int (nI nw), .null, .int du, .long 0, .int 0, .int 0, .int 0, .int 0, .null])) := by rw [eh14]; exact (va_up_ne _ _ n16).trans fq12
  have fq17 : h14 w13 = some (.inl (E.1 0, nw, .inl (fun _ => 0))) := by rw [eh14]; exact va_up_self _ _ _
  refine W.widen (k := 1) (n := 100) (by omega) (by omega) ?_
  refine ur_putF (D := D) (ci := 3) (v := .ref w13) (ty := (.array .int)) (C := "UnitRoom$Tape") (T := TT) (N := 9) hx hb hts inT tyT tyT_ok nmT hown hV hI fq15 rfl 1 (by decide) (hts _ mw70) (fun _ h9 => h9) rfl hin rfl (by decide +kernel) rfl rfl (Nat.le_of_ble_eq_true rfl) dD_init_42 (fun H locs hI => ?_)
  obtain ⟨h18, eh18⟩ : ∃ z : ur_M, z = va_up h14 q (some (.inr (3, [.int (nI nw), .ref w13, .int du, .long 0, .int 0, .int 0, .int 0, .int 0, .null]))) := ⟨_, rfl⟩
  replace hI : ur_I D vwCl (ur_A h s.heap.size) s.heap h18 H locs := by rw [eh18]; exact hI
  have fq19 : h18 q = some (.inr (3, [.int (nI nw), .ref w13, .int du, .long 0, .int 0, .int 0, .int 0, .int 0, .null])) := by rw [eh18]; exact (va_up_self _ _ _)
  have fq20 : h18 w13 = some (.inl (E.1 0, nw, .inl (fun _ => 0))) := by rw [eh18]; exact ((va_up_ne _ _ (Ne.symm n16)).trans fq17)
  have hz9 := zw13
  rw [eh11, eh9, eh7, eh5, eh3, eh1, bx_uu, bx_uu, bx_uu, bx_uu, bx_uu] at hz9
  obtain ⟨hz9, hn9⟩ := ur_zup hz9
  exact ur_rv hx hb hr hlocks hI hQ ⟨_, hz9, (by rw [eh18, eh14, eh11, eh9, eh7, eh5, eh3, eh1, bx_uu, bx_uu, bx_uu, bx_uu, bx_uu, ur_sw (Ne.symm hn9), ur_com (Ne.symm hn9)])⟩ dD_init_45
abbrev rmkD_init_K : Room := { frames := 1, cells := 1, slots := 100, locals := 21 }
set_option maxHeartbeats 4000000 in
set_option maxRecDepth 100000 in
theorem kD_init_K (l : Launch) (D : va_G) (E : ur_Ev) (h : ur_M) (q : Nat) (nw : Nat) (du : Int32) (f0 : h q = some (.inr (4, [.int 0, .null, .int 0, .long 0, .int 0, .int 0, .int 0, .null]))) (hw0 : 0 < nw) (hw1 : nw ≤ 100) : ur_Mv l yD_init wsD_init rmkD_init_K D vwCl (ur_v E) [.ref q, .int (nI nw), .int du] h (fun h2 => ∃ w, h w = none ∧ h2 = va_up (va_up h w (some (.inl (E.1 0, nw, .inl (fun _ => 0))))) q (some (.inr (4, [.int (nI nw), .ref w, .int du, .long 0, .int 0, .int 0, .int 0, .null])))) 1 100 := by
  intro sz
  refine ur_of (cc := cD_init) (maxL := 3) (ret := none) (by decide) rfl (Nat.le_of_ble_eq_true rfl) ?_
  intro p e s m args below meth c ls Q hsz hx hb hml hr hlocks hnm hown hts hO hK hI hQ hl
  subst hsz
  have hV := hK.1
  have hts : ∀ w ∈ ur_G, w.before args s = true := fun w hw => hts w (List.mem_cons_of_mem _ hw)
  have hZ : ur_Z E (ur_A h s.heap.size) s s.heap := hO.1
  have hown : s.vm.findClass "UnitRoom$Device" = some m.cls := hown
  have hin : meth.name = "<init>" := hnm
  have hl : lv_has ls 3 [(0, .ref q), (1, .int (nI nw)), (2, .int du)] := hl
  refine lv_aload_n hx hb dD_init_0 rfl (lv_at hl 0 rfl) ?_
  refine W.objInit hx hb hown (hts _ mw59) (hts _ mw24) (hts _ mw25) rfl (hl.1.trans hml.symm) rfl dD_init_1 (Nat.le_of_ble_eq_true rfl) (Nat.le_of_ble_eq_true rfl) ?_
  refine lv_aload_n hx hb dD_init_4 rfl (lv_at hl 0 rfl) ?_
  refine lv_lconst (v := 0) hx hb dD_init_5 (by decide) ?_
  refine ur_put (D := D) (ci := 4) (v := .long 0) (ty := .long) (C := "UnitRoom$Disk") (T := TK) (N := 8) hx hb hts inK tyK tyK_ok nmK hown hV hI f0 rfl 3 (by decide) (hts _ mw76) (fun _ h9 => h9) rfl (by decide +kernel) rfl rfl (Nat.le_of_ble_eq_true rfl) dD_init_6 (fun H locs hI => ?_)
  obtain ⟨h1, eh1⟩ : ∃ z : ur_M, z = va_up h q (some (.inr (4, [.int 0, .null, .int 0, .long 0, .int 0, .int 0, .int 0, .null]))) := ⟨_, rfl⟩
  replace hI : ur_I D vwCl (ur_A h s.heap.size) s.heap h1 H locs := by rw [eh1]; exact hI
  have fq2 : h1 q = some (.inr (4, [.int 0, .null, .int 0, .long 0, .int 0, .int 0, .int 0, .null])) := by rw [eh1]; exact (va_up_self _ _ _)
  refine lv_aload_n hx hb dD_init_9 rfl (lv_at hl 0 rfl) ?_
  refine lv_iconst (v := 0) hx hb dD_init_10 (by decide) ?_
  refine ur_put (D := D) (ci := 4) (v := .int 0) (ty := .boolean) (C := "UnitRoom$Disk") (T := TK) (N := 8) hx hb hts inK tyK tyK_ok nmK hown hV hI fq2 rfl 4 (by decide) (hts _ mw78) (fun _ h9 => h9) rfl (by decide +kernel) rfl rfl (Nat.le_of_ble_eq_true rfl) dD_init_11 (fun H locs hI => ?_)
  obtain ⟨h3, eh3⟩ : ∃ z : ur_M, z = va_up h1 q (some (.inr (4, [.int 0, .null, .int 0, .long 0, .int 0, .int 0, .int 0, .null]))) := ⟨_, rfl⟩
  replace hI : ur_I D vwCl (ur_A h s.heap.size) s.heap h3 H locs := by rw [eh3]; exact hI
  have fq4 : h3 q = some (.inr (4, [.int 0, .null, .int 0, .long 0, .int 0, .int 0, .int 0, .null])) := by rw [eh3]; exact (va_up_self _ _ _)
  refine lv_aload_n hx hb dD_init_14 rfl (lv_at hl 0 rfl) ?_
  refine lv_iconst (v := 0) hx hb dD_init_15 (by decide) ?_
  refine ur_put (D := D) (ci := 4) (v := .int 0) (ty := .int) (C := "UnitRoom$Disk") (T := TK) (N := 8) hx hb hts inK tyK tyK_ok nmK hown hV hI fq4 rfl 5 (by decide) (hts _ mw80) (fun _ h9 => h9) rfl (by decide +kernel) rfl rfl (Nat.le_of_ble_eq_true rfl) dD_init_16 (fun H locs hI => ?_)
  obtain ⟨h5, eh5⟩ : ∃ z : ur_M, z = va_up h3 q (some (.inr (4, [.int 0, .null, .int 0, .long 0, .int 0, .int 0, .int 0, .null]))) := ⟨_, rfl⟩
  replace hI : ur_I D vwCl (ur_A h s.heap.size) s.heap h5 H locs := by rw [eh5]; exact hI
  have fq6 : h5 q = some (.inr (4, [.int 0, .null, .int 0, .long 0, .int 0, .int 0, .int 0, .null])) := by rw [eh5]; exact (va_up_self _ _ _)
  refine lv_aload_n hx hb dD_init_19 rfl (lv_at hl 0 rfl) ?_
  refine lv_iconst (v := 0) hx hb dD_init_20 (by decide) ?_
  refine ur_put (D := D) (ci := 4) (v := .int 0) (ty := .int) (C := "UnitRoom$Disk") (T := TK) (N := 8) hx hb hts inK tyK tyK_ok nmK hown hV hI fq6 rfl 6 (by decide) (hts _ mw81) (fun _ h9 => h9) rfl (by decide +kernel) rfl rfl (Nat.le_of_ble_eq_true rfl) dD_init_21 (fun H locs hI => ?_)
  obtain ⟨h7, eh7⟩ : ∃ z : ur_M, z = va_up h5 q (some (.inr (4, [.int 0, .null, .int 0, .long 0, .int 0, .int 0, .int 0, .null]))) := ⟨_, rfl⟩
  replace hI : ur_I D vwCl (ur_A h s.heap.size) s.heap h7 H locs := by rw [eh7]; exact hI
  have fq8 : h7 q = some (.inr (4, [.int 0, .null, .int 0, .long 0, .int 0, .int 0, .int 0, .null])) := by rw [eh7]; exact (va_up_self _ _ _)
  refine lv_aload_n hx hb dD_init_24 rfl (lv_at hl 0 rfl) ?_
  refine lv_iload_n hx hb dD_init_25 rfl (lv_at hl 1 rfl) ?_
  refine ur_putF (D := D) (ci := 4) (v := .int (nI nw)) (ty := .int) (C := "UnitRoom$Disk") (T := TK) (N := 8) hx hb hts inK tyK tyK_ok nmK hown hV hI fq8 rfl 0 (by decide) (hts _ mw66) (fun _ h9 => h9) rfl hin rfl (by decide +kernel) rfl rfl (Nat.le_of_ble_eq_true rfl) dD_init_26 (fun H locs hI => ?_)
  obtain ⟨h9, eh9⟩ : ∃ z : ur_M, z = va_up h7 q (some (.inr (4, [.int (nI nw), .null, .int 0, .long 0, .int 0, .int 0, .int 0, .null]))) := ⟨_, rfl⟩
  replace hI : ur_I D vwCl (ur_A h s.heap.size) s.heap h9 H locs := by rw [eh9]; exact hI
  have fq10 : h9 q = some (.inr (4, [.int (nI nw), .null, .int 0, .long 0, .int 0, .int 0, .int 0, .null])) := by rw [eh9]; exact (va_up_self _ _ _)
  refine lv_aload_n hx hb dD_init_29 rfl (lv_at hl 0 rfl) ?_
  refine lv_iload_n hx hb dD_init_30 rfl (lv_at hl 2 rfl) ?_
  refine ur_putF (D := D) (ci := 4) (v := .int du) (ty := .int) (C := "UnitRoom$Disk") (T := TK) (N := 8) hx hb hts inK tyK tyK_ok nmK hown hV hI fq10 rfl 2 (by decide) (hts _ mw75) (fun _ h9 => h9) rfl hin rfl (by decide +kernel) rfl rfl (Nat.le_of_ble_eq_true rfl) dD_init_31 (fun H locs hI => ?_)
  obtain ⟨h11, eh11⟩ : ∃ z : ur_M, z = va_up h9 q (some (.inr (4, [.int (nI nw), .null, .int du, .long 0, .int 0, .int 0, .int 0, .null]))) := ⟨_, rfl⟩
  replace hI : ur_I D vwCl (ur_A h s.heap.size) s.heap h11 H locs := by rw [eh11]; exact hI
  have fq12 : h11 q = some (.inr (4, [.int (nI nw), .null, .int du, .long 0, .int 0, .int 0, .int 0, .null])) := by rw [eh11]; exact (va_up_self _ _ _)
  refine lv_aload_n hx hb dD_init_34 rfl (lv_at hl 0 rfl) ?_
  refine lv_iconst (v := 0) hx hb dD_init_35 (by decide) ?_
  refine lv_iload_n hx hb dD_init_36 rfl (lv_at hl 1 rfl) ?_
  refine va_mmax hx hb (hml.trans hl.1.symm) hown (hts _ mw60) (hts _ mw61) (hts _ mw6) (hts _ mw62) (Nat.le_of_ble_eq_true rfl) (Nat.le_of_ble_eq_true rfl) (Nat.le_of_ble_eq_true rfl) (Nat.le_of_ble_eq_true rfl) dD_init_37 ?_
  rw [if_pos (show (0 : Int32) < nI nw from nI_lt (a := 0) hw0 (by omega))]
  refine ur_newa (atype := .int) (a0 := (nw, (.inl (fun _ => 0)))) hx hb (hts _ mw36) rfl 0 hV rfl rfl hI (n := (nI nw)) (N' := nw) (fun _ => by rfl) (nI_pos (by omega)) (nI_clamp (by omega)) (by show nw * 4 ≤ _; omega) (Nat.le_of_ble_eq_true rfl) (by show 0 + nw ≤ 100; omega) dD_init_40 (fun w13 H zw13 hI => ?_)
  obtain ⟨h14, eh14⟩ : ∃ z : ur_M, z = va_up h11 w13 (some (.inl (E.1 0, nw, .inl (fun _ => 0)))) := ⟨_, rfl⟩
  replace hI : ur_I D vwCl (ur_A h s.heap.size) s.heap h14 H locs := by rw [eh14]; exact hI
  have n16 : q ≠ w13 := ur_fresh fq12 zw13
  have fq15 : h14 q = some (.inr (4, [.int (nI nw), .null, .int du, .long 0, .int 0, .int 0, .int 0, .null])) := by rw [eh14]; exact (va_up_ne _ _ n16).trans fq12
  have fq17 : h14 w13 = some (.inl (E.1 0, nw, .inl (fun _ => 0))) := by rw [eh14]; exact va_up_self _ _ _
  refine W.widen (k := 1) (n := 100) (by omega) (by omega) ?_
  refine ur_putF (D := D) (ci := 4) (v := .ref w13) (ty := (.array .int)) (C := "UnitRoom$Disk") (T := TK) (N := 8) hx hb hts inK tyK tyK_ok nmK hown hV hI fq15 rfl 1 (by decide) (hts _ mw70) (fun _ h9 => h9) rfl hin rfl (by decide +kernel) rfl rfl (Nat.le_of_ble_eq_true rfl) dD_init_42 (fun H locs hI => ?_)
  obtain ⟨h18, eh18⟩ : ∃ z : ur_M, z = va_up h14 q (some (.inr (4, [.int (nI nw), .ref w13, .int du, .long 0, .int 0, .int 0, .int 0, .null]))) := ⟨_, rfl⟩
  replace hI : ur_I D vwCl (ur_A h s.heap.size) s.heap h18 H locs := by rw [eh18]; exact hI
  have fq19 : h18 q = some (.inr (4, [.int (nI nw), .ref w13, .int du, .long 0, .int 0, .int 0, .int 0, .null])) := by rw [eh18]; exact (va_up_self _ _ _)
  have fq20 : h18 w13 = some (.inl (E.1 0, nw, .inl (fun _ => 0))) := by rw [eh18]; exact ((va_up_ne _ _ (Ne.symm n16)).trans fq17)
  have hz9 := zw13
  rw [eh11, eh9, eh7, eh5, eh3, eh1, bx_uu, bx_uu, bx_uu, bx_uu, bx_uu] at hz9
  obtain ⟨hz9, hn9⟩ := ur_zup hz9
  exact ur_rv hx hb hr hlocks hI hQ ⟨_, hz9, (by rw [eh18, eh14, eh11, eh9, eh7, eh5, eh3, eh1, bx_uu, bx_uu, bx_uu, bx_uu, bx_uu, ur_sw (Ne.symm hn9), ur_com (Ne.symm hn9)])⟩ dD_init_45
abbrev rmkD_init_R : Room := { frames := 1, cells := 1, slots := 100, locals := 21 }
set_option maxHeartbeats 4000000 in
set_option maxRecDepth 100000 in
theorem kD_init_R (l : Launch) (D : va_G) (E : ur_Ev) (h : ur_M) (q : Nat) (nw : Nat) (du : Int32) (f0 : h q = some (.inr (5, [.int 0, .null, .int 0, .long 0, .int 0, .int 0, .int 0, .null, .int 0, .int 0]))) (hw0 : 0 < nw) (hw1 : nw ≤ 100) : ur_Mv l yD_init wsD_init rmkD_init_R D vwCl (ur_v E) [.ref q, .int (nI nw), .int du] h (fun h2 => ∃ w, h w = none ∧ h2 = va_up (va_up h w (some (.inl (E.1 0, nw, .inl (fun _ => 0))))) q (some (.inr (5, [.int (nI nw), .ref w, .int du, .long 0, .int 0, .int 0, .int 0, .null, .int 0, .int 0])))) 1 100 := by
  intro sz
  refine ur_of (cc := cD_init) (maxL := 3) (ret := none) (by decide) rfl (Nat.le_of_ble_eq_true rfl) ?_
  intro p e s m args below meth c ls Q hsz hx hb hml hr hlocks hnm hown hts hO hK hI hQ hl
  subst hsz
  have hV := hK.1
  have hts : ∀ w ∈ ur_G, w.before args s = true := fun w hw => hts w (List.mem_cons_of_mem _ hw)
  have hZ : ur_Z E (ur_A h s.heap.size) s s.heap := hO.1
  have hown : s.vm.findClass "UnitRoom$Device" = some m.cls := hown
  have hin : meth.name = "<init>" := hnm
  have hl : lv_has ls 3 [(0, .ref q), (1, .int (nI nw)), (2, .int du)] := hl
  refine lv_aload_n hx hb dD_init_0 rfl (lv_at hl 0 rfl) ?_
  refine W.objInit hx hb hown (hts _ mw59) (hts _ mw24) (hts _ mw25) rfl (hl.1.trans hml.symm) rfl dD_init_1 (Nat.le_of_ble_eq_true rfl) (Nat.le_of_ble_eq_true rfl) ?_
  refine lv_aload_n hx hb dD_init_4 rfl (lv_at hl 0 rfl) ?_
  refine lv_lconst (v := 0) hx hb dD_init_5 (by decide) ?_
  refine ur_put (D := D) (ci := 5) (v := .long 0) (ty := .long) (C := "UnitRoom$Reader") (T := TR) (N := 10) hx hb hts inR tyR tyR_ok nmR hown hV hI f0 rfl 3 (by decide) (hts _ mw76) (fun _ h9 => h9) rfl (by decide +kernel) rfl rfl (Nat.le_of_ble_eq_true rfl) dD_init_6 (fun H locs hI => ?_)
  obtain ⟨h1, eh1⟩ : ∃ z : ur_M, z = va_up h q (some (.inr (5, [.int 0, .null, .int 0, .long 0, .int 0, .int 0, .int 0, .null, .int 0, .int 0]))) := ⟨_, rfl⟩
  replace hI : ur_I D vwCl (ur_A h s.heap.size) s.heap h1 H locs := by rw [eh1]; exact hI
  have fq2 : h1 q = some (.inr (5, [.int 0, .null, .int 0, .long 0, .int 0, .int 0, .int 0, .null, .int 0, .int 0])) := by rw [eh1]; exact (va_up_self _ _ _)
  refine lv_aload_n hx hb dD_init_9 rfl (lv_at hl 0 rfl) ?_
  refine lv_iconst (v := 0) hx hb dD_init_10 (by decide) ?_
  refine ur_put (D := D) (ci := 5) (v := .int 0) (ty := .boolean) (C := "UnitRoom$Reader") (T := TR) (N := 10) hx hb hts inR tyR tyR_ok nmR hown hV hI fq2 rfl 4 (by decide) (hts _ mw78) (fun _ h9 => h9) rfl (by decide +kernel) rfl rfl (Nat.le_of_ble_eq_true rfl) dD_init_11 (fun H locs hI => ?_)
  obtain ⟨h3, eh3⟩ : ∃ z : ur_M, z = va_up h1 q (some (.inr (5, [.int 0, .null, .int 0, .long 0, .int 0, .int 0, .int 0, .null, .int 0, .int 0]))) := ⟨_, rfl⟩
  replace hI : ur_I D vwCl (ur_A h s.heap.size) s.heap h3 H locs := by rw [eh3]; exact hI
  have fq4 : h3 q = some (.inr (5, [.int 0, .null, .int 0, .long 0, .int 0, .int 0, .int 0, .null, .int 0, .int 0])) := by rw [eh3]; exact (va_up_self _ _ _)
  refine lv_aload_n hx hb dD_init_14 rfl (lv_at hl 0 rfl) ?_
  refine lv_iconst (v := 0) hx hb dD_init_15 (by decide) ?_
  refine ur_put (D := D) (ci := 5) (v := .int 0) (ty := .int) (C := "UnitRoom$Reader") (T := TR) (N := 10) hx hb hts inR tyR tyR_ok nmR hown hV hI fq4 rfl 5 (by decide) (hts _ mw80) (fun _ h9 => h9) rfl (by decide +kernel) rfl rfl (Nat.le_of_ble_eq_true rfl) dD_init_16 (fun H locs hI => ?_)
  obtain ⟨h5, eh5⟩ : ∃ z : ur_M, z = va_up h3 q (some (.inr (5, [.int 0, .null, .int 0, .long 0, .int 0, .int 0, .int 0, .null, .int 0, .int 0]))) := ⟨_, rfl⟩
  replace hI : ur_I D vwCl (ur_A h s.heap.size) s.heap h5 H locs := by rw [eh5]; exact hI
  have fq6 : h5 q = some (.inr (5, [.int 0, .null, .int 0, .long 0, .int 0, .int 0, .int 0, .null, .int 0, .int 0])) := by rw [eh5]; exact (va_up_self _ _ _)
  refine lv_aload_n hx hb dD_init_19 rfl (lv_at hl 0 rfl) ?_
  refine lv_iconst (v := 0) hx hb dD_init_20 (by decide) ?_
  refine ur_put (D := D) (ci := 5) (v := .int 0) (ty := .int) (C := "UnitRoom$Reader") (T := TR) (N := 10) hx hb hts inR tyR tyR_ok nmR hown hV hI fq6 rfl 6 (by decide) (hts _ mw81) (fun _ h9 => h9) rfl (by decide +kernel) rfl rfl (Nat.le_of_ble_eq_true rfl) dD_init_21 (fun H locs hI => ?_)
  obtain ⟨h7, eh7⟩ : ∃ z : ur_M, z = va_up h5 q (some (.inr (5, [.int 0, .null, .int 0, .long 0, .int 0, .int 0, .int 0, .null, .int 0, .int 0]))) := ⟨_, rfl⟩
  replace hI : ur_I D vwCl (ur_A h s.heap.size) s.heap h7 H locs := by rw [eh7]; exact hI
  have fq8 : h7 q = some (.inr (5, [.int 0, .null, .int 0, .long 0, .int 0, .int 0, .int 0, .null, .int 0, .int 0])) := by rw [eh7]; exact (va_up_self _ _ _)
  refine lv_aload_n hx hb dD_init_24 rfl (lv_at hl 0 rfl) ?_
  refine lv_iload_n hx hb dD_init_25 rfl (lv_at hl 1 rfl) ?_
  refine ur_putF (D := D) (ci := 5) (v := .int (nI nw)) (ty := .int) (C := "UnitRoom$Reader") (T := TR) (N := 10) hx hb hts inR tyR tyR_ok nmR hown hV hI fq8 rfl 0 (by decide) (hts _ mw66) (fun _ h9 => h9) rfl hin rfl (by decide +kernel) rfl rfl (Nat.le_of_ble_eq_true rfl) dD_init_26 (fun H locs hI => ?_)
  obtain ⟨h9, eh9⟩ : ∃ z : ur_M, z = va_up h7 q (some (.inr (5, [.int (nI nw), .null, .int 0, .long 0, .int 0, .int 0, .int 0, .null, .int 0, .int 0]))) := ⟨_, rfl⟩
  replace hI : ur_I D vwCl (ur_A h s.heap.size) s.heap h9 H locs := by rw [eh9]; exact hI
  have fq10 : h9 q = some (.inr (5, [.int (nI nw), .null, .int 0, .long 0, .int 0, .int 0, .int 0, .null, .int 0, .int 0])) := by rw [eh9]; exact (va_up_self _ _ _)
  refine lv_aload_n hx hb dD_init_29 rfl (lv_at hl 0 rfl) ?_
  refine lv_iload_n hx hb dD_init_30 rfl (lv_at hl 2 rfl) ?_
  refine ur_putF (D := D) (ci := 5) (v := .int du) (ty := .int) (C := "UnitRoom$Reader") (T := TR) (N := 10) hx hb hts inR tyR tyR_ok nmR hown hV hI fq10 rfl 2 (by decide) (hts _ mw75) (fun _ h9 => h9) rfl hin rfl (by decide +kernel) rfl rfl (Nat.le_of_ble_eq_true rfl) dD_init_31 (fun H locs hI => ?_)
  obtain ⟨h11, eh11⟩ : ∃ z : ur_M, z = va_up h9 q (some (.inr (5, [.int (nI nw), .null, .int du, .long 0, .int 0, .int 0, .int 0, .null, .int 0, .int 0]))) := ⟨_, rfl⟩
  replace hI : ur_I D vwCl (ur_A h s.heap.size) s.heap h11 H locs := by rw [eh11]; exact hI
  have fq12 : h11 q = some (.inr (5, [.int (nI nw), .null, .int du, .long 0, .int 0, .int 0, .int 0, .null, .int 0, .int 0])) := by rw [eh11]; exact (va_up_self _ _ _)
  refine lv_aload_n hx hb dD_init_34 rfl (lv_at hl 0 rfl) ?_
  refine lv_iconst (v := 0) hx hb dD_init_35 (by decide) ?_
  refine lv_iload_n hx hb dD_init_36 rfl (lv_at hl 1 rfl) ?_
  refine va_mmax hx hb (hml.trans hl.1.symm) hown (hts _ mw60) (hts _ mw61) (hts _ mw6) (hts _ mw62) (Nat.le_of_ble_eq_true rfl) (Nat.le_of_ble_eq_true rfl) (Nat.le_of_ble_eq_true rfl) (Nat.le_of_ble_eq_true rfl) dD_init_37 ?_
  rw [if_pos (show (0 : Int32) < nI nw from nI_lt (a := 0) hw0 (by omega))]
  refine ur_newa (atype := .int) (a0 := (nw, (.inl (fun _ => 0)))) hx hb (hts _ mw36) rfl 0 hV rfl rfl hI (n := (nI nw)) (N' := nw) (fun _ => by rfl) (nI_pos (by omega)) (nI_clamp (by omega)) (by show nw * 4 ≤ _; omega) (Nat.le_of_ble_eq_true rfl) (by show 0 + nw ≤ 100; omega) dD_init_40 (fun w13 H zw13 hI => ?_)
  obtain ⟨h14, eh14⟩ : ∃ z : ur_M, z = va_up h11 w13 (some (.inl (E.1 0, nw, .inl (fun _ => 0)))) := ⟨_, rfl⟩
  replace hI : ur_I D vwCl (ur_A h s.heap.size) s.heap h14 H locs := by rw [eh14]; exact hI
  have n16 : q ≠ w13 := ur_fresh fq12 zw13
  have fq15 : h14 q = some (.inr (5, [.int (nI nw), .null, .int du, .long 0, .int 0, .int 0, .int 0, .null, .int 0, .int 0])) := by rw [eh14]; exact (va_up_ne _ _ n16).trans fq12
  have fq17 : h14 w13 = some (.inl (E.1 0, nw, .inl (fun _ => 0))) := by rw [eh14]; exact va_up_self _ _ _
  refine W.widen (k := 1) (n := 100) (by omega) (by omega) ?_
  refine ur_putF (D := D) (ci := 5) (v := .ref w13) (ty := (.array .int)) (C := "UnitRoom$Reader") (T := TR) (N := 10) hx hb hts inR tyR tyR_ok nmR hown hV hI fq15 rfl 1 (by decide) (hts _ mw70) (fun _ h9 => h9) rfl hin rfl (by decide +kernel) rfl rfl (Nat.le_of_ble_eq_true rfl) dD_init_42 (fun H locs hI => ?_)
  obtain ⟨h18, eh18⟩ : ∃ z : ur_M, z = va_up h14 q (some (.inr (5, [.int (nI nw), .ref w13, .int du, .long 0, .int 0, .int 0, .int 0, .null, .int 0, .int 0]))) := ⟨_, rfl⟩
  replace hI : ur_I D vwCl (ur_A h s.heap.size) s.heap h18 H locs := by rw [eh18]; exact hI
  have fq19 : h18 q = some (.inr (5, [.int (nI nw), .ref w13, .int du, .long 0, .int 0, .int 0, .int 0, .null, .int 0, .int 0])) := by rw [eh18]; exact (va_up_self _ _ _)
  have fq20 : h18 w13 = some (.inl (E.1 0, nw, .inl (fun _ => 0))) := by rw [eh18]; exact ((va_up_ne _ _ (Ne.symm n16)).trans fq17)
  have hz9 := zw13
  rw [eh11, eh9, eh7, eh5, eh3, eh1, bx_uu, bx_uu, bx_uu, bx_uu, bx_uu] at hz9
  obtain ⟨hz9, hn9⟩ := ur_zup hz9
  exact ur_rv hx hb hr hlocks hI hQ ⟨_, hz9, (by rw [eh18, eh14, eh11, eh9, eh7, eh5, eh3, eh1, bx_uu, bx_uu, bx_uu, bx_uu, bx_uu, ur_sw (Ne.symm hn9), ur_com (Ne.symm hn9)])⟩ dD_init_45
abbrev rmkD_init_W : Room := { frames := 1, cells := 1, slots := 100, locals := 21 }
set_option maxHeartbeats 4000000 in
set_option maxRecDepth 100000 in
theorem kD_init_W (l : Launch) (D : va_G) (E : ur_Ev) (h : ur_M) (q : Nat) (nw : Nat) (du : Int32) (f0 : h q = some (.inr (6, [.int 0, .null, .int 0, .long 0, .int 0, .int 0, .int 0, .null, .int 0, .int 0]))) (hw0 : 0 < nw) (hw1 : nw ≤ 100) : ur_Mv l yD_init wsD_init rmkD_init_W D vwCl (ur_v E) [.ref q, .int (nI nw), .int du] h (fun h2 => ∃ w, h w = none ∧ h2 = va_up (va_up h w (some (.inl (E.1 0, nw, .inl (fun _ => 0))))) q (some (.inr (6, [.int (nI nw), .ref w, .int du, .long 0, .int 0, .int 0, .int 0, .null, .int 0, .int 0])))) 1 100 := by
  intro sz
  refine ur_of (cc := cD_init) (maxL := 3) (ret := none) (by decide) rfl (Nat.le_of_ble_eq_true rfl) ?_
  intro p e s m args below meth c ls Q hsz hx hb hml hr hlocks hnm hown hts hO hK hI hQ hl
  subst hsz
  have hV := hK.1
  have hts : ∀ w ∈ ur_G, w.before args s = true := fun w hw => hts w (List.mem_cons_of_mem _ hw)
  have hZ : ur_Z E (ur_A h s.heap.size) s s.heap := hO.1
  have hown : s.vm.findClass "UnitRoom$Device" = some m.cls := hown
  have hin : meth.name = "<init>" := hnm
  have hl : lv_has ls 3 [(0, .ref q), (1, .int (nI nw)), (2, .int du)] := hl
  refine lv_aload_n hx hb dD_init_0 rfl (lv_at hl 0 rfl) ?_
  refine W.objInit hx hb hown (hts _ mw59) (hts _ mw24) (hts _ mw25) rfl (hl.1.trans hml.symm) rfl dD_init_1 (Nat.le_of_ble_eq_true rfl) (Nat.le_of_ble_eq_true rfl) ?_
  refine lv_aload_n hx hb dD_init_4 rfl (lv_at hl 0 rfl) ?_
  refine lv_lconst (v := 0) hx hb dD_init_5 (by decide) ?_
  refine ur_put (D := D) (ci := 6) (v := .long 0) (ty := .long) (C := "UnitRoom$Writer") (T := TW) (N := 10) hx hb hts inW tyW tyW_ok nmW hown hV hI f0 rfl 3 (by decide) (hts _ mw76) (fun _ h9 => h9) rfl (by decide +kernel) rfl rfl (Nat.le_of_ble_eq_true rfl) dD_init_6 (fun H locs hI => ?_)
  obtain ⟨h1, eh1⟩ : ∃ z : ur_M, z = va_up h q (some (.inr (6, [.int 0, .null, .int 0, .long 0, .int 0, .int 0, .int 0, .null, .int 0, .int 0]))) := ⟨_, rfl⟩
  replace hI : ur_I D vwCl (ur_A h s.heap.size) s.heap h1 H locs := by rw [eh1]; exact hI
  have fq2 : h1 q = some (.inr (6, [.int 0, .null, .int 0, .long 0, .int 0, .int 0, .int 0, .null, .int 0, .int 0])) := by rw [eh1]; exact (va_up_self _ _ _)
  refine lv_aload_n hx hb dD_init_9 rfl (lv_at hl 0 rfl) ?_
  refine lv_iconst (v := 0) hx hb dD_init_10 (by decide) ?_
  refine ur_put (D := D) (ci := 6) (v := .int 0) (ty := .boolean) (C := "UnitRoom$Writer") (T := TW) (N := 10) hx hb hts inW tyW tyW_ok nmW hown hV hI fq2 rfl 4 (by decide) (hts _ mw78) (fun _ h9 => h9) rfl (by decide +kernel) rfl rfl (Nat.le_of_ble_eq_true rfl) dD_init_11 (fun H locs hI => ?_)
  obtain ⟨h3, eh3⟩ : ∃ z : ur_M, z = va_up h1 q (some (.inr (6, [.int 0, .null, .int 0, .long 0, .int 0, .int 0, .int 0, .null, .int 0, .int 0]))) := ⟨_, rfl⟩
  replace hI : ur_I D vwCl (ur_A h s.heap.size) s.heap h3 H locs := by rw [eh3]; exact hI
  have fq4 : h3 q = some (.inr (6, [.int 0, .null, .int 0, .long 0, .int 0, .int 0, .int 0, .null, .int 0, .int 0])) := by rw [eh3]; exact (va_up_self _ _ _)
  refine lv_aload_n hx hb dD_init_14 rfl (lv_at hl 0 rfl) ?_
  refine lv_iconst (v := 0) hx hb dD_init_15 (by decide) ?_
  refine ur_put (D := D) (ci := 6) (v := .int 0) (ty := .int) (C := "UnitRoom$Writer") (T := TW) (N := 10) hx hb hts inW tyW tyW_ok nmW hown hV hI fq4 rfl 5 (by decide) (hts _ mw80) (fun _ h9 => h9) rfl (by decide +kernel) rfl rfl (Nat.le_of_ble_eq_true rfl) dD_init_16 (fun H locs hI => ?_)
  obtain ⟨h5, eh5⟩ : ∃ z : ur_M, z = va_up h3 q (some (.inr (6, [.int 0, .null, .int 0, .long 0, .int 0, .int 0, .int 0, .null, .int 0, .int 0]))) := ⟨_, rfl⟩
  replace hI : ur_I D vwCl (ur_A h s.heap.size) s.heap h5 H locs := by rw [eh5]; exact hI
  have fq6 : h5 q = some (.inr (6, [.int 0, .null, .int 0, .long 0, .int 0, .int 0, .int 0, .null, .int 0, .int 0])) := by rw [eh5]; exact (va_up_self _ _ _)
  refine lv_aload_n hx hb dD_init_19 rfl (lv_at hl 0 rfl) ?_
  refine lv_iconst (v := 0) hx hb dD_init_20 (by decide) ?_
  refine ur_put (D := D) (ci := 6) (v := .int 0) (ty := .int) (C := "UnitRoom$Writer") (T := TW) (N := 10) hx hb hts inW tyW tyW_ok nmW hown hV hI fq6 rfl 6 (by decide) (hts _ mw81) (fun _ h9 => h9) rfl (by decide +kernel) rfl rfl (Nat.le_of_ble_eq_true rfl) dD_init_21 (fun H locs hI => ?_)
  obtain ⟨h7, eh7⟩ : ∃ z : ur_M, z = va_up h5 q (some (.inr (6, [.int 0, .null, .int 0, .long 0, .int 0, .int 0, .int 0, .null, .int 0, .int 0]))) := ⟨_, rfl⟩
  replace hI : ur_I D vwCl (ur_A h s.heap.size) s.heap h7 H locs := by rw [eh7]; exact hI
  have fq8 : h7 q = some (.inr (6, [.int 0, .null, .int 0, .long 0, .int 0, .int 0, .int 0, .null, .int 0, .int 0])) := by rw [eh7]; exact (va_up_self _ _ _)
  refine lv_aload_n hx hb dD_init_24 rfl (lv_at hl 0 rfl) ?_
  refine lv_iload_n hx hb dD_init_25 rfl (lv_at hl 1 rfl) ?_
  refine ur_putF (D := D) (ci := 6) (v := .int (nI nw)) (ty := .int) (C := "UnitRoom$Writer") (T := TW) (N := 10) hx hb hts inW tyW tyW_ok nmW hown hV hI fq8 rfl 0 (by decide) (hts _ mw66) (fun _ h9 => h9) rfl hin rfl (by decide +kernel) rfl rfl (Nat.le_of_ble_eq_true rfl) dD_init_26 (fun H locs hI => ?_)
  obtain ⟨h9, eh9⟩ : ∃ z : ur_M, z = va_up h7 q (some (.inr (6, [.int (nI nw), .null, .int 0, .long 0, .int 0, .int 0, .int 0, .null, .int 0, .int 0]))) := ⟨_, rfl⟩
  replace hI : ur_I D vwCl (ur_A h s.heap.size) s.heap h9 H locs := by rw [eh9]; exact hI
  have fq10 : h9 q = some (.inr (6, [.int (nI nw), .null, .int 0, .long 0, .int 0, .int 0, .int 0, .null, .int 0, .int 0])) := by rw [eh9]; exact (va_up_self _ _ _)
  refine lv_aload_n hx hb dD_init_29 rfl (lv_at hl 0 rfl) ?_
  refine lv_iload_n hx hb dD_init_30 rfl (lv_at hl 2 rfl) ?_
  refine ur_putF (D := D) (ci := 6) (v := .int du) (ty := .int) (C := "UnitRoom$Writer") (T := TW) (N := 10) hx hb hts inW tyW tyW_ok nmW hown hV hI fq10 rfl 2 (by decide) (hts _ mw75) (fun _ h9 => h9) rfl hin rfl (by decide +kernel) rfl rfl (Nat.le_of_ble_eq_true rfl) dD_init_31 (fun H locs hI => ?_)
  obtain ⟨h11, eh11⟩ : ∃ z : ur_M, z = va_up h9 q (some (.inr (6, [.int (nI nw), .null, .int du, .long 0, .int 0, .int 0, .int 0, .null, .int 0, .int 0]))) := ⟨_, rfl⟩
  replace hI : ur_I D vwCl (ur_A h s.heap.size) s.heap h11 H locs := by rw [eh11]; exact hI
  have fq12 : h11 q = some (.inr (6, [.int (nI nw), .null, .int du, .long 0, .int 0, .int 0, .int 0, .null, .int 0, .int 0])) := by rw [eh11]; exact (va_up_self _ _ _)
  refine lv_aload_n hx hb dD_init_34 rfl (lv_at hl 0 rfl) ?_
  refine lv_iconst (v := 0) hx hb dD_init_35 (by decide) ?_
  refine lv_iload_n hx hb dD_init_36 rfl (lv_at hl 1 rfl) ?_
  refine va_mmax hx hb (hml.trans hl.1.symm) hown (hts _ mw60) (hts _ mw61) (hts _ mw6) (hts _ mw62) (Nat.le_of_ble_eq_true rfl) (Nat.le_of_ble_eq_true rfl) (Nat.le_of_ble_eq_true rfl) (Nat.le_of_ble_eq_true rfl) dD_init_37 ?_
  rw [if_pos (show (0 : Int32) < nI nw from nI_lt (a := 0) hw0 (by omega))]
  refine ur_newa (atype := .int) (a0 := (nw, (.inl (fun _ => 0)))) hx hb (hts _ mw36) rfl 0 hV rfl rfl hI (n := (nI nw)) (N' := nw) (fun _ => by rfl) (nI_pos (by omega)) (nI_clamp (by omega)) (by show nw * 4 ≤ _; omega) (Nat.le_of_ble_eq_true rfl) (by show 0 + nw ≤ 100; omega) dD_init_40 (fun w13 H zw13 hI => ?_)
  obtain ⟨h14, eh14⟩ : ∃ z : ur_M, z = va_up h11 w13 (some (.inl (E.1 0, nw, .inl (fun _ => 0)))) := ⟨_, rfl⟩
  replace hI : ur_I D vwCl (ur_A h s.heap.size) s.heap h14 H locs := by rw [eh14]; exact hI
  have n16 : q ≠ w13 := ur_fresh fq12 zw13
  have fq15 : h14 q = some (.inr (6, [.int (nI nw), .null, .int du, .long 0, .int 0, .int 0, .int 0, .null, .int 0, .int 0])) := by rw [eh14]; exact (va_up_ne _ _ n16).trans fq12
  have fq17 : h14 w13 = some (.inl (E.1 0, nw, .inl (fun _ => 0))) := by rw [eh14]; exact va_up_self _ _ _
  refine W.widen (k := 1) (n := 100) (by omega) (by omega) ?_
  refine ur_putF (D := D) (ci := 6) (v := .ref w13) (ty := (.array .int)) (C := "UnitRoom$Writer") (T := TW) (N := 10) hx hb hts inW tyW tyW_ok nmW hown hV hI fq15 rfl 1 (by decide) (hts _ mw70) (fun _ h9 => h9) rfl hin rfl (by decide +kernel) rfl rfl (Nat.le_of_ble_eq_true rfl) dD_init_42 (fun H locs hI => ?_)
  obtain ⟨h18, eh18⟩ : ∃ z : ur_M, z = va_up h14 q (some (.inr (6, [.int (nI nw), .ref w13, .int du, .long 0, .int 0, .int 0, .int 0, .null, .int 0, .int 0]))) := ⟨_, rfl⟩
  replace hI : ur_I D vwCl (ur_A h s.heap.size) s.heap h18 H locs := by rw [eh18]; exact hI
  have fq19 : h18 q = some (.inr (6, [.int (nI nw), .ref w13, .int du, .long 0, .int 0, .int 0, .int 0, .null, .int 0, .int 0])) := by rw [eh18]; exact (va_up_self _ _ _)
  have fq20 : h18 w13 = some (.inl (E.1 0, nw, .inl (fun _ => 0))) := by rw [eh18]; exact ((va_up_ne _ _ (Ne.symm n16)).trans fq17)
  have hz9 := zw13
  rw [eh11, eh9, eh7, eh5, eh3, eh1, bx_uu, bx_uu, bx_uu, bx_uu, bx_uu] at hz9
  obtain ⟨hz9, hn9⟩ := ur_zup hz9
  exact ur_rv hx hb hr hlocks hI hQ ⟨_, hz9, (by rw [eh18, eh14, eh11, eh9, eh7, eh5, eh3, eh1, bx_uu, bx_uu, bx_uu, bx_uu, bx_uu, ur_sw (Ne.symm hn9), ur_com (Ne.symm hn9)])⟩ dD_init_45
theorem dB_init_0 : decode cB_init 0 = .ok (.aload_n 0, 1) := by decide +kernel
theorem dB_init_1 : decode cB_init 1 = .ok (.bipush 100, 2) := by decide +kernel
theorem dB_init_3 : decode cB_init 3 = .ok (.iload_n 1, 1) := by decide +kernel
theorem dB_init_4 : decode cB_init 4 = .ok (.invokespecial 5, 3) := by decide +kernel
theorem dB_init_7 : decode cB_init 7 = .ok (.aload_n 0, 1) := by decide +kernel
theorem dB_init_8 : decode cB_init 8 = .ok (.bipush 64, 2) := by decide +kernel
theorem dB_init_10 : decode cB_init 10 = .ok (.anewarray 11, 3) := by decide +kernel
theorem dB_init_13 : decode cB_init 13 = .ok (.putfield 13, 3) := by decide +kernel
theorem dB_init_16 : decode cB_init 16 = .ok (.return_, 1) := by decide +kernel
abbrev rmkB_init_T : Room := { frames := 2, cells := 2, slots := 164, locals := 43 }
set_option maxHeartbeats 4000000 in
set_option maxRecDepth 100000 in
theorem kB_init_T (l : Launch) (D : va_G) (E : ur_Ev) (h : ur_M) (q : Nat) (du : Int32) (f0 : h q = some (.inr (3, [.int 0, .null, .int 0, .long 0, .int 0, .int 0, .int 0, .int 0, .null])))  : ur_Mv l yB_init wsB_init rmkB_init_T D vwCl (ur_v E) [.ref q, .int du] h (fun h2 => ∃ w w2, h w = none ∧ h w2 = none ∧ w2 ≠ w ∧ h2 = va_up (va_up (va_up h w (some (.inl (E.1 0, 100, .inl (fun _ => 0))))) w2 (some (.inl (E.1 3, 64, .inr (.inr (.inr (.inr (fun _ => none)))))))) q (some (.inr (3, [.int 100, .ref w, .int du, .long 0, .int 0, .int 0, .int 0, .int 0, .ref w2])))) 2 164 := by
  intro sz
  refine ur_of (cc := cB_init) (maxL := 2) (ret := none) (by decide) rfl (Nat.le_of_ble_eq_true rfl) ?_
  intro p e s m args below meth c ls Q hsz hx hb hml hr hlocks hnm hown hts hO hK hI hQ hl
  subst hsz
  have hV := hK.1
  have hts : ∀ w ∈ ur_G, w.before args s = true := fun w hw => hts w (List.mem_cons_of_mem _ hw)
  have hZ : ur_Z E (ur_A h s.heap.size) s s.heap := hO.1
  have hown : s.vm.findClass "UnitRoom$BlockDevice" = some m.cls := hown
  have hin : meth.name = "<init>" := hnm
  have hl : lv_has ls 2 [(0, .ref q), (1, .int du)] := hl
  refine lv_aload_n hx hb dB_init_0 rfl (lv_at hl 0 rfl) ?_
  refine lv_bipush (v := 100) hx hb dB_init_1 (by decide) ?_
  refine lv_iload_n hx hb dB_init_3 rfl (lv_at hl 1 rfl) ?_
  refine ur_xv (va_runI (As := [.int 100, .int du]) (rest := []) ⟨hx, hb, hml, hown, hts⟩ (kD_init_T l D E h q 100 du f0 (by first | assumption | omega | decide) (by first | assumption | omega | decide) s.heap.size) (cwI 2 hts (ur_gI mw58) rfl rfl rfl (hts _ mw4) (hts _ mw113) (hts _ mw57) rfl (by decide +kernel) ⟨(Nat.le_of_ble_eq_true rfl), (Nat.le_of_ble_eq_true rfl)⟩) ⟨ur_blind, ur_pre hI hO hK (fun _ _ q => q)⟩ rfl rfl hl.1 rfl (lv_room (Nat.le_of_ble_eq_true rfl)) dB_init_4 ⟨Nat.le_of_ble_eq_true rfl, Nat.le_of_ble_eq_true rfl⟩) hI (fun h1 H locs p1 hI => ?_)
  obtain ⟨w2, zw2, eh1⟩ := p1
  have ne2 : q ≠ w2 := ur_fresh f0 zw2
  have fq2 : h1 q = some (.inr (3, [.int (nI 100), .ref w2, .int du, .long 0, .int 0, .int 0, .int 0, .int 0, .null])) := by rw [eh1]; exact va_up_self _ _ _
  have fa2 : h1 w2 = some (.inl (E.1 0, 100, .inl (fun _ => 0))) := by rw [eh1]; exact (va_up_ne _ _ (Ne.symm ne2)).trans (va_up_self _ _ _)
  refine lv_aload_n hx hb dB_init_7 rfl (lv_at hl 0 rfl) ?_
  refine lv_bipush (v := 64) hx hb dB_init_8 (by decide) ?_
  refine ur_newA (t := .int) hx hb hown (hts _ mw114) (hK.2.1.2.2.2.2.1 (.array .int) (by decide)) 3 hV rfl hI (n := 64) (N' := 64) (by decide) rfl (by decide) (Nat.le_of_ble_eq_true rfl) (Nat.le_of_ble_eq_true rfl) dB_init_10 (fun w3 H zw3 hI => ?_)
  obtain ⟨h4, eh4⟩ : ∃ z : ur_M, z = va_up h1 w3 (some (.inl (E.1 3, 64, .inr (.inr (.inr (.inr (fun _ => none))))))) := ⟨_, rfl⟩
  replace hI : ur_I D vwCl (ur_A h s.heap.size) s.heap h4 H locs := by rw [eh4]; exact hI
  have n6 : q ≠ w3 := ur_fresh fq2 zw3
  have fq5 : h4 q = some (.inr (3, [.int (nI 100), .ref w2, .int du, .long 0, .int 0, .int 0, .int 0, .int 0, .null])) := by rw [eh4]; exact (va_up_ne _ _ n6).trans fq2
  have n8 : w2 ≠ w3 := ur_fresh fa2 zw3
  have fq7 : h4 w2 = some (.inl (E.1 0, 100, .inl (fun _ => 0))) := by rw [eh4]; exact (va_up_ne _ _ n8).trans fa2
  have fq9 : h4 w3 = some (.inl (E.1 3, 64, .inr (.inr (.inr (.inr (fun _ => none)))))) := by rw [eh4]; exact va_up_self _ _ _
  refine ur_putF (D := D) (ci := 3) (v := .ref w3) (ty := (.array (.array .int))) (C := "UnitRoom$Tape") (T := TT) (N := 9) hx hb hts inT tyT tyT_ok nmT hown hV hI fq5 rfl 8 (by decide) (hts _ mw117) (fun _ h9 => h9) rfl hin rfl (by decide +kernel) rfl rfl (Nat.le_of_ble_eq_true rfl) dB_init_13 (fun H locs hI => ?_)
  obtain ⟨h10, eh10⟩ : ∃ z : ur_M, z = va_up h4 q (some (.inr (3, [.int (nI 100), .ref w2, .int du, .long 0, .int 0, .int 0, .int 0, .int 0, .ref w3]))) := ⟨_, rfl⟩
  replace hI : ur_I D vwCl (ur_A h s.heap.size) s.heap h10 H locs := by rw [eh10]; exact hI
  have fq11 : h10 q = some (.inr (3, [.int (nI 100), .ref w2, .int du, .long 0, .int 0, .int 0, .int 0, .int 0, .ref w3])) := by rw [eh10]; exact (va_up_self _ _ _)
  have fq12 : h10 w2 = some (.inl (E.1 0, 100, .inl (fun _ => 0))) := by rw [eh10]; exact ((va_up_ne _ _ (Ne.symm ne2)).trans fq7)
  have fq13 : h10 w3 = some (.inl (E.1 3, 64, .inr (.inr (.inr (.inr (fun _ => none)))))) := by rw [eh10]; exact ((va_up_ne _ _ (Ne.symm n6)).trans fq9)
  have hz9 := zw3
  rw [eh1] at hz9
  obtain ⟨hz9, hn9⟩ := ur_zup hz9
  obtain ⟨hz9, hn8⟩ := ur_zup hz9
  exact ur_rv hx hb hr hlocks hI hQ ⟨_, _, zw2, hz9, hn8, (by rw [eh10, eh4, eh1, ur_sw (Ne.symm hn9), ur_com (Ne.symm hn9)]; try rfl)⟩ dB_init_16
abbrev rmkB_init_K : Room := { frames := 2, cells := 2, slots := 164, locals := 43 }
set_option maxHeartbeats 4000000 in
set_option maxRecDepth 100000 in
theorem kB_init_K (l : Launch) (D : va_G) (E : ur_Ev) (h : ur_M) (q : Nat) (du : Int32) (f0 : h q = some (.inr (4, [.int 0, .null, .int 0, .long 0, .int 0, .int 0, .int 0, .null])))  : ur_Mv l yB_init wsB_init rmkB_init_K D vwCl (ur_v E) [.ref q, .int du] h (fun h2 => ∃ w w2, h w = none ∧ h w2 = none ∧ w2 ≠ w ∧ h2 = va_up (va_up (va_up h w (some (.inl (E.1 0, 100, .inl (fun _ => 0))))) w2 (some (.inl (E.1 3, 64, .inr (.inr (.inr (.inr (fun _ => none)))))))) q (some (.inr (4, [.int 100, .ref w, .int du, .long 0, .int 0, .int 0, .int 0, .ref w2])))) 2 164 := by
  intro sz
  refine ur_of (cc := cB_init) (maxL := 2) (ret := none) (by decide) rfl (Nat.le_of_ble_eq_true rfl) ?_
  intro p e s m args below meth c ls Q hsz hx hb hml hr hlocks hnm hown hts hO hK hI hQ hl
  subst hsz
  have hV := hK.1
  have hts : ∀ w ∈ ur_G, w.before args s = true := fun w hw => hts w (List.mem_cons_of_mem _ hw)
  have hZ : ur_Z E (ur_A h s.heap.size) s s.heap := hO.1
  have hown : s.vm.findClass "UnitRoom$BlockDevice" = some m.cls := hown
  have hin : meth.name = "<init>" := hnm
  have hl : lv_has ls 2 [(0, .ref q), (1, .int du)] := hl
  refine lv_aload_n hx hb dB_init_0 rfl (lv_at hl 0 rfl) ?_
  refine lv_bipush (v := 100) hx hb dB_init_1 (by decide) ?_
  refine lv_iload_n hx hb dB_init_3 rfl (lv_at hl 1 rfl) ?_
  refine ur_xv (va_runI (As := [.int 100, .int du]) (rest := []) ⟨hx, hb, hml, hown, hts⟩ (kD_init_K l D E h q 100 du f0 (by first | assumption | omega | decide) (by first | assumption | omega | decide) s.heap.size) (cwI 2 hts (ur_gI mw58) rfl rfl rfl (hts _ mw4) (hts _ mw113) (hts _ mw57) rfl (by decide +kernel) ⟨(Nat.le_of_ble_eq_true rfl), (Nat.le_of_ble_eq_true rfl)⟩) ⟨ur_blind, ur_pre hI hO hK (fun _ _ q => q)⟩ rfl rfl hl.1 rfl (lv_room (Nat.le_of_ble_eq_true rfl)) dB_init_4 ⟨Nat.le_of_ble_eq_true rfl, Nat.le_of_ble_eq_true rfl⟩) hI (fun h1 H locs p1 hI => ?_)
  obtain ⟨w2, zw2, eh1⟩ := p1
  have ne2 : q ≠ w2 := ur_fresh f0 zw2
  have fq2 : h1 q = some (.inr (4, [.int (nI 100), .ref w2, .int du, .long 0, .int 0, .int 0, .int 0, .null])) := by rw [eh1]; exact va_up_self _ _ _
  have fa2 : h1 w2 = some (.inl (E.1 0, 100, .inl (fun _ => 0))) := by rw [eh1]; exact (va_up_ne _ _ (Ne.symm ne2)).trans (va_up_self _ _ _)
  refine lv_aload_n hx hb dB_init_7 rfl (lv_at hl 0 rfl) ?_
  refine lv_bipush (v := 64) hx hb dB_init_8 (by decide) ?_
  refine ur_newA (t := .int) hx hb hown (hts _ mw114) (hK.2.1.2.2.2.2.1 (.array .int) (by decide)) 3 hV rfl hI (n := 64) (N' := 64) (by decide) rfl (by decide) (Nat.le_of_ble_eq_true rfl) (Nat.le_of_ble_eq_true rfl) dB_init_10 (fun w3 H zw3 hI => ?_)
  obtain ⟨h4, eh4⟩ : ∃ z : ur_M, z = va_up h1 w3 (some (.inl (E.1 3, 64, .inr (.inr (.inr (.inr (fun _ => none))))))) := ⟨_, rfl⟩
  replace hI : ur_I D vwCl (ur_A h s.heap.size) s.heap h4 H locs := by rw [eh4]; exact hI
  have n6 : q ≠ w3 := ur_fresh fq2 zw3
  have fq5 : h4 q = some (.inr (4, [.int (nI 100), .ref w2, .int du, .long 0, .int 0, .int 0, .int 0, .null])) := by rw [eh4]; exact (va_up_ne _ _ n6).trans fq2
  have n8 : w2 ≠ w3 := ur_fresh fa2 zw3
  have fq7 : h4 w2 = some (.inl (E.1 0, 100, .inl (fun _ => 0))) := by rw [eh4]; exact (va_up_ne _ _ n8).trans fa2
  have fq9 : h4 w3 = some (.inl (E.1 3, 64, .inr (.inr (.inr (.inr (fun _ => none)))))) := by rw [eh4]; exact va_up_self _ _ _
  refine ur_putF (D := D) (ci := 4) (v := .ref w3) (ty := (.array (.array .int))) (C := "UnitRoom$Disk") (T := TK) (N := 8) hx hb hts inK tyK tyK_ok nmK hown hV hI fq5 rfl 7 (by decide) (hts _ mw117) (fun _ h9 => h9) rfl hin rfl (by decide +kernel) rfl rfl (Nat.le_of_ble_eq_true rfl) dB_init_13 (fun H locs hI => ?_)
  obtain ⟨h10, eh10⟩ : ∃ z : ur_M, z = va_up h4 q (some (.inr (4, [.int (nI 100), .ref w2, .int du, .long 0, .int 0, .int 0, .int 0, .ref w3]))) := ⟨_, rfl⟩
  replace hI : ur_I D vwCl (ur_A h s.heap.size) s.heap h10 H locs := by rw [eh10]; exact hI
  have fq11 : h10 q = some (.inr (4, [.int (nI 100), .ref w2, .int du, .long 0, .int 0, .int 0, .int 0, .ref w3])) := by rw [eh10]; exact (va_up_self _ _ _)
  have fq12 : h10 w2 = some (.inl (E.1 0, 100, .inl (fun _ => 0))) := by rw [eh10]; exact ((va_up_ne _ _ (Ne.symm ne2)).trans fq7)
  have fq13 : h10 w3 = some (.inl (E.1 3, 64, .inr (.inr (.inr (.inr (fun _ => none)))))) := by rw [eh10]; exact ((va_up_ne _ _ (Ne.symm n6)).trans fq9)
  have hz9 := zw3
  rw [eh1] at hz9
  obtain ⟨hz9, hn9⟩ := ur_zup hz9
  obtain ⟨hz9, hn8⟩ := ur_zup hz9
  exact ur_rv hx hb hr hlocks hI hQ ⟨_, _, zw2, hz9, hn8, (by rw [eh10, eh4, eh1, ur_sw (Ne.symm hn9), ur_com (Ne.symm hn9)]; try rfl)⟩ dB_init_16
theorem dT_init_0 : decode cT_init 0 = .ok (.aload_n 0, 1) := by decide +kernel
theorem dT_init_1 : decode cT_init 1 = .ok (.sipush 500, 3) := by decide +kernel
theorem dT_init_4 : decode cT_init 4 = .ok (.invokespecial 3, 3) := by decide +kernel
theorem dT_init_7 : decode cT_init 7 = .ok (.aload_n 0, 1) := by decide +kernel
theorem dT_init_8 : decode cT_init 8 = .ok (.iconst 0, 1) := by decide +kernel
theorem dT_init_9 : decode cT_init 9 = .ok (.putfield 9, 3) := by decide +kernel
theorem dT_init_12 : decode cT_init 12 = .ok (.return_, 1) := by decide +kernel
abbrev rmkT_init : Room := { frames := 3, cells := 2, slots := 164, locals := 64 }
set_option maxHeartbeats 4000000 in
set_option maxRecDepth 100000 in
theorem kT_init (l : Launch) (D : va_G) (E : ur_Ev) (h : ur_M) (q : Nat) (f0 : h q = some (.inr (3, [.int 0, .null, .int 0, .long 0, .int 0, .int 0, .int 0, .int 0, .null])))  : ur_Mv l yT_init wsT_init rmkT_init D vwCl (ur_v E) [.ref q] h (fun h2 => ∃ w w2, h w = none ∧ h w2 = none ∧ w2 ≠ w ∧ h2 = va_up (va_up (va_up h w (some (.inl (E.1 0, 100, .inl (fun _ => 0))))) w2 (some (.inl (E.1 3, 64, .inr (.inr (.inr (.inr (fun _ => none)))))))) q (some (.inr (3, [.int 100, .ref w, .int 500, .long 0, .int 0, .int 0, .int 0, .int 0, .ref w2])))) 2 164 := by
  intro sz
  refine ur_of (cc := cT_init) (maxL := 1) (ret := none) (by decide) rfl (Nat.le_of_ble_eq_true rfl) ?_
  intro p e s m args below meth c ls Q hsz hx hb hml hr hlocks hnm hown hts hO hK hI hQ hl
  subst hsz
  have hV := hK.1
  have hts : ∀ w ∈ ur_G, w.before args s = true := fun w hw => hts w (List.mem_cons_of_mem _ hw)
  have hZ : ur_Z E (ur_A h s.heap.size) s s.heap := hO.1
  have hown : s.vm.findClass "UnitRoom$Tape" = some m.cls := hown
  have hin : meth.name = "<init>" := hnm
  have hl : lv_has ls 1 [(0, .ref q)] := hl
  refine lv_aload_n hx hb dT_init_0 rfl (lv_at hl 0 rfl) ?_
  refine lv_sipush (v := 500) hx hb dT_init_1 (by decide) ?_
  refine ur_xv (va_runI (As := [.int 500]) (rest := []) ⟨hx, hb, hml, hown, hts⟩ (kB_init_T l D E h q 500 f0 s.heap.size) (cwI 1 hts (ur_gI mw112) rfl rfl rfl (hts _ mw7) (hts _ mw110) (hts _ mw111) rfl (by decide +kernel) ⟨(Nat.le_of_ble_eq_true rfl), (Nat.le_of_ble_eq_true rfl)⟩) ⟨ur_blind, ur_pre hI hO hK (fun _ _ q => q)⟩ rfl rfl hl.1 rfl (lv_room (Nat.le_of_ble_eq_true rfl)) dT_init_4 ⟨Nat.le_of_ble_eq_true rfl, Nat.le_of_ble_eq_true rfl⟩) hI (fun h1 H locs p1 hI => ?_)
  obtain ⟨wb, wl, zb, zl, nl, eh1⟩ := p1
  have fq9 : h1 q = some (.inr (3, [.int 100, .ref wb, .int 500, .long 0, .int 0, .int 0, .int 0, .int 0, .ref wl])) := by rw [eh1]; exact va_up_self _ _ _
  refine lv_aload_n hx hb dT_init_7 rfl (lv_at hl 0 rfl) ?_
  refine lv_iconst (v := 0) hx hb dT_init_8 (by decide) ?_
  refine ur_put (D := D) (ci := 3) (v := .int 0) (ty := .int) (C := "UnitRoom$Tape") (T := TT) (N := 9) hx hb hts inT tyT tyT_ok nmT hown hV hI fq9 rfl 7 (by decide) (hts _ mw116) (fun _ h9 => h9) rfl (by decide +kernel) rfl rfl (Nat.le_of_ble_eq_true rfl) dT_init_9 (fun H locs hI => ?_)
  obtain ⟨h2, eh2⟩ : ∃ z : ur_M, z = va_up h1 q (some (.inr (3, [.int 100, .ref wb, .int 500, .long 0, .int 0, .int 0, .int 0, .int 0, .ref wl]))) := ⟨_, rfl⟩
  replace hI : ur_I D vwCl (ur_A h s.heap.size) s.heap h2 H locs := by rw [eh2]; exact hI
  have fq3 : h2 q = some (.inr (3, [.int 100, .ref wb, .int 500, .long 0, .int 0, .int 0, .int 0, .int 0, .ref wl])) := by rw [eh2]; exact (va_up_self _ _ _)
  exact ur_rv hx hb hr hlocks hI hQ ⟨_, _, zb, zl, nl, (by rw [eh2, eh1, bx_uu])⟩ dT_init_12
theorem dK_init_0 : decode cK_init 0 = .ok (.aload_n 0, 1) := by decide +kernel
theorem dK_init_1 : decode cK_init 1 = .ok (.sipush 400, 3) := by decide +kernel
theorem dK_init_4 : decode cK_init 4 = .ok (.invokespecial 3, 3) := by decide +kernel
theorem dK_init_7 : decode cK_init 7 = .ok (.return_, 1) := by decide +kernel
abbrev rmkK_init : Room := { frames := 3, cells := 2, slots := 164, locals := 64 }
set_option maxHeartbeats 4000000 in
set_option maxRecDepth 100000 in
theorem kK_init (l : Launch) (D : va_G) (E : ur_Ev) (h : ur_M) (q : Nat) (f0 : h q = some (.inr (4, [.int 0, .null, .int 0, .long 0, .int 0, .int 0, .int 0, .null])))  : ur_Mv l yK_init wsK_init rmkK_init D vwCl (ur_v E) [.ref q] h (fun h2 => ∃ w w2, h w = none ∧ h w2 = none ∧ w2 ≠ w ∧ h2 = va_up (va_up (va_up h w (some (.inl (E.1 0, 100, .inl (fun _ => 0))))) w2 (some (.inl (E.1 3, 64, .inr (.inr (.inr (.inr (fun _ => none)))))))) q (some (.inr (4, [.int 100, .ref w, .int 400, .long 0, .int 0, .int 0, .int 0, .ref w2])))) 2 164 := by
  intro sz
  refine ur_of (cc := cK_init) (maxL := 1) (ret := none) (by decide) rfl (Nat.le_of_ble_eq_true rfl) ?_
  intro p e s m args below meth c ls Q hsz hx hb hml hr hlocks hnm hown hts hO hK hI hQ hl
  subst hsz
  have hV := hK.1
  have hts : ∀ w ∈ ur_G, w.before args s = true := fun w hw => hts w (List.mem_cons_of_mem _ hw)
  have hZ : ur_Z E (ur_A h s.heap.size) s s.heap := hO.1
  have hown : s.vm.findClass "UnitRoom$Disk" = some m.cls := hown
  have hin : meth.name = "<init>" := hnm
  have hl : lv_has ls 1 [(0, .ref q)] := hl
  refine lv_aload_n hx hb dK_init_0 rfl (lv_at hl 0 rfl) ?_
  refine lv_sipush (v := 400) hx hb dK_init_1 (by decide) ?_
  refine ur_xv (va_runI (As := [.int 400]) (rest := []) ⟨hx, hb, hml, hown, hts⟩ (kB_init_K l D E h q 400 f0 s.heap.size) (cwI 1 hts (ur_gI mw112) rfl rfl rfl (hts _ mw7) (hts _ mw135) (hts _ mw111) rfl (by decide +kernel) ⟨(Nat.le_of_ble_eq_true rfl), (Nat.le_of_ble_eq_true rfl)⟩) ⟨ur_blind, ur_pre hI hO hK (fun _ _ q => q)⟩ rfl rfl hl.1 rfl (lv_room (Nat.le_of_ble_eq_true rfl)) dK_init_4 ⟨Nat.le_of_ble_eq_true rfl, Nat.le_of_ble_eq_true rfl⟩) hI (fun h1 H locs p1 hI => ?_)
  obtain ⟨wb, wl, zb, zl, nl, eh1⟩ := p1
  have fq9 : h1 q = some (.inr (4, [.int 100, .ref wb, .int 400, .long 0, .int 0, .int 0, .int 0, .ref wl])) := by rw [eh1]; exact va_up_self _ _ _
  exact ur_rv hx hb hr hlocks hI hQ ⟨_, _, zb, zl, nl, (by rw [eh1])⟩ dK_init_7
theorem dR_init_0 : decode cR_init 0 = .ok (.aload_n 0, 1) := by decide +kernel
theorem dR_init_1 : decode cR_init 1 = .ok (.bipush 16, 2) := by decide +kernel
theorem dR_init_3 : decode cR_init 3 = .ok (.sipush 1000, 3) := by decide +kernel
theorem dR_init_6 : decode cR_init 6 = .ok (.invokespecial 5, 3) := by decide +kernel
theorem dR_init_9 : decode cR_init 9 = .ok (.aload_n 0, 1) := by decide +kernel
theorem dR_init_10 : decode cR_init 10 = .ok (.sipush 1600, 3) := by decide +kernel
theorem dR_init_13 : decode cR_init 13 = .ok (.newarray .int, 2) := by decide +kernel
theorem dR_init_15 : decode cR_init 15 = .ok (.putfield 11, 3) := by decide +kernel
theorem dR_init_18 : decode cR_init 18 = .ok (.aload_n 0, 1) := by decide +kernel
theorem dR_init_19 : decode cR_init 19 = .ok (.iconst 0, 1) := by decide +kernel
theorem dR_init_20 : decode cR_init 20 = .ok (.putfield 15, 3) := by decide +kernel
theorem dR_init_23 : decode cR_init 23 = .ok (.aload_n 0, 1) := by decide +kernel
theorem dR_init_24 : decode cR_init 24 = .ok (.iconst 0, 1) := by decide +kernel
theorem dR_init_25 : decode cR_init 25 = .ok (.putfield 19, 3) := by decide +kernel
theorem dR_init_28 : decode cR_init 28 = .ok (.return_, 1) := by decide +kernel
abbrev rmkR_init : Room := { frames := 2, cells := 2, slots := 1700, locals := 43 }
set_option maxHeartbeats 4000000 in
set_option maxRecDepth 100000 in
theorem kR_init (l : Launch) (D : va_G) (E : ur_Ev) (h : ur_M) (q : Nat) (f0 : h q = some (.inr (5, [.int 0, .null, .int 0, .long 0, .int 0, .int 0, .int 0, .null, .int 0, .int 0])))  : ur_Mv l yR_init wsR_init rmkR_init D vwCl (ur_v E) [.ref q] h (fun h2 => ∃ w w2, h w = none ∧ h w2 = none ∧ w2 ≠ w ∧ h2 = va_up (va_up (va_up h w (some (.inl (E.1 0, 16, .inl (fun _ => 0))))) w2 (some (.inl (E.1 0, 1600, .inl (fun _ => 0))))) q (some (.inr (5, [.int 16, .ref w, .int 1000, .long 0, .int 0, .int 0, .int 0, .ref w2, .int 0, .int 0])))) 2 1700 := by
  intro sz
  refine ur_of (cc := cR_init) (maxL := 1) (ret := none) (by decide) rfl (Nat.le_of_ble_eq_true rfl) ?_
  intro p e s m args below meth c ls Q hsz hx hb hml hr hlocks hnm hown hts hO hK hI hQ hl
  subst hsz
  have hV := hK.1
  have hts : ∀ w ∈ ur_G, w.before args s = true := fun w hw => hts w (List.mem_cons_of_mem _ hw)
  have hZ : ur_Z E (ur_A h s.heap.size) s s.heap := hO.1
  have hown : s.vm.findClass "UnitRoom$Reader" = some m.cls := hown
  have hin : meth.name = "<init>" := hnm
  have hl : lv_has ls 1 [(0, .ref q)] := hl
  refine lv_aload_n hx hb dR_init_0 rfl (lv_at hl 0 rfl) ?_
  refine lv_bipush (v := 16) hx hb dR_init_1 (by decide) ?_
  refine lv_sipush (v := 1000) hx hb dR_init_3 (by decide) ?_
  refine ur_xv (va_runI (As := [.int 16, .int 1000]) (rest := []) ⟨hx, hb, hml, hown, hts⟩ (kD_init_R l D E h q 16 1000 f0 (by first | assumption | omega | decide) (by first | assumption | omega | decide) s.heap.size) (cwI 2 hts (ur_gI mw58) rfl rfl rfl (hts _ mw4) (hts _ mw56) (hts _ mw57) rfl (by decide +kernel) ⟨(Nat.le_of_ble_eq_true rfl), (Nat.le_of_ble_eq_true rfl)⟩) ⟨ur_blind, ur_pre hI hO hK (fun _ _ q => q)⟩ rfl rfl hl.1 rfl (lv_room (Nat.le_of_ble_eq_true rfl)) dR_init_6 ⟨Nat.le_of_ble_eq_true rfl, Nat.le_of_ble_eq_true rfl⟩) hI (fun h1 H locs p1 hI => ?_)
  obtain ⟨w2, zw2, eh1⟩ := p1
  have ne2 : q ≠ w2 := ur_fresh f0 zw2
  have fq2 : h1 q = some (.inr (5, [.int (nI 16), .ref w2, .int 1000, .long 0, .int 0, .int 0, .int 0, .null, .int 0, .int 0])) := by rw [eh1]; exact va_up_self _ _ _
  have fa2 : h1 w2 = some (.inl (E.1 0, 16, .inl (fun _ => 0))) := by rw [eh1]; exact (va_up_ne _ _ (Ne.symm ne2)).trans (va_up_self _ _ _)
  refine lv_aload_n hx hb dR_init_9 rfl (lv_at hl 0 rfl) ?_
  refine lv_sipush (v := 1600) hx hb dR_init_10 (by decide) ?_
  refine ur_newa (atype := .int) (a0 := (1600, (.inl (fun _ => 0)))) hx hb (hts _ mw36) rfl 0 hV rfl rfl hI (n := 1600) (N' := 1600) (fun _ => by rfl) (by decide) rfl (by decide) (Nat.le_of_ble_eq_true rfl) (Nat.le_of_ble_eq_true rfl) dR_init_13 (fun w3 H zw3 hI => ?_)
  obtain ⟨h4, eh4⟩ : ∃ z : ur_M, z = va_up h1 w3 (some (.inl (E.1 0, 1600, .inl (fun _ => 0)))) := ⟨_, rfl⟩
  replace hI : ur_I D vwCl (ur_A h s.heap.size) s.heap h4 H locs := by rw [eh4]; exact hI
  have n6 : q ≠ w3 := ur_fresh fq2 zw3
  have fq5 : h4 q = some (.inr (5, [.int (nI 16), .ref w2, .int 1000, .long 0, .int 0, .int 0, .int 0, .null, .int 0, .int 0])) := by rw [eh4]; exact (va_up_ne _ _ n6).trans fq2
  have n8 : w2 ≠ w3 := ur_fresh fa2 zw3
  have fq7 : h4 w2 = some (.inl (E.1 0, 16, .inl (fun _ => 0))) := by rw [eh4]; exact (va_up_ne _ _ n8).trans fa2
  have fq9 : h4 w3 = some (.inl (E.1 0, 1600, .inl (fun _ => 0))) := by rw [eh4]; exact va_up_self _ _ _
  refine ur_putF (D := D) (ci := 5) (v := .ref w3) (ty := (.array .int)) (C := "UnitRoom$Reader") (T := TR) (N := 10) hx hb hts inR tyR tyR_ok nmR hown hV hI fq5 rfl 7 (by decide) (hts _ mw63) (fun _ h9 => h9) rfl hin rfl (by decide +kernel) rfl rfl (Nat.le_of_ble_eq_true rfl) dR_init_15 (fun H locs hI => ?_)
  obtain ⟨h10, eh10⟩ : ∃ z : ur_M, z = va_up h4 q (some (.inr (5, [.int (nI 16), .ref w2, .int 1000, .long 0, .int 0, .int 0, .int 0, .ref w3, .int 0, .int 0]))) := ⟨_, rfl⟩
  replace hI : ur_I D vwCl (ur_A h s.heap.size) s.heap h10 H locs := by rw [eh10]; exact hI
  have fq11 : h10 q = some (.inr (5, [.int (nI 16), .ref w2, .int 1000, .long 0, .int 0, .int 0, .int 0, .ref w3, .int 0, .int 0])) := by rw [eh10]; exact (va_up_self _ _ _)
  have fq12 : h10 w2 = some (.inl (E.1 0, 16, .inl (fun _ => 0))) := by rw [eh10]; exact ((va_up_ne _ _ (Ne.symm ne2)).trans fq7)
  have fq13 : h10 w3 = some (.inl (E.1 0, 1600, .inl (fun _ => 0))) := by rw [eh10]; exact ((va_up_ne _ _ (Ne.symm n6)).trans fq9)
  refine lv_aload_n hx hb dR_init_18 rfl (lv_at hl 0 rfl) ?_
  refine lv_iconst (v := 0) hx hb dR_init_19 (by decide) ?_
  refine ur_put (D := D) (ci := 5) (v := .int 0) (ty := .int) (C := "UnitRoom$Reader") (T := TR) (N := 10) hx hb hts inR tyR tyR_ok nmR hown hV hI fq11 rfl 8 (by decide) (hts _ mw64) (fun _ h9 => h9) rfl (by decide +kernel) rfl rfl (Nat.le_of_ble_eq_true rfl) dR_init_20 (fun H locs hI => ?_)
  obtain ⟨h14, eh14⟩ : ∃ z : ur_M, z = va_up h10 q (some (.inr (5, [.int (nI 16), .ref w2, .int 1000, .long 0, .int 0, .int 0, .int 0, .ref w3, .int 0, .int 0]))) := ⟨_, rfl⟩
  replace hI : ur_I D vwCl (ur_A h s.heap.size) s.heap h14 H locs := by rw [eh14]; exact hI
  have fq15 : h14 q = some (.inr (5, [.int (nI 16), .ref w2, .int 1000, .long 0, .int 0, .int 0, .int 0, .ref w3, .int 0, .int 0])) := by rw [eh14]; exact (va_up_self _ _ _)
  have fq16 : h14 w2 = some (.inl (E.1 0, 16, .inl (fun _ => 0))) := by rw [eh14]; exact ((va_up_ne _ _ (Ne.symm ne2)).trans fq12)
  have fq17 : h14 w3 = some (.inl (E.1 0, 1600, .inl (fun _ => 0))) := by rw [eh14]; exact ((va_up_ne _ _ (Ne.symm n6)).trans fq13)
  refine lv_aload_n hx hb dR_init_23 rfl (lv_at hl 0 rfl) ?_
  refine lv_iconst (v := 0) hx hb dR_init_24 (by decide) ?_
  refine ur_put (D := D) (ci := 5) (v := .int 0) (ty := .int) (C := "UnitRoom$Reader") (T := TR) (N := 10) hx hb hts inR tyR tyR_ok nmR hown hV hI fq15 rfl 9 (by decide) (hts _ mw65) (fun _ h9 => h9) rfl (by decide +kernel) rfl rfl (Nat.le_of_ble_eq_true rfl) dR_init_25 (fun H locs hI => ?_)
  obtain ⟨h18, eh18⟩ : ∃ z : ur_M, z = va_up h14 q (some (.inr (5, [.int (nI 16), .ref w2, .int 1000, .long 0, .int 0, .int 0, .int 0, .ref w3, .int 0, .int 0]))) := ⟨_, rfl⟩
  replace hI : ur_I D vwCl (ur_A h s.heap.size) s.heap h18 H locs := by rw [eh18]; exact hI
  have fq19 : h18 q = some (.inr (5, [.int (nI 16), .ref w2, .int 1000, .long 0, .int 0, .int 0, .int 0, .ref w3, .int 0, .int 0])) := by rw [eh18]; exact (va_up_self _ _ _)
  have fq20 : h18 w2 = some (.inl (E.1 0, 16, .inl (fun _ => 0))) := by rw [eh18]; exact ((va_up_ne _ _ (Ne.symm ne2)).trans fq16)
  have fq21 : h18 w3 = some (.inl (E.1 0, 1600, .inl (fun _ => 0))) := by rw [eh18]; exact ((va_up_ne _ _ (Ne.symm n6)).trans fq17)
  have hz9 := zw3
  rw [eh1] at hz9
  obtain ⟨hz9, hn9⟩ := ur_zup hz9
  obtain ⟨hz9, hn8⟩ := ur_zup hz9
  exact ur_rv hx hb hr hlocks hI hQ ⟨_, _, zw2, hz9, hn8, (by rw [eh18, eh14, eh10, eh4, eh1, bx_uu, bx_uu, ur_sw (Ne.symm hn9), ur_com (Ne.symm hn9)]; try rfl)⟩ dR_init_28
theorem dW_init_0 : decode cW_init 0 = .ok (.aload_n 0, 1) := by decide +kernel
theorem dW_init_1 : decode cW_init 1 = .ok (.iload_n 1, 1) := by decide +kernel
theorem dW_init_2 : decode cW_init 2 = .ok (.iload_n 2, 1) := by decide +kernel
theorem dW_init_3 : decode cW_init 3 = .ok (.invokespecial 3, 3) := by decide +kernel
theorem dW_init_6 : decode cW_init 6 = .ok (.aload_n 0, 1) := by decide +kernel
theorem dW_init_7 : decode cW_init 7 = .ok (.sipush 300, 3) := by decide +kernel
theorem dW_init_10 : decode cW_init 10 = .ok (.anewarray 11, 3) := by decide +kernel
theorem dW_init_13 : decode cW_init 13 = .ok (.putfield 13, 3) := by decide +kernel
theorem dW_init_16 : decode cW_init 16 = .ok (.aload_n 0, 1) := by decide +kernel
theorem dW_init_17 : decode cW_init 17 = .ok (.iconst 0, 1) := by decide +kernel
theorem dW_init_18 : decode cW_init 18 = .ok (.putfield 17, 3) := by decide +kernel
theorem dW_init_21 : decode cW_init 21 = .ok (.aload_n 0, 1) := by decide +kernel
theorem dW_init_22 : decode cW_init 22 = .ok (.iload_n 3, 1) := by decide +kernel
theorem dW_init_23 : decode cW_init 23 = .ok (.putfield 21, 3) := by decide +kernel
theorem dW_init_26 : decode cW_init 26 = .ok (.return_, 1) := by decide +kernel
abbrev rmkW_init : Room := { frames := 2, cells := 2, slots := 400, locals := 43 }
set_option maxHeartbeats 4000000 in
set_option maxRecDepth 100000 in
theorem kW_init (l : Launch) (D : va_G) (E : ur_Ev) (h : ur_M) (q : Nat) (nw : Nat) (du : Int32) (hp : Int32) (f0 : h q = some (.inr (6, [.int 0, .null, .int 0, .long 0, .int 0, .int 0, .int 0, .null, .int 0, .int 0]))) (hw0 : 0 < nw) (hw1 : nw ≤ 100) (hhp : hp = 0 ∨ hp = 1) : ur_Mv l yW_init wsW_init rmkW_init D vwCl (ur_v E) [.ref q, .int (nI nw), .int du, .int hp] h (fun h2 => ∃ w w2, h w = none ∧ h w2 = none ∧ w2 ≠ w ∧ h2 = va_up (va_up (va_up h w (some (.inl (E.1 0, nw, .inl (fun _ => 0))))) w2 (some (.inl (E.1 4, 300, .inr (.inr (.inr (.inr (fun _ => none)))))))) q (some (.inr (6, [.int (nI nw), .ref w, .int du, .long 0, .int 0, .int 0, .int 0, .ref w2, .int hp, .int 0])))) 2 400 := by
  intro sz
  refine ur_of (cc := cW_init) (maxL := 4) (ret := none) (by decide) rfl (Nat.le_of_ble_eq_true rfl) ?_
  intro p e s m args below meth c ls Q hsz hx hb hml hr hlocks hnm hown hts hO hK hI hQ hl
  subst hsz
  have hV := hK.1
  have hts : ∀ w ∈ ur_G, w.before args s = true := fun w hw => hts w (List.mem_cons_of_mem _ hw)
  have hZ : ur_Z E (ur_A h s.heap.size) s s.heap := hO.1
  have hown : s.vm.findClass "UnitRoom$Writer" = some m.cls := hown
  have hin : meth.name = "<init>" := hnm
  have hl : lv_has ls 4 [(0, .ref q), (1, .int (nI nw)), (2, .int du), (3, .int hp)] := hl
  refine lv_aload_n hx hb dW_init_0 rfl (lv_at hl 0 rfl) ?_
  refine lv_iload_n hx hb dW_init_1 rfl (lv_at hl 1 rfl) ?_
  refine lv_iload_n hx hb dW_init_2 rfl (lv_at hl 2 rfl) ?_
  refine ur_xv (va_runI (As := [.int (nI nw), .int du]) (rest := []) ⟨hx, hb, hml, hown, hts⟩ (kD_init_W l D E h q nw du f0 (by first | assumption | omega | decide) (by first | assumption | omega | decide) s.heap.size) (cwI 2 hts (ur_gI mw58) rfl rfl rfl (hts _ mw4) (hts _ mw150) (hts _ mw57) rfl (by decide +kernel) ⟨(Nat.le_of_ble_eq_true rfl), (Nat.le_of_ble_eq_true rfl)⟩) ⟨ur_blind, ur_pre hI hO hK (fun _ _ q => q)⟩ rfl rfl hl.1 rfl (lv_room (Nat.le_of_ble_eq_true rfl)) dW_init_3 ⟨Nat.le_of_ble_eq_true rfl, Nat.le_of_ble_eq_true rfl⟩) hI (fun h1 H locs p1 hI => ?_)
  obtain ⟨w2, zw2, eh1⟩ := p1
  have ne2 : q ≠ w2 := ur_fresh f0 zw2
  have fq2 : h1 q = some (.inr (6, [.int (nI nw), .ref w2, .int du, .long 0, .int 0, .int 0, .int 0, .null, .int 0, .int 0])) := by rw [eh1]; exact va_up_self _ _ _
  have fa2 : h1 w2 = some (.inl (E.1 0, nw, .inl (fun _ => 0))) := by rw [eh1]; exact (va_up_ne _ _ (Ne.symm ne2)).trans (va_up_self _ _ _)
  refine lv_aload_n hx hb dW_init_6 rfl (lv_at hl 0 rfl) ?_
  refine lv_sipush (v := 300) hx hb dW_init_7 (by decide) ?_
  refine ur_newA (t := .byte) hx hb hown (hts _ mw151) (hK.2.1.2.2.2.2.1 (.array .byte) (by decide)) 4 hV rfl hI (n := 300) (N' := 300) (by decide) rfl (by decide) (Nat.le_of_ble_eq_true rfl) (Nat.le_of_ble_eq_true rfl) dW_init_10 (fun w3 H zw3 hI => ?_)
  obtain ⟨h4, eh4⟩ : ∃ z : ur_M, z = va_up h1 w3 (some (.inl (E.1 4, 300, .inr (.inr (.inr (.inr (fun _ => none))))))) := ⟨_, rfl⟩
  replace hI : ur_I D vwCl (ur_A h s.heap.size) s.heap h4 H locs := by rw [eh4]; exact hI
  have n6 : q ≠ w3 := ur_fresh fq2 zw3
  have fq5 : h4 q = some (.inr (6, [.int (nI nw), .ref w2, .int du, .long 0, .int 0, .int 0, .int 0, .null, .int 0, .int 0])) := by rw [eh4]; exact (va_up_ne _ _ n6).trans fq2
  have n8 : w2 ≠ w3 := ur_fresh fa2 zw3
  have fq7 : h4 w2 = some (.inl (E.1 0, nw, .inl (fun _ => 0))) := by rw [eh4]; exact (va_up_ne _ _ n8).trans fa2
  have fq9 : h4 w3 = some (.inl (E.1 4, 300, .inr (.inr (.inr (.inr (fun _ => none)))))) := by rw [eh4]; exact va_up_self _ _ _
  refine ur_putF (D := D) (ci := 6) (v := .ref w3) (ty := (.array (.array .byte))) (C := "UnitRoom$Writer") (T := TW) (N := 10) hx hb hts inW tyW tyW_ok nmW hown hV hI fq5 rfl 7 (by decide) (hts _ mw153) (fun _ h9 => h9) rfl hin rfl (by decide +kernel) rfl rfl (Nat.le_of_ble_eq_true rfl) dW_init_13 (fun H locs hI => ?_)
  obtain ⟨h10, eh10⟩ : ∃ z : ur_M, z = va_up h4 q (some (.inr (6, [.int (nI nw), .ref w2, .int du, .long 0, .int 0, .int 0, .int 0, .ref w3, .int 0, .int 0]))) := ⟨_, rfl⟩
  replace hI : ur_I D vwCl (ur_A h s.heap.size) s.heap h10 H locs := by rw [eh10]; exact hI
  have fq11 : h10 q = some (.inr (6, [.int (nI nw), .ref w2, .int du, .long 0, .int 0, .int 0, .int 0, .ref w3, .int 0, .int 0])) := by rw [eh10]; exact (va_up_self _ _ _)
  have fq12 : h10 w2 = some (.inl (E.1 0, nw, .inl (fun _ => 0))) := by rw [eh10]; exact ((va_up_ne _ _ (Ne.symm ne2)).trans fq7)
  have fq13 : h10 w3 = some (.inl (E.1 4, 300, .inr (.inr (.inr (.inr (fun _ => none)))))) := by rw [eh10]; exact ((va_up_ne _ _ (Ne.symm n6)).trans fq9)
  refine lv_aload_n hx hb dW_init_16 rfl (lv_at hl 0 rfl) ?_
  refine lv_iconst (v := 0) hx hb dW_init_17 (by decide) ?_
  refine ur_put (D := D) (ci := 6) (v := .int 0) (ty := .int) (C := "UnitRoom$Writer") (T := TW) (N := 10) hx hb hts inW tyW tyW_ok nmW hown hV hI fq11 rfl 9 (by decide) (hts _ mw155) (fun _ h9 => h9) rfl (by decide +kernel) rfl rfl (Nat.le_of_ble_eq_true rfl) dW_init_18 (fun H locs hI => ?_)
  obtain ⟨h14, eh14⟩ : ∃ z : ur_M, z = va_up h10 q (some (.inr (6, [.int (nI nw), .ref w2, .int du, .long 0, .int 0, .int 0, .int 0, .ref w3, .int 0, .int 0]))) := ⟨_, rfl⟩
  replace hI : ur_I D vwCl (ur_A h s.heap.size) s.heap h14 H locs := by rw [eh14]; exact hI
  have fq15 : h14 q = some (.inr (6, [.int (nI nw), .ref w2, .int du, .long 0, .int 0, .int 0, .int 0, .ref w3, .int 0, .int 0])) := by rw [eh14]; exact (va_up_self _ _ _)
  have fq16 : h14 w2 = some (.inl (E.1 0, nw, .inl (fun _ => 0))) := by rw [eh14]; exact ((va_up_ne _ _ (Ne.symm ne2)).trans fq12)
  have fq17 : h14 w3 = some (.inl (E.1 4, 300, .inr (.inr (.inr (.inr (fun _ => none)))))) := by rw [eh14]; exact ((va_up_ne _ _ (Ne.symm n6)).trans fq13)
  refine lv_aload_n hx hb dW_init_21 rfl (lv_at hl 0 rfl) ?_
  refine lv_iload_n hx hb dW_init_22 rfl (lv_at hl 3 rfl) ?_
  refine ur_putF (D := D) (ci := 6) (v := .int hp) (ty := .boolean) (C := "UnitRoom$Writer") (T := TW) (N := 10) hx hb hts inW tyW tyW_ok nmW hown hV hI fq15 rfl 8 (by decide) (hts _ mw154) (fun _ h9 => h9) rfl hin rfl (by decide +kernel) (by rcases hhp with rfl | rfl <;> rfl) (by rcases hhp with rfl | rfl <;> rfl) (Nat.le_of_ble_eq_true rfl) dW_init_23 (fun H locs hI => ?_)
  obtain ⟨h18, eh18⟩ : ∃ z : ur_M, z = va_up h14 q (some (.inr (6, [.int (nI nw), .ref w2, .int du, .long 0, .int 0, .int 0, .int 0, .ref w3, .int hp, .int 0]))) := ⟨_, rfl⟩
  replace hI : ur_I D vwCl (ur_A h s.heap.size) s.heap h18 H locs := by rw [eh18]; exact hI
  have fq19 : h18 q = some (.inr (6, [.int (nI nw), .ref w2, .int du, .long 0, .int 0, .int 0, .int 0, .ref w3, .int hp, .int 0])) := by rw [eh18]; exact (va_up_self _ _ _)
  have fq20 : h18 w2 = some (.inl (E.1 0, nw, .inl (fun _ => 0))) := by rw [eh18]; exact ((va_up_ne _ _ (Ne.symm ne2)).trans fq16)
  have fq21 : h18 w3 = some (.inl (E.1 4, 300, .inr (.inr (.inr (.inr (fun _ => none)))))) := by rw [eh18]; exact ((va_up_ne _ _ (Ne.symm n6)).trans fq17)
  have hz9 := zw3
  rw [eh1] at hz9
  obtain ⟨hz9, hn9⟩ := ur_zup hz9
  obtain ⟨hz9, hn8⟩ := ur_zup hz9
  exact ur_rv hx hb hr hlocks hI hQ ⟨_, _, zw2, hz9, hn8, (by rw [eh18, eh14, eh10, eh4, eh1, bx_uu, bx_uu, ur_sw (Ne.symm hn9), ur_com (Ne.symm hn9)]; try rfl)⟩ dW_init_26
end
